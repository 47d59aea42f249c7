section
-- ===== PART A: goes FIRST, ahead of the names: the tables' words, and 'selects' of the private methods out of them =====
/-- a private method of a class that the tables say can be made, by its rows of tables_1 -/
def lw_okq (q : MethodName × Nat) : Prop := (q.1.cls ≠ "java/lang/invoke/MethodHandle" ∧ q.1.cls ≠ "java/lang/invoke/VarHandle") ∧ Cond.instantiable q.1.cls q.2 ∈ tables_1 ∧ Cond.privateMethod q.1 ∈ tables_1 ∧ Cond.instanceMethod q.1 ∈ tables_1
theorem lw_p0 : lw_okq (⟨"LadderBench$NetworkReader", "clearDepth", "()V"⟩, 3) := ⟨⟨by decide +kernel, by decide +kernel⟩, List.mem_of_getElem? (i := 173) (by decide +kernel), List.mem_of_getElem? (i := 327) (by decide +kernel), List.mem_of_getElem? (i := 328) (by decide +kernel)⟩
theorem lw_p1 : lw_okq (⟨"LadderBench$NetworkReader", "take", "(CLLadderBench$Network;)V"⟩, 3) := ⟨⟨by decide +kernel, by decide +kernel⟩, List.mem_of_getElem? (i := 173) (by decide +kernel), List.mem_of_getElem? (i := 331) (by decide +kernel), List.mem_of_getElem? (i := 332) (by decide +kernel)⟩
theorem lw_p2 : lw_okq (⟨"LadderBench$NetworkReader", "endChain", "(LLadderBench$Network;)I"⟩, 3) := ⟨⟨by decide +kernel, by decide +kernel⟩, List.mem_of_getElem? (i := 173) (by decide +kernel), List.mem_of_getElem? (i := 335) (by decide +kernel), List.mem_of_getElem? (i := 336) (by decide +kernel)⟩
theorem lw_p3 : lw_okq (⟨"LadderBench$NetworkReader", "endLink", "(LLadderBench$Network;)V"⟩, 3) := ⟨⟨by decide +kernel, by decide +kernel⟩, List.mem_of_getElem? (i := 173) (by decide +kernel), List.mem_of_getElem? (i := 339) (by decide +kernel), List.mem_of_getElem? (i := 340) (by decide +kernel)⟩
theorem lw_p4 : lw_okq (⟨"LadderBench$Network", "addPart", "(I)I"⟩, 5) := ⟨⟨by decide +kernel, by decide +kernel⟩, List.mem_of_getElem? (i := 52) (by decide +kernel), List.mem_of_getElem? (i := 353) (by decide +kernel), List.mem_of_getElem? (i := 354) (by decide +kernel)⟩
theorem lw_p5 : lw_okq (⟨"LadderBench$State", "unfoldEach", "()V"⟩, 8) := ⟨⟨by decide +kernel, by decide +kernel⟩, List.mem_of_getElem? (i := 46) (by decide +kernel), List.mem_of_getElem? (i := 365) (by decide +kernel), List.mem_of_getElem? (i := 366) (by decide +kernel)⟩
theorem lw_p6 : lw_okq (⟨"LadderBench$Command", "takesNumber", "()Z"⟩, 3) := ⟨⟨by decide +kernel, by decide +kernel⟩, List.mem_of_getElem? (i := 189) (by decide +kernel), List.mem_of_getElem? (i := 450) (by decide +kernel), List.mem_of_getElem? (i := 451) (by decide +kernel)⟩
theorem lw_p7 : lw_okq (⟨"LadderBench$Circuit", "putArm", "(LLadderBench$State;I)V"⟩, 5) := ⟨⟨by decide +kernel, by decide +kernel⟩, List.mem_of_getElem? (i := 206) (by decide +kernel), List.mem_of_getElem? (i := 537) (by decide +kernel), List.mem_of_getElem? (i := 538) (by decide +kernel)⟩
theorem lw_p8 : lw_okq (⟨"LadderBench$Circuit", "addUp", "(LLadderBench$Network;II)V"⟩, 5) := ⟨⟨by decide +kernel, by decide +kernel⟩, List.mem_of_getElem? (i := 206) (by decide +kernel), List.mem_of_getElem? (i := 548) (by decide +kernel), List.mem_of_getElem? (i := 549) (by decide +kernel)⟩
theorem lw_p9 : lw_okq (⟨"LadderBench$Circuit", "addMeter", "(LLadderBench$Fraction;I)V"⟩, 5) := ⟨⟨by decide +kernel, by decide +kernel⟩, List.mem_of_getElem? (i := 206) (by decide +kernel), List.mem_of_getElem? (i := 565) (by decide +kernel), List.mem_of_getElem? (i := 566) (by decide +kernel)⟩
theorem lw_p10 : lw_okq (⟨"LadderBench$Circuit", "findVolts", "(LLadderBench$State;I)V"⟩, 5) := ⟨⟨by decide +kernel, by decide +kernel⟩, List.mem_of_getElem? (i := 206) (by decide +kernel), List.mem_of_getElem? (i := 569) (by decide +kernel), List.mem_of_getElem? (i := 570) (by decide +kernel)⟩
theorem lw_p11 : lw_okq (⟨"LadderBench$Circuit", "divideVolts", "(LLadderBench$Network;II)V"⟩, 5) := ⟨⟨by decide +kernel, by decide +kernel⟩, List.mem_of_getElem? (i := 206) (by decide +kernel), List.mem_of_getElem? (i := 574) (by decide +kernel), List.mem_of_getElem? (i := 575) (by decide +kernel)⟩
theorem lw_p12 : lw_okq (⟨"LadderBench$Circuit", "countInfinite", "(LLadderBench$Network;I)I"⟩, 5) := ⟨⟨by decide +kernel, by decide +kernel⟩, List.mem_of_getElem? (i := 206) (by decide +kernel), List.mem_of_getElem? (i := 586) (by decide +kernel), List.mem_of_getElem? (i := 587) (by decide +kernel)⟩
theorem lw_p13 : lw_okq (⟨"LadderBench$Circuit", "takeOthersOff", "(LLadderBench$Network;ILLadderBench$Fraction;)Z"⟩, 5) := ⟨⟨by decide +kernel, by decide +kernel⟩, List.mem_of_getElem? (i := 206) (by decide +kernel), List.mem_of_getElem? (i := 710) (by decide +kernel), List.mem_of_getElem? (i := 711) (by decide +kernel)⟩
theorem lw_p14 : lw_okq (⟨"LadderBench", "couldBe", "(II)Z"⟩, 10) := ⟨⟨by decide +kernel, by decide +kernel⟩, List.mem_of_getElem? (i := 19) (by decide +kernel), List.mem_of_getElem? (i := 718) (by decide +kernel), List.mem_of_getElem? (i := 719) (by decide +kernel)⟩
theorem lw_p15 : lw_okq (⟨"LadderBenchModel", "readsNetwork", "()Z"⟩, 26) := ⟨⟨by decide +kernel, by decide +kernel⟩, List.mem_of_getElem? (i := 744) (by decide +kernel), List.mem_of_getElem? (i := 843) (by decide +kernel), List.mem_of_getElem? (i := 844) (by decide +kernel)⟩
def lw_privs_1 : List (MethodName × Nat) := [(⟨"LadderBench$NetworkReader", "clearDepth", "()V"⟩, 3), (⟨"LadderBench$NetworkReader", "take", "(CLLadderBench$Network;)V"⟩, 3), (⟨"LadderBench$NetworkReader", "endChain", "(LLadderBench$Network;)I"⟩, 3), (⟨"LadderBench$NetworkReader", "endLink", "(LLadderBench$Network;)V"⟩, 3), (⟨"LadderBench$Network", "addPart", "(I)I"⟩, 5), (⟨"LadderBench$State", "unfoldEach", "()V"⟩, 8), (⟨"LadderBench$Command", "takesNumber", "()Z"⟩, 3), (⟨"LadderBench$Circuit", "putArm", "(LLadderBench$State;I)V"⟩, 5), (⟨"LadderBench$Circuit", "addUp", "(LLadderBench$Network;II)V"⟩, 5), (⟨"LadderBench$Circuit", "addMeter", "(LLadderBench$Fraction;I)V"⟩, 5), (⟨"LadderBench$Circuit", "findVolts", "(LLadderBench$State;I)V"⟩, 5), (⟨"LadderBench$Circuit", "divideVolts", "(LLadderBench$Network;II)V"⟩, 5), (⟨"LadderBench$Circuit", "countInfinite", "(LLadderBench$Network;I)I"⟩, 5), (⟨"LadderBench$Circuit", "takeOthersOff", "(LLadderBench$Network;ILLadderBench$Fraction;)Z"⟩, 5), (⟨"LadderBench", "couldBe", "(II)Z"⟩, 10), (⟨"LadderBenchModel", "readsNetwork", "()Z"⟩, 26)]
theorem lw_r1 : ∀ q ∈ lw_privs_1, lw_okq q := List.forall_mem_cons.mpr ⟨lw_p0, List.forall_mem_cons.mpr ⟨lw_p1, List.forall_mem_cons.mpr ⟨lw_p2, List.forall_mem_cons.mpr ⟨lw_p3, List.forall_mem_cons.mpr ⟨lw_p4, List.forall_mem_cons.mpr ⟨lw_p5, List.forall_mem_cons.mpr ⟨lw_p6, List.forall_mem_cons.mpr ⟨lw_p7, List.forall_mem_cons.mpr ⟨lw_p8, List.forall_mem_cons.mpr ⟨lw_p9, List.forall_mem_cons.mpr ⟨lw_p10, List.forall_mem_cons.mpr ⟨lw_p11, List.forall_mem_cons.mpr ⟨lw_p12, List.forall_mem_cons.mpr ⟨lw_p13, List.forall_mem_cons.mpr ⟨lw_p14, List.forall_mem_cons.mpr ⟨lw_p15, fun _ h => absurd h List.not_mem_nil⟩⟩⟩⟩⟩⟩⟩⟩⟩⟩⟩⟩⟩⟩⟩⟩
theorem lw_p16 : lw_okq (⟨"LadderBenchModel", "isRead", "(I)Z"⟩, 26) := ⟨⟨by decide +kernel, by decide +kernel⟩, List.mem_of_getElem? (i := 744) (by decide +kernel), List.mem_of_getElem? (i := 850) (by decide +kernel), List.mem_of_getElem? (i := 851) (by decide +kernel)⟩
theorem lw_p17 : lw_okq (⟨"LadderBenchModel", "laysPart", "(III)V"⟩, 26) := ⟨⟨by decide +kernel, by decide +kernel⟩, List.mem_of_getElem? (i := 744) (by decide +kernel), List.mem_of_getElem? (i := 854) (by decide +kernel), List.mem_of_getElem? (i := 855) (by decide +kernel)⟩
theorem lw_p18 : lw_okq (⟨"LadderBenchModel", "endsLink", "(I)V"⟩, 26) := ⟨⟨by decide +kernel, by decide +kernel⟩, List.mem_of_getElem? (i := 744) (by decide +kernel), List.mem_of_getElem? (i := 858) (by decide +kernel), List.mem_of_getElem? (i := 859) (by decide +kernel)⟩
theorem lw_p19 : lw_okq (⟨"LadderBenchModel", "endsChain", "(I)V"⟩, 26) := ⟨⟨by decide +kernel, by decide +kernel⟩, List.mem_of_getElem? (i := 744) (by decide +kernel), List.mem_of_getElem? (i := 862) (by decide +kernel), List.mem_of_getElem? (i := 863) (by decide +kernel)⟩
theorem lw_p20 : lw_okq (⟨"LadderBenchModel", "record", "()V"⟩, 26) := ⟨⟨by decide +kernel, by decide +kernel⟩, List.mem_of_getElem? (i := 744) (by decide +kernel), List.mem_of_getElem? (i := 866) (by decide +kernel), List.mem_of_getElem? (i := 867) (by decide +kernel)⟩
theorem lw_p21 : lw_okq (⟨"LadderBenchModel", "readsCommand", "()Z"⟩, 26) := ⟨⟨by decide +kernel, by decide +kernel⟩, List.mem_of_getElem? (i := 744) (by decide +kernel), List.mem_of_getElem? (i := 875) (by decide +kernel), List.mem_of_getElem? (i := 876) (by decide +kernel)⟩
theorem lw_p22 : lw_okq (⟨"LadderBenchModel", "end", "()I"⟩, 26) := ⟨⟨by decide +kernel, by decide +kernel⟩, List.mem_of_getElem? (i := 744) (by decide +kernel), List.mem_of_getElem? (i := 879) (by decide +kernel), List.mem_of_getElem? (i := 880) (by decide +kernel)⟩
theorem lw_p23 : lw_okq (⟨"LadderBenchModel", "word", "(I)I"⟩, 26) := ⟨⟨by decide +kernel, by decide +kernel⟩, List.mem_of_getElem? (i := 744) (by decide +kernel), List.mem_of_getElem? (i := 883) (by decide +kernel), List.mem_of_getElem? (i := 884) (by decide +kernel)⟩
theorem lw_p24 : lw_okq (⟨"LadderBenchModel", "isWord", "(IIIIII)Z"⟩, 26) := ⟨⟨by decide +kernel, by decide +kernel⟩, List.mem_of_getElem? (i := 744) (by decide +kernel), List.mem_of_getElem? (i := 887) (by decide +kernel), List.mem_of_getElem? (i := 888) (by decide +kernel)⟩
theorem lw_p25 : lw_okq (⟨"LadderBenchModel", "takesBlank", "()Z"⟩, 26) := ⟨⟨by decide +kernel, by decide +kernel⟩, List.mem_of_getElem? (i := 744) (by decide +kernel), List.mem_of_getElem? (i := 891) (by decide +kernel), List.mem_of_getElem? (i := 892) (by decide +kernel)⟩
theorem lw_p26 : lw_okq (⟨"LadderBenchModel", "number", "(II)I"⟩, 26) := ⟨⟨by decide +kernel, by decide +kernel⟩, List.mem_of_getElem? (i := 744) (by decide +kernel), List.mem_of_getElem? (i := 895) (by decide +kernel), List.mem_of_getElem? (i := 896) (by decide +kernel)⟩
theorem lw_p27 : lw_okq (⟨"LadderBenchModel", "hasArm", "(I)Z"⟩, 26) := ⟨⟨by decide +kernel, by decide +kernel⟩, List.mem_of_getElem? (i := 744) (by decide +kernel), List.mem_of_getElem? (i := 899) (by decide +kernel), List.mem_of_getElem? (i := 900) (by decide +kernel)⟩
theorem lw_p28 : lw_okq (⟨"LadderBenchModel", "ofArm", "(II)I"⟩, 26) := ⟨⟨by decide +kernel, by decide +kernel⟩, List.mem_of_getElem? (i := 744) (by decide +kernel), List.mem_of_getElem? (i := 903) (by decide +kernel), List.mem_of_getElem? (i := 904) (by decide +kernel)⟩
theorem lw_p29 : lw_okq (⟨"LadderBenchModel", "unfoldAll", "()V"⟩, 26) := ⟨⟨by decide +kernel, by decide +kernel⟩, List.mem_of_getElem? (i := 744) (by decide +kernel), List.mem_of_getElem? (i := 907) (by decide +kernel), List.mem_of_getElem? (i := 908) (by decide +kernel)⟩
theorem lw_p30 : lw_okq (⟨"LadderBenchModel", "parts", "()I"⟩, 26) := ⟨⟨by decide +kernel, by decide +kernel⟩, List.mem_of_getElem? (i := 744) (by decide +kernel), List.mem_of_getElem? (i := 911) (by decide +kernel), List.mem_of_getElem? (i := 912) (by decide +kernel)⟩
theorem lw_p31 : lw_okq (⟨"LadderBenchModel", "ofPart", "(II)I"⟩, 26) := ⟨⟨by decide +kernel, by decide +kernel⟩, List.mem_of_getElem? (i := 744) (by decide +kernel), List.mem_of_getElem? (i := 915) (by decide +kernel), List.mem_of_getElem? (i := 916) (by decide +kernel)⟩
def lw_privs_2 : List (MethodName × Nat) := [(⟨"LadderBenchModel", "isRead", "(I)Z"⟩, 26), (⟨"LadderBenchModel", "laysPart", "(III)V"⟩, 26), (⟨"LadderBenchModel", "endsLink", "(I)V"⟩, 26), (⟨"LadderBenchModel", "endsChain", "(I)V"⟩, 26), (⟨"LadderBenchModel", "record", "()V"⟩, 26), (⟨"LadderBenchModel", "readsCommand", "()Z"⟩, 26), (⟨"LadderBenchModel", "end", "()I"⟩, 26), (⟨"LadderBenchModel", "word", "(I)I"⟩, 26), (⟨"LadderBenchModel", "isWord", "(IIIIII)Z"⟩, 26), (⟨"LadderBenchModel", "takesBlank", "()Z"⟩, 26), (⟨"LadderBenchModel", "number", "(II)I"⟩, 26), (⟨"LadderBenchModel", "hasArm", "(I)Z"⟩, 26), (⟨"LadderBenchModel", "ofArm", "(II)I"⟩, 26), (⟨"LadderBenchModel", "unfoldAll", "()V"⟩, 26), (⟨"LadderBenchModel", "parts", "()I"⟩, 26), (⟨"LadderBenchModel", "ofPart", "(II)I"⟩, 26)]
theorem lw_r2 : ∀ q ∈ lw_privs_2, lw_okq q := List.forall_mem_cons.mpr ⟨lw_p16, List.forall_mem_cons.mpr ⟨lw_p17, List.forall_mem_cons.mpr ⟨lw_p18, List.forall_mem_cons.mpr ⟨lw_p19, List.forall_mem_cons.mpr ⟨lw_p20, List.forall_mem_cons.mpr ⟨lw_p21, List.forall_mem_cons.mpr ⟨lw_p22, List.forall_mem_cons.mpr ⟨lw_p23, List.forall_mem_cons.mpr ⟨lw_p24, List.forall_mem_cons.mpr ⟨lw_p25, List.forall_mem_cons.mpr ⟨lw_p26, List.forall_mem_cons.mpr ⟨lw_p27, List.forall_mem_cons.mpr ⟨lw_p28, List.forall_mem_cons.mpr ⟨lw_p29, List.forall_mem_cons.mpr ⟨lw_p30, List.forall_mem_cons.mpr ⟨lw_p31, fun _ h => absurd h List.not_mem_nil⟩⟩⟩⟩⟩⟩⟩⟩⟩⟩⟩⟩⟩⟩⟩⟩
theorem lw_p32 : lw_okq (⟨"LadderBenchModel", "noPart", "(I)Z"⟩, 26) := ⟨⟨by decide +kernel, by decide +kernel⟩, List.mem_of_getElem? (i := 744) (by decide +kernel), List.mem_of_getElem? (i := 923) (by decide +kernel), List.mem_of_getElem? (i := 924) (by decide +kernel)⟩
theorem lw_p33 : lw_okq (⟨"LadderBenchModel", "mayFold", "(I)Z"⟩, 26) := ⟨⟨by decide +kernel, by decide +kernel⟩, List.mem_of_getElem? (i := 744) (by decide +kernel), List.mem_of_getElem? (i := 927) (by decide +kernel), List.mem_of_getElem? (i := 928) (by decide +kernel)⟩
theorem lw_p34 : lw_okq (⟨"LadderBenchModel", "isFolded", "(I)Z"⟩, 26) := ⟨⟨by decide +kernel, by decide +kernel⟩, List.mem_of_getElem? (i := 744) (by decide +kernel), List.mem_of_getElem? (i := 931) (by decide +kernel), List.mem_of_getElem? (i := 932) (by decide +kernel)⟩
theorem lw_p35 : lw_okq (⟨"LadderBenchModel", "folds", "(I)V"⟩, 26) := ⟨⟨by decide +kernel, by decide +kernel⟩, List.mem_of_getElem? (i := 744) (by decide +kernel), List.mem_of_getElem? (i := 935) (by decide +kernel), List.mem_of_getElem? (i := 936) (by decide +kernel)⟩
theorem lw_p36 : lw_okq (⟨"LadderBenchModel", "open", "()I"⟩, 26) := ⟨⟨by decide +kernel, by decide +kernel⟩, List.mem_of_getElem? (i := 744) (by decide +kernel), List.mem_of_getElem? (i := 939) (by decide +kernel), List.mem_of_getElem? (i := 940) (by decide +kernel)⟩
theorem lw_p37 : lw_okq (⟨"LadderBenchModel", "nextFold", "(Z)I"⟩, 26) := ⟨⟨by decide +kernel, by decide +kernel⟩, List.mem_of_getElem? (i := 744) (by decide +kernel), List.mem_of_getElem? (i := 947) (by decide +kernel), List.mem_of_getElem? (i := 948) (by decide +kernel)⟩
theorem lw_p38 : lw_okq (⟨"LadderBenchModel", "telling", "(II)I"⟩, 26) := ⟨⟨by decide +kernel, by decide +kernel⟩, List.mem_of_getElem? (i := 744) (by decide +kernel), List.mem_of_getElem? (i := 959) (by decide +kernel), List.mem_of_getElem? (i := 960) (by decide +kernel)⟩
theorem lw_p39 : lw_okq (⟨"LadderBenchModel", "lay", "(III)V"⟩, 26) := ⟨⟨by decide +kernel, by decide +kernel⟩, List.mem_of_getElem? (i := 744) (by decide +kernel), List.mem_of_getElem? (i := 963) (by decide +kernel), List.mem_of_getElem? (i := 964) (by decide +kernel)⟩
theorem lw_p40 : lw_okq (⟨"LadderBenchModel", "layArm", "(III)V"⟩, 26) := ⟨⟨by decide +kernel, by decide +kernel⟩, List.mem_of_getElem? (i := 744) (by decide +kernel), List.mem_of_getElem? (i := 967) (by decide +kernel), List.mem_of_getElem? (i := 968) (by decide +kernel)⟩
theorem lw_p41 : lw_okq (⟨"LadderBenchModel", "laySeries", "(I)V"⟩, 26) := ⟨⟨by decide +kernel, by decide +kernel⟩, List.mem_of_getElem? (i := 744) (by decide +kernel), List.mem_of_getElem? (i := 971) (by decide +kernel), List.mem_of_getElem? (i := 972) (by decide +kernel)⟩
theorem lw_p42 : lw_okq (⟨"LadderBenchModel", "sum", "(JJJJ)V"⟩, 26) := ⟨⟨by decide +kernel, by decide +kernel⟩, List.mem_of_getElem? (i := 744) (by decide +kernel), List.mem_of_getElem? (i := 975) (by decide +kernel), List.mem_of_getElem? (i := 976) (by decide +kernel)⟩
theorem lw_p43 : lw_okq (⟨"LadderBenchModel", "becomes", "(JJ)V"⟩, 26) := ⟨⟨by decide +kernel, by decide +kernel⟩, List.mem_of_getElem? (i := 744) (by decide +kernel), List.mem_of_getElem? (i := 982) (by decide +kernel), List.mem_of_getElem? (i := 983) (by decide +kernel)⟩
theorem lw_p44 : lw_okq (⟨"LadderBenchModel", "letsOf", "(II)V"⟩, 26) := ⟨⟨by decide +kernel, by decide +kernel⟩, List.mem_of_getElem? (i := 744) (by decide +kernel), List.mem_of_getElem? (i := 986) (by decide +kernel), List.mem_of_getElem? (i := 987) (by decide +kernel)⟩
theorem lw_p45 : lw_okq (⟨"LadderBenchModel", "lets", "(JJ)V"⟩, 26) := ⟨⟨by decide +kernel, by decide +kernel⟩, List.mem_of_getElem? (i := 744) (by decide +kernel), List.mem_of_getElem? (i := 990) (by decide +kernel), List.mem_of_getElem? (i := 991) (by decide +kernel)⟩
theorem lw_p46 : lw_okq (⟨"LadderBenchModel", "takeLets", "(I)V"⟩, 26) := ⟨⟨by decide +kernel, by decide +kernel⟩, List.mem_of_getElem? (i := 744) (by decide +kernel), List.mem_of_getElem? (i := 994) (by decide +kernel), List.mem_of_getElem? (i := 995) (by decide +kernel)⟩
theorem lw_p47 : lw_okq (⟨"LadderBenchModel", "findVoltage", "(II)V"⟩, 26) := ⟨⟨by decide +kernel, by decide +kernel⟩, List.mem_of_getElem? (i := 744) (by decide +kernel), List.mem_of_getElem? (i := 1007) (by decide +kernel), List.mem_of_getElem? (i := 1008) (by decide +kernel)⟩
def lw_privs_3 : List (MethodName × Nat) := [(⟨"LadderBenchModel", "noPart", "(I)Z"⟩, 26), (⟨"LadderBenchModel", "mayFold", "(I)Z"⟩, 26), (⟨"LadderBenchModel", "isFolded", "(I)Z"⟩, 26), (⟨"LadderBenchModel", "folds", "(I)V"⟩, 26), (⟨"LadderBenchModel", "open", "()I"⟩, 26), (⟨"LadderBenchModel", "nextFold", "(Z)I"⟩, 26), (⟨"LadderBenchModel", "telling", "(II)I"⟩, 26), (⟨"LadderBenchModel", "lay", "(III)V"⟩, 26), (⟨"LadderBenchModel", "layArm", "(III)V"⟩, 26), (⟨"LadderBenchModel", "laySeries", "(I)V"⟩, 26), (⟨"LadderBenchModel", "sum", "(JJJJ)V"⟩, 26), (⟨"LadderBenchModel", "becomes", "(JJ)V"⟩, 26), (⟨"LadderBenchModel", "letsOf", "(II)V"⟩, 26), (⟨"LadderBenchModel", "lets", "(JJ)V"⟩, 26), (⟨"LadderBenchModel", "takeLets", "(I)V"⟩, 26), (⟨"LadderBenchModel", "findVoltage", "(II)V"⟩, 26)]
theorem lw_r3 : ∀ q ∈ lw_privs_3, lw_okq q := List.forall_mem_cons.mpr ⟨lw_p32, List.forall_mem_cons.mpr ⟨lw_p33, List.forall_mem_cons.mpr ⟨lw_p34, List.forall_mem_cons.mpr ⟨lw_p35, List.forall_mem_cons.mpr ⟨lw_p36, List.forall_mem_cons.mpr ⟨lw_p37, List.forall_mem_cons.mpr ⟨lw_p38, List.forall_mem_cons.mpr ⟨lw_p39, List.forall_mem_cons.mpr ⟨lw_p40, List.forall_mem_cons.mpr ⟨lw_p41, List.forall_mem_cons.mpr ⟨lw_p42, List.forall_mem_cons.mpr ⟨lw_p43, List.forall_mem_cons.mpr ⟨lw_p44, List.forall_mem_cons.mpr ⟨lw_p45, List.forall_mem_cons.mpr ⟨lw_p46, List.forall_mem_cons.mpr ⟨lw_p47, fun _ h => absurd h List.not_mem_nil⟩⟩⟩⟩⟩⟩⟩⟩⟩⟩⟩⟩⟩⟩⟩⟩
theorem lw_p48 : lw_okq (⟨"LadderBenchModel", "layVoltages", "(I)V"⟩, 26) := ⟨⟨by decide +kernel, by decide +kernel⟩, List.mem_of_getElem? (i := 744) (by decide +kernel), List.mem_of_getElem? (i := 1011) (by decide +kernel), List.mem_of_getElem? (i := 1012) (by decide +kernel)⟩
theorem lw_p49 : lw_okq (⟨"LadderBenchModel", "layVoltage", "(II)V"⟩, 26) := ⟨⟨by decide +kernel, by decide +kernel⟩, List.mem_of_getElem? (i := 744) (by decide +kernel), List.mem_of_getElem? (i := 1015) (by decide +kernel), List.mem_of_getElem? (i := 1016) (by decide +kernel)⟩
theorem lw_p50 : lw_okq (⟨"LadderBenchModel", "infinite", "(I)I"⟩, 26) := ⟨⟨by decide +kernel, by decide +kernel⟩, List.mem_of_getElem? (i := 744) (by decide +kernel), List.mem_of_getElem? (i := 1019) (by decide +kernel), List.mem_of_getElem? (i := 1020) (by decide +kernel)⟩
theorem lw_p51 : lw_okq (⟨"LadderBenchModel", "product", "(JJJJ)V"⟩, 26) := ⟨⟨by decide +kernel, by decide +kernel⟩, List.mem_of_getElem? (i := 744) (by decide +kernel), List.mem_of_getElem? (i := 1023) (by decide +kernel), List.mem_of_getElem? (i := 1024) (by decide +kernel)⟩
theorem lw_p52 : lw_okq (⟨"LadderBenchModel", "lossOf", "(I)I"⟩, 26) := ⟨⟨by decide +kernel, by decide +kernel⟩, List.mem_of_getElem? (i := 744) (by decide +kernel), List.mem_of_getElem? (i := 1035) (by decide +kernel), List.mem_of_getElem? (i := 1036) (by decide +kernel)⟩
theorem lw_p53 : lw_okq (⟨"LadderBenchModel", "armsIn", "(I)I"⟩, 26) := ⟨⟨by decide +kernel, by decide +kernel⟩, List.mem_of_getElem? (i := 744) (by decide +kernel), List.mem_of_getElem? (i := 1069) (by decide +kernel), List.mem_of_getElem? (i := 1070) (by decide +kernel)⟩
theorem lw_p54 : lw_okq (⟨"LadderBenchModel", "firstIn", "(I)I"⟩, 26) := ⟨⟨by decide +kernel, by decide +kernel⟩, List.mem_of_getElem? (i := 744) (by decide +kernel), List.mem_of_getElem? (i := 1073) (by decide +kernel), List.mem_of_getElem? (i := 1074) (by decide +kernel)⟩
theorem lw_p55 : lw_okq (⟨"LadderBenchModel", "armBy", "(I)I"⟩, 26) := ⟨⟨by decide +kernel, by decide +kernel⟩, List.mem_of_getElem? (i := 744) (by decide +kernel), List.mem_of_getElem? (i := 1081) (by decide +kernel), List.mem_of_getElem? (i := 1082) (by decide +kernel)⟩
theorem lw_p56 : lw_okq (⟨"LadderBenchModel", "find", "(III)I"⟩, 26) := ⟨⟨by decide +kernel, by decide +kernel⟩, List.mem_of_getElem? (i := 744) (by decide +kernel), List.mem_of_getElem? (i := 1090) (by decide +kernel), List.mem_of_getElem? (i := 1091) (by decide +kernel)⟩
theorem lw_p57 : lw_okq (⟨"LadderBenchModel", "goesIn", "(II)I"⟩, 26) := ⟨⟨by decide +kernel, by decide +kernel⟩, List.mem_of_getElem? (i := 744) (by decide +kernel), List.mem_of_getElem? (i := 1094) (by decide +kernel), List.mem_of_getElem? (i := 1095) (by decide +kernel)⟩
def lw_privs_4 : List (MethodName × Nat) := [(⟨"LadderBenchModel", "layVoltages", "(I)V"⟩, 26), (⟨"LadderBenchModel", "layVoltage", "(II)V"⟩, 26), (⟨"LadderBenchModel", "infinite", "(I)I"⟩, 26), (⟨"LadderBenchModel", "product", "(JJJJ)V"⟩, 26), (⟨"LadderBenchModel", "lossOf", "(I)I"⟩, 26), (⟨"LadderBenchModel", "armsIn", "(I)I"⟩, 26), (⟨"LadderBenchModel", "firstIn", "(I)I"⟩, 26), (⟨"LadderBenchModel", "armBy", "(I)I"⟩, 26), (⟨"LadderBenchModel", "find", "(III)I"⟩, 26), (⟨"LadderBenchModel", "goesIn", "(II)I"⟩, 26)]
theorem lw_r4 : ∀ q ∈ lw_privs_4, lw_okq q := List.forall_mem_cons.mpr ⟨lw_p48, List.forall_mem_cons.mpr ⟨lw_p49, List.forall_mem_cons.mpr ⟨lw_p50, List.forall_mem_cons.mpr ⟨lw_p51, List.forall_mem_cons.mpr ⟨lw_p52, List.forall_mem_cons.mpr ⟨lw_p53, List.forall_mem_cons.mpr ⟨lw_p54, List.forall_mem_cons.mpr ⟨lw_p55, List.forall_mem_cons.mpr ⟨lw_p56, List.forall_mem_cons.mpr ⟨lw_p57, fun _ h => absurd h List.not_mem_nil⟩⟩⟩⟩⟩⟩⟩⟩⟩⟩
def lw_privs : List (MethodName × Nat) := lw_privs_1 ++ (lw_privs_2 ++ (lw_privs_3 ++ (lw_privs_4)))
def lw_tbl : List Cond := k2_sels lw_privs ++ tables_1
theorem lw_privs_ok : ∀ q ∈ lw_privs, lw_okq q := by
  show ∀ q ∈ lw_privs_1 ++ (lw_privs_2 ++ (lw_privs_3 ++ (lw_privs_4))), lw_okq q
  exact List.forall_mem_append.mpr ⟨lw_r1, List.forall_mem_append.mpr ⟨lw_r2, List.forall_mem_append.mpr ⟨lw_r3, lw_r4⟩⟩⟩
-- ===== end of PART A; then your names; then what follows =====
end
section
/-! ===== BEGIN words of one list among another's, by their places ===== -/
theorem goodIn_r {big : List Cond} (ws : List Cond) (ps : List Nat) (hp : ws = ps.filterMap (fun i => big[i]?)) (h : ws.all goodWord = true) : GoodIn big ws := by
  intro w hw
  have h1 := List.all_eq_true.mp h w hw
  rw [hp] at hw
  obtain ⟨i, -, hi⟩ := List.mem_filterMap.mp hw
  have hm : w ∈ big := by first | exact List.mem_of_getElem? hi | exact List.getElem?_mem hi
  exact ⟨hm, good_of_word h1⟩
theorem goodIn_app {big a b : List Cond} (ha : GoodIn big a) (hb : GoodIn big b) : GoodIn big (a ++ b) := fun w h => (List.mem_append.mp h).elim (ha w) (hb w)
theorem goodIn_ca {big a b : List Cond} {c : Cond} (ha : GoodIn big (c :: a)) (hb : GoodIn big b) : GoodIn big (c :: (a ++ b)) := fun w h => (List.mem_cons.mp h).elim (fun e => ha w (List.mem_cons.mpr (Or.inl e))) (fun h => (List.mem_append.mp h).elim (fun h => ha w (List.mem_cons.mpr (Or.inr h))) (hb w))
theorem goodIn_sub {big ws : List Cond} (hm : ∀ w ∈ ws, w ∈ big) (h : ws.all goodWord = true) : GoodIn big ws := fun w hw => ⟨hm w hw, good_of_word (List.all_eq_true.mp h w hw)⟩
/-! ===== END ===== -/

/-! ===== BEGIN printed: names, fields, word lists, decode rows ===== -/
def RX0 : String := "LadderBench$Circuit"
def TX0 : u_T := fun k => match k with
  | 0 => ("LadderBench$Circuit", "ohms", "[LLadderBench$Fraction;", true)
  | 1 => ("LadderBench$Circuit", "volts", "[LLadderBench$Fraction;", true)
  | 2 => ("LadderBench$Circuit", "sum", "LLadderBench$Fraction;", true)
  | 3 => ("LadderBench$Circuit", "share", "LLadderBench$Fraction;", true)
  | _ => ("LadderBench$Circuit", "unloaded", "LLadderBench$Fraction;", true)
def tyX0 : Nat → FieldType := fun k => match k with
  | 0 => .array (.object "LadderBench$Fraction")
  | 1 => .array (.object "LadderBench$Fraction")
  | 2 => .object "LadderBench$Fraction"
  | 3 => .object "LadderBench$Fraction"
  | _ => .object "LadderBench$Fraction"
abbrev wsX00 : List Cond := u_ws RX0 TX0 5
theorem nmX0 : ∀ a, a < 5 → ∀ b, b < 5 → a ≠ b → (TX0 a).2.1 ≠ (TX0 b).2.1 := by decide +kernel
theorem tyX0_ok : ∀ k, k < 5 → parseFieldDescriptor (TX0 k).2.2.1 = some (tyX0 k) := by decide +kernel
abbrev cX0_init : ByteArray := prog_2_method_1_code
def yX0_init : MethodName := ⟨RX0, "<init>", "()V"⟩
abbrev cX0_findOhms : ByteArray := prog_2_method_2_code
def yX0_findOhms : MethodName := ⟨RX0, "findOhms", "(LLadderBench$State;I)V"⟩
abbrev cX0_putArm : ByteArray := prog_2_method_3_code
def yX0_putArm : MethodName := ⟨RX0, "putArm", "(LLadderBench$State;I)V"⟩
abbrev cX0_addUp : ByteArray := prog_2_method_4_code
def yX0_addUp : MethodName := ⟨RX0, "addUp", "(LLadderBench$Network;II)V"⟩
abbrev cX0_addMeter : ByteArray := prog_2_method_5_code
def yX0_addMeter : MethodName := ⟨RX0, "addMeter", "(LLadderBench$Fraction;I)V"⟩
abbrev cX0_findVoltage : ByteArray := prog_2_method_6_code
def yX0_findVoltage : MethodName := ⟨RX0, "findVoltage", "(LLadderBench$State;I)LLadderBench$Fraction;"⟩
abbrev cX0_findReading : ByteArray := prog_2_method_7_code
def yX0_findReading : MethodName := ⟨RX0, "findReading", "(LLadderBench$State;I)LLadderBench$Fraction;"⟩
abbrev cX0_findVolts : ByteArray := prog_2_method_8_code
def yX0_findVolts : MethodName := ⟨RX0, "findVolts", "(LLadderBench$State;I)V"⟩
abbrev cX0_divideVolts : ByteArray := prog_2_method_9_code
def yX0_divideVolts : MethodName := ⟨RX0, "divideVolts", "(LLadderBench$Network;II)V"⟩
abbrev cX0_countInfinite : ByteArray := prog_2_method_10_code
def yX0_countInfinite : MethodName := ⟨RX0, "countInfinite", "(LLadderBench$Network;I)I"⟩
abbrev cX0_findLoss : ByteArray := prog_2_method_11_code
def yX0_findLoss : MethodName := ⟨RX0, "findLoss", "(LLadderBench$State;I)I"⟩
abbrev cX0_solveFor : ByteArray := prog_2_method_12_code
def yX0_solveFor : MethodName := ⟨RX0, "solveFor", "(LLadderBench$State;ILLadderBench$Fraction;)I"⟩
abbrev cX0_takeOthersOff : ByteArray := prog_2_method_13_code
def yX0_takeOthersOff : MethodName := ⟨RX0, "takeOthersOff", "(LLadderBench$Network;ILLadderBench$Fraction;)Z"⟩
def RX1 : String := "LadderBench$Command"
def TX1 : u_T := fun k => match k with
  | 0 => ("LadderBench$Command", "action", "I", false)
  | 1 => ("LadderBench$Command", "number", "I", false)
  | _ => ("LadderBench$Command", "letter", "I", false)
def tyX1 : Nat → FieldType := fun k => match k with
  | 0 => .int
  | 1 => .int
  | _ => .int
abbrev wsX10 : List Cond := u_ws RX1 TX1 3
theorem nmX1 : ∀ a, a < 3 → ∀ b, b < 3 → a ≠ b → (TX1 a).2.1 ≠ (TX1 b).2.1 := by decide +kernel
theorem tyX1_ok : ∀ k, k < 3 → parseFieldDescriptor (TX1 k).2.2.1 = some (tyX1 k) := by decide +kernel
abbrev cX1_init : ByteArray := prog_3_method_1_code
def yX1_init : MethodName := ⟨RX1, "<init>", "()V"⟩
abbrev cX1_read : ByteArray := prog_3_method_2_code
def yX1_read : MethodName := ⟨RX1, "read", "(LLadderBench$Line;)I"⟩
abbrev cX1_takesLetter : ByteArray := prog_3_method_3_code
def yX1_takesLetter : MethodName := ⟨RX1, "takesLetter", "()Z"⟩
abbrev cX1_takesNumber : ByteArray := prog_3_method_4_code
def yX1_takesNumber : MethodName := ⟨RX1, "takesNumber", "()Z"⟩
abbrev cX1_findAction : ByteArray := prog_3_method_5_code
def yX1_findAction : MethodName := ⟨RX1, "findAction", "(LLadderBench$Line;I)I"⟩
abbrev cX1_readNumber : ByteArray := prog_3_method_6_code
def yX1_readNumber : MethodName := ⟨RX1, "readNumber", "(LLadderBench$Line;II)I"⟩
abbrev cX1_isDoneIn : ByteArray := prog_3_method_7_code
def yX1_isDoneIn : MethodName := ⟨RX1, "isDoneIn", "(LLadderBench$State;)Z"⟩
abbrev cX1_changeIn : ByteArray := prog_3_method_8_code
def yX1_changeIn : MethodName := ⟨RX1, "changeIn", "(LLadderBench$State;)V"⟩
def RX2 : String := "LadderBench$Fraction"
def TX2 : u_T := fun k => match k with
  | 0 => ("LadderBench$Fraction", "upper", "J", false)
  | _ => ("LadderBench$Fraction", "lower", "J", false)
def tyX2 : Nat → FieldType := fun k => match k with
  | 0 => .long
  | _ => .long
abbrev wsX20 : List Cond := u_ws RX2 TX2 2
theorem nmX2 : ∀ a, a < 2 → ∀ b, b < 2 → a ≠ b → (TX2 a).2.1 ≠ (TX2 b).2.1 := by decide +kernel
theorem tyX2_ok : ∀ k, k < 2 → parseFieldDescriptor (TX2 k).2.2.1 = some (tyX2 k) := by decide +kernel
abbrev cX2_init : ByteArray := prog_4_method_1_code
def yX2_init : MethodName := ⟨RX2, "<init>", "()V"⟩
abbrev cX2_put : ByteArray := prog_4_method_2_code
def yX2_put : MethodName := ⟨RX2, "put", "(JJ)V"⟩
abbrev cX2_copy : ByteArray := prog_4_method_3_code
def yX2_copy : MethodName := ⟨RX2, "copy", "(LLadderBench$Fraction;)V"⟩
abbrev cX2_half : ByteArray := prog_4_method_4_code
def yX2_half : MethodName := ⟨RX2, "half", "(I)J"⟩
abbrev cX2_isInfinite : ByteArray := prog_4_method_5_code
def yX2_isInfinite : MethodName := ⟨RX2, "isInfinite", "()Z"⟩
abbrev cX2_isZero : ByteArray := prog_4_method_6_code
def yX2_isZero : MethodName := ⟨RX2, "isZero", "()Z"⟩
abbrev cX2_isSame : ByteArray := prog_4_method_7_code
def yX2_isSame : MethodName := ⟨RX2, "isSame", "(LLadderBench$Fraction;)Z"⟩
abbrev cX2_invert : ByteArray := prog_4_method_8_code
def yX2_invert : MethodName := ⟨RX2, "invert", "()V"⟩
abbrev cX2_add : ByteArray := prog_4_method_9_code
def yX2_add : MethodName := ⟨RX2, "add", "(LLadderBench$Fraction;I)V"⟩
abbrev cX2_multiply : ByteArray := prog_4_method_10_code
def yX2_multiply : MethodName := ⟨RX2, "multiply", "(LLadderBench$Fraction;)V"⟩
abbrev cX2_commonDivisor : ByteArray := prog_4_method_11_code
def yX2_commonDivisor : MethodName := ⟨RX2, "commonDivisor", "(JJ)J"⟩
def RX3 : String := "LadderBench$History"
def TX3 : u_T := fun k => match k with
  | 0 => ("LadderBench$History", "states", "[LLadderBench$State;", true)
  | 1 => ("LadderBench$History", "oldest", "I", false)
  | _ => ("LadderBench$History", "size", "I", false)
def tyX3 : Nat → FieldType := fun k => match k with
  | 0 => .array (.object "LadderBench$State")
  | 1 => .int
  | _ => .int
abbrev wsX30 : List Cond := u_ws RX3 TX3 3
theorem nmX3 : ∀ a, a < 3 → ∀ b, b < 3 → a ≠ b → (TX3 a).2.1 ≠ (TX3 b).2.1 := by decide +kernel
theorem tyX3_ok : ∀ k, k < 3 → parseFieldDescriptor (TX3 k).2.2.1 = some (tyX3 k) := by decide +kernel
abbrev cX3_init : ByteArray := prog_5_method_1_code
def yX3_init : MethodName := ⟨RX3, "<init>", "()V"⟩
abbrev cX3_record : ByteArray := prog_5_method_2_code
def yX3_record : MethodName := ⟨RX3, "record", "(LLadderBench$State;)V"⟩
abbrev cX3_giveBack : ByteArray := prog_5_method_3_code
def yX3_giveBack : MethodName := ⟨RX3, "giveBack", "(LLadderBench$State;)V"⟩
def RX4 : String := "LadderBench$Line"
def TX4 : u_T := fun k => match k with
  | 0 => ("LadderBench$Line", "characters", "[C", true)
  | _ => ("LadderBench$Line", "length", "I", false)
def tyX4 : Nat → FieldType := fun k => match k with
  | 0 => .array .char
  | _ => .int
abbrev wsX40 : List Cond := u_ws RX4 TX4 2
theorem nmX4 : ∀ a, a < 2 → ∀ b, b < 2 → a ≠ b → (TX4 a).2.1 ≠ (TX4 b).2.1 := by decide +kernel
theorem tyX4_ok : ∀ k, k < 2 → parseFieldDescriptor (TX4 k).2.2.1 = some (tyX4 k) := by decide +kernel
abbrev cX4_init : ByteArray := prog_6_method_1_code
def yX4_init : MethodName := ⟨RX4, "<init>", "()V"⟩
abbrev cX4_append : ByteArray := prog_6_method_2_code
def yX4_append : MethodName := ⟨RX4, "append", "(C)V"⟩
abbrev cX4_findBlank : ByteArray := prog_6_method_3_code
def yX4_findBlank : MethodName := ⟨RX4, "findBlank", "(I)I"⟩
abbrev cX4_spells : ByteArray := prog_6_method_4_code
def yX4_spells : MethodName := ⟨RX4, "spells", "(IILjava/lang/String;)Z"⟩
def RX5 : String := "LadderBench$Network"
def TX5 : u_T := fun k => match k with
  | 0 => ("LadderBench$Network", "kind", "[I", true)
  | 1 => ("LadderBench$Network", "around", "[I", true)
  | 2 => ("LadderBench$Network", "letter", "[I", true)
  | 3 => ("LadderBench$Network", "partOfArm", "[I", true)
  | _ => ("LadderBench$Network", "size", "I", false)
def tyX5 : Nat → FieldType := fun k => match k with
  | 0 => .array .int
  | 1 => .array .int
  | 2 => .array .int
  | 3 => .array .int
  | _ => .int
abbrev wsX50 : List Cond := u_ws RX5 TX5 5
theorem nmX5 : ∀ a, a < 5 → ∀ b, b < 5 → a ≠ b → (TX5 a).2.1 ≠ (TX5 b).2.1 := by decide +kernel
theorem tyX5_ok : ∀ k, k < 5 → parseFieldDescriptor (TX5 k).2.2.1 = some (tyX5 k) := by decide +kernel
abbrev cX5_init : ByteArray := prog_7_method_1_code
def yX5_init : MethodName := ⟨RX5, "<init>", "()V"⟩
abbrev cX5_copy : ByteArray := prog_7_method_2_code
def yX5_copy : MethodName := ⟨RX5, "copy", "(LLadderBench$Network;)V"⟩
abbrev cX5_clear : ByteArray := prog_7_method_3_code
def yX5_clear : MethodName := ⟨RX5, "clear", "()V"⟩
abbrev cX5_addArm : ByteArray := prog_7_method_4_code
def yX5_addArm : MethodName := ⟨RX5, "addArm", "(I)I"⟩
abbrev cX5_join : ByteArray := prog_7_method_5_code
def yX5_join : MethodName := ⟨RX5, "join", "(II)I"⟩
abbrev cX5_addPart : ByteArray := prog_7_method_6_code
def yX5_addPart : MethodName := ⟨RX5, "addPart", "(I)I"⟩
abbrev cX5_hasPart : ByteArray := prog_7_method_7_code
def yX5_hasPart : MethodName := ⟨RX5, "hasPart", "(I)Z"⟩
abbrev cX5_isKind : ByteArray := prog_7_method_8_code
def yX5_isKind : MethodName := ⟨RX5, "isKind", "(II)Z"⟩
abbrev cX5_hasArm : ByteArray := prog_7_method_9_code
def yX5_hasArm : MethodName := ⟨RX5, "hasArm", "(I)Z"⟩
abbrev cX5_countParts : ByteArray := prog_7_method_10_code
def yX5_countParts : MethodName := ⟨RX5, "countParts", "(I)I"⟩
abbrev cX5_findFirst : ByteArray := prog_7_method_11_code
def yX5_findFirst : MethodName := ⟨RX5, "findFirst", "(I)I"⟩
abbrev cX5_countKind : ByteArray := prog_7_method_12_code
def yX5_countKind : MethodName := ⟨RX5, "countKind", "(I)I"⟩
abbrev cX5_countArms : ByteArray := prog_7_method_13_code
def yX5_countArms : MethodName := ⟨RX5, "countArms", "(I)I"⟩
abbrev cX5_findWayUp : ByteArray := prog_7_method_14_code
def yX5_findWayUp : MethodName := ⟨RX5, "findWayUp", "(I)I"⟩
def RX6 : String := "LadderBench$NetworkReader"
def TX6 : u_T := fun k => match k with
  | 0 => ("LadderBench$NetworkReader", "pieces", "[I", true)
  | 1 => ("LadderBench$NetworkReader", "links", "[I", true)
  | _ => ("LadderBench$NetworkReader", "depth", "I", false)
def tyX6 : Nat → FieldType := fun k => match k with
  | 0 => .array .int
  | 1 => .array .int
  | _ => .int
abbrev wsX60 : List Cond := u_ws RX6 TX6 3
theorem nmX6 : ∀ a, a < 3 → ∀ b, b < 3 → a ≠ b → (TX6 a).2.1 ≠ (TX6 b).2.1 := by decide +kernel
theorem tyX6_ok : ∀ k, k < 3 → parseFieldDescriptor (TX6 k).2.2.1 = some (tyX6 k) := by decide +kernel
abbrev cX6_init : ByteArray := prog_8_method_1_code
def yX6_init : MethodName := ⟨RX6, "<init>", "()V"⟩
abbrev cX6_findFault : ByteArray := prog_8_method_2_code
def yX6_findFault : MethodName := ⟨RX6, "findFault", "(LLadderBench$Line;)I"⟩
abbrev cX6_build : ByteArray := prog_8_method_3_code
def yX6_build : MethodName := ⟨RX6, "build", "(LLadderBench$Line;LLadderBench$Network;)V"⟩
abbrev cX6_take : ByteArray := prog_8_method_4_code
def yX6_take : MethodName := ⟨RX6, "take", "(CLLadderBench$Network;)V"⟩
abbrev cX6_clearDepth : ByteArray := prog_8_method_5_code
def yX6_clearDepth : MethodName := ⟨RX6, "clearDepth", "()V"⟩
abbrev cX6_endLink : ByteArray := prog_8_method_6_code
def yX6_endLink : MethodName := ⟨RX6, "endLink", "(LLadderBench$Network;)V"⟩
abbrev cX6_endChain : ByteArray := prog_8_method_7_code
def yX6_endChain : MethodName := ⟨RX6, "endChain", "(LLadderBench$Network;)I"⟩
def RX7 : String := "LadderBench$Notes"
def TX7 : u_T := fun k => match k with
  | 0 => ("LadderBench$Notes", "upper", "[J", true)
  | 1 => ("LadderBench$Notes", "lower", "[J", true)
  | 2 => ("LadderBench$Notes", "times", "[I", true)
  | _ => ("LadderBench$Notes", "size", "I", false)
def tyX7 : Nat → FieldType := fun k => match k with
  | 0 => .array .long
  | 1 => .array .long
  | 2 => .array .int
  | _ => .int
abbrev wsX70 : List Cond := u_ws RX7 TX7 4
theorem nmX7 : ∀ a, a < 4 → ∀ b, b < 4 → a ≠ b → (TX7 a).2.1 ≠ (TX7 b).2.1 := by decide +kernel
theorem tyX7_ok : ∀ k, k < 4 → parseFieldDescriptor (TX7 k).2.2.1 = some (tyX7 k) := by decide +kernel
abbrev cX7_init : ByteArray := prog_9_method_1_code
def yX7_init : MethodName := ⟨RX7, "<init>", "()V"⟩
abbrev cX7_copy : ByteArray := prog_9_method_2_code
def yX7_copy : MethodName := ⟨RX7, "copy", "(LLadderBench$Notes;)V"⟩
abbrev cX7_find : ByteArray := prog_9_method_3_code
def yX7_find : MethodName := ⟨RX7, "find", "(LLadderBench$Fraction;)I"⟩
abbrev cX7_put : ByteArray := prog_9_method_4_code
def yX7_put : MethodName := ⟨RX7, "put", "(LLadderBench$Fraction;I)I"⟩
abbrev cX7_countTimes : ByteArray := prog_9_method_5_code
def yX7_countTimes : MethodName := ⟨RX7, "countTimes", "()I"⟩
def RX8 : String := "LadderBench$State"
def TX8 : u_T := fun k => match k with
  | 0 => ("LadderBench$State", "network", "LLadderBench$Network;", true)
  | 1 => ("LadderBench$State", "notes", "LLadderBench$Notes;", true)
  | 2 => ("LadderBench$State", "armValue", "[I", true)
  | 3 => ("LadderBench$State", "armState", "[I", true)
  | 4 => ("LadderBench$State", "isFolded", "[Z", true)
  | 5 => ("LadderBench$State", "source", "I", false)
  | 6 => ("LadderBench$State", "meter", "I", false)
  | _ => ("LadderBench$State", "folds", "I", false)
def tyX8 : Nat → FieldType := fun k => match k with
  | 0 => .object "LadderBench$Network"
  | 1 => .object "LadderBench$Notes"
  | 2 => .array .int
  | 3 => .array .int
  | 4 => .array .boolean
  | 5 => .int
  | 6 => .int
  | _ => .int
abbrev wsX80 : List Cond := u_ws RX8 TX8 8
theorem nmX8 : ∀ a, a < 8 → ∀ b, b < 8 → a ≠ b → (TX8 a).2.1 ≠ (TX8 b).2.1 := by decide +kernel
theorem tyX8_ok : ∀ k, k < 8 → parseFieldDescriptor (TX8 k).2.2.1 = some (tyX8 k) := by decide +kernel
abbrev cX8_init : ByteArray := prog_10_method_1_code
def yX8_init : MethodName := ⟨RX8, "<init>", "()V"⟩
abbrev cX8_copy : ByteArray := prog_10_method_2_code
def yX8_copy : MethodName := ⟨RX8, "copy", "(LLadderBench$State;)V"⟩
abbrev cX8_resetArms : ByteArray := prog_10_method_3_code
def yX8_resetArms : MethodName := ⟨RX8, "resetArms", "()V"⟩
abbrev cX8_setArm : ByteArray := prog_10_method_4_code
def yX8_setArm : MethodName := ⟨RX8, "setArm", "(III)V"⟩
abbrev cX8_unfoldEach : ByteArray := prog_10_method_5_code
def yX8_unfoldEach : MethodName := ⟨RX8, "unfoldEach", "()V"⟩
abbrev cX8_foldOne : ByteArray := prog_10_method_6_code
def yX8_foldOne : MethodName := ⟨RX8, "foldOne", "(I)V"⟩
abbrev cX8_unfoldFrom : ByteArray := prog_10_method_7_code
def yX8_unfoldFrom : MethodName := ⟨RX8, "unfoldFrom", "(I)I"⟩
abbrev cX8_hasFoldedParts : ByteArray := prog_10_method_8_code
def yX8_hasFoldedParts : MethodName := ⟨RX8, "hasFoldedParts", "(I)Z"⟩
abbrev cX8_isFoldable : ByteArray := prog_10_method_9_code
def yX8_isFoldable : MethodName := ⟨RX8, "isFoldable", "(I)Z"⟩
abbrev cX8_findFoldable : ByteArray := prog_10_method_10_code
def yX8_findFoldable : MethodName := ⟨RX8, "findFoldable", "(Z)I"⟩
abbrev cX8_countUnfolded : ByteArray := prog_10_method_11_code
def yX8_countUnfolded : MethodName := ⟨RX8, "countUnfolded", "()I"⟩
abbrev cX8_countNotSound : ByteArray := prog_10_method_12_code
def yX8_countNotSound : MethodName := ⟨RX8, "countNotSound", "()I"⟩
def RX9 : String := "LadderBench"
def TX9 : u_T := fun k => match k with
  | 0 => ("LadderBench", "text", "LLadderBench$Line;", true)
  | 1 => ("LadderBench", "now", "LLadderBench$State;", true)
  | 2 => ("LadderBench", "snapshot", "LLadderBench$State;", true)
  | 3 => ("LadderBench", "trial", "LLadderBench$State;", true)
  | 4 => ("LadderBench", "history", "LLadderBench$History;", true)
  | 5 => ("LadderBench", "reader", "LLadderBench$NetworkReader;", true)
  | 6 => ("LadderBench", "command", "LLadderBench$Command;", true)
  | 7 => ("LadderBench", "circuit", "LLadderBench$Circuit;", true)
  | 8 => ("LadderBench", "wanted", "LLadderBench$Fraction;", true)
  | _ => ("LadderBench", "hasSnapshot", "Z", false)
def tyX9 : Nat → FieldType := fun k => match k with
  | 0 => .object "LadderBench$Line"
  | 1 => .object "LadderBench$State"
  | 2 => .object "LadderBench$State"
  | 3 => .object "LadderBench$State"
  | 4 => .object "LadderBench$History"
  | 5 => .object "LadderBench$NetworkReader"
  | 6 => .object "LadderBench$Command"
  | 7 => .object "LadderBench$Circuit"
  | 8 => .object "LadderBench$Fraction"
  | _ => .boolean
abbrev wsX90 : List Cond := u_ws RX9 TX9 10
theorem nmX9 : ∀ a, a < 10 → ∀ b, b < 10 → a ≠ b → (TX9 a).2.1 ≠ (TX9 b).2.1 := by decide +kernel
theorem tyX9_ok : ∀ k, k < 10 → parseFieldDescriptor (TX9 k).2.2.1 = some (tyX9 k) := by decide +kernel
abbrev cX9_init : ByteArray := prog_1_method_1_code
def yX9_init : MethodName := ⟨RX9, "<init>", "()V"⟩
abbrev cX9_type : ByteArray := prog_1_method_2_code
def yX9_type : MethodName := ⟨RX9, "type", "(C)I"⟩
abbrev cX9_clearText : ByteArray := prog_1_method_3_code
def yX9_clearText : MethodName := ⟨RX9, "clearText", "()I"⟩
abbrev cX9_readNetwork : ByteArray := prog_1_method_4_code
def yX9_readNetwork : MethodName := ⟨RX9, "readNetwork", "()I"⟩
abbrev cX9_perform : ByteArray := prog_1_method_5_code
def yX9_perform : MethodName := ⟨RX9, "perform", "()I"⟩
abbrev cX9_fold : ByteArray := prog_1_method_6_code
def yX9_fold : MethodName := ⟨RX9, "fold", "(I)I"⟩
abbrev cX9_foldAll : ByteArray := prog_1_method_7_code
def yX9_foldAll : MethodName := ⟨RX9, "foldAll", "(Z)I"⟩
abbrev cX9_unfold : ByteArray := prog_1_method_8_code
def yX9_unfold : MethodName := ⟨RX9, "unfold", "(I)I"⟩
abbrev cX9_note : ByteArray := prog_1_method_9_code
def yX9_note : MethodName := ⟨RX9, "note", "(I)I"⟩
abbrev cX9_undo : ByteArray := prog_1_method_10_code
def yX9_undo : MethodName := ⟨RX9, "undo", "()I"⟩
abbrev cX9_keep : ByteArray := prog_1_method_11_code
def yX9_keep : MethodName := ⟨RX9, "keep", "()I"⟩
abbrev cX9_restore : ByteArray := prog_1_method_12_code
def yX9_restore : MethodName := ⟨RX9, "restore", "()I"⟩
abbrev cX9_part : ByteArray := prog_1_method_13_code
def yX9_part : MethodName := ⟨RX9, "part", "(II)I"⟩
abbrev cX9_arm : ByteArray := prog_1_method_14_code
def yX9_arm : MethodName := ⟨RX9, "arm", "(II)I"⟩
abbrev cX9_resistance : ByteArray := prog_1_method_15_code
def yX9_resistance : MethodName := ⟨RX9, "resistance", "(II)J"⟩
abbrev cX9_folded : ByteArray := prog_1_method_16_code
def yX9_folded : MethodName := ⟨RX9, "folded", "(II)J"⟩
abbrev cX9_voltage : ByteArray := prog_1_method_17_code
def yX9_voltage : MethodName := ⟨RX9, "voltage", "(II)J"⟩
abbrev cX9_reading : ByteArray := prog_1_method_18_code
def yX9_reading : MethodName := ⟨RX9, "reading", "(II)J"⟩
abbrev cX9_loss : ByteArray := prog_1_method_19_code
def yX9_loss : MethodName := ⟨RX9, "loss", "(I)I"⟩
abbrev cX9_noted : ByteArray := prog_1_method_20_code
def yX9_noted : MethodName := ⟨RX9, "noted", "(II)J"⟩
abbrev cX9_solve : ByteArray := prog_1_method_21_code
def yX9_solve : MethodName := ⟨RX9, "solve", "(IIII)J"⟩
abbrev cX9_fault : ByteArray := prog_1_method_22_code
def yX9_fault : MethodName := ⟨RX9, "fault", "(III)I"⟩
abbrev cX9_worst : ByteArray := prog_1_method_23_code
def yX9_worst : MethodName := ⟨RX9, "worst", "()I"⟩
abbrev cX9_count : ByteArray := prog_1_method_24_code
def yX9_count : MethodName := ⟨RX9, "count", "(I)I"⟩
abbrev cX9_couldBe : ByteArray := prog_1_method_25_code
def yX9_couldBe : MethodName := ⟨RX9, "couldBe", "(II)Z"⟩
abbrev cX9_isHalf : ByteArray := prog_1_method_26_code
def yX9_isHalf : MethodName := ⟨RX9, "isHalf", "(I)Z"⟩
abbrev cX9_noneIfNowhere : ByteArray := prog_1_method_27_code
def yX9_noneIfNowhere : MethodName := ⟨RX9, "noneIfNowhere", "(I)I"⟩
abbrev cX9_indexOfLetter : ByteArray := prog_1_method_28_code
def yX9_indexOfLetter : MethodName := ⟨RX9, "indexOfLetter", "(I)I"⟩
def RX10 : String := "LadderBenchModel"
def TX10 : u_T := fun k => match k with
  | 0 => ("LadderBenchModel", "now", "[J", true)
  | 1 => ("LadderBenchModel", "history", "[J", true)
  | 2 => ("LadderBenchModel", "kept", "I", false)
  | 3 => ("LadderBenchModel", "slot", "[J", true)
  | 4 => ("LadderBenchModel", "isFilled", "Z", false)
  | 5 => ("LadderBenchModel", "typed", "I", false)
  | 6 => ("LadderBenchModel", "text", "[C", true)
  | 7 => ("LadderBenchModel", "at", "I", false)
  | 8 => ("LadderBenchModel", "readParts", "I", false)
  | 9 => ("LadderBenchModel", "read", "[I", true)
  | 10 => ("LadderBenchModel", "pile", "[I", true)
  | 11 => ("LadderBenchModel", "piled", "I", false)
  | 12 => ("LadderBenchModel", "pieces", "[I", true)
  | 13 => ("LadderBenchModel", "links", "[I", true)
  | 14 => ("LadderBenchModel", "readWord", "I", false)
  | 15 => ("LadderBenchModel", "readArm", "I", false)
  | 16 => ("LadderBenchModel", "readNumber", "I", false)
  | 17 => ("LadderBenchModel", "up", "J", false)
  | 18 => ("LadderBenchModel", "low", "J", false)
  | 19 => ("LadderBenchModel", "upper", "[J", true)
  | 20 => ("LadderBenchModel", "lower", "[J", true)
  | 21 => ("LadderBenchModel", "letsUp", "J", false)
  | 22 => ("LadderBenchModel", "letsLow", "J", false)
  | 23 => ("LadderBenchModel", "isShort", "Z", false)
  | 24 => ("LadderBenchModel", "voltUp", "[J", true)
  | _ => ("LadderBenchModel", "voltLow", "[J", true)
def tyX10 : Nat → FieldType := fun k => match k with
  | 0 => .array .long
  | 1 => .array .long
  | 2 => .int
  | 3 => .array .long
  | 4 => .boolean
  | 5 => .int
  | 6 => .array .char
  | 7 => .int
  | 8 => .int
  | 9 => .array .int
  | 10 => .array .int
  | 11 => .int
  | 12 => .array .int
  | 13 => .array .int
  | 14 => .int
  | 15 => .int
  | 16 => .int
  | 17 => .long
  | 18 => .long
  | 19 => .array .long
  | 20 => .array .long
  | 21 => .long
  | 22 => .long
  | 23 => .boolean
  | 24 => .array .long
  | _ => .array .long
abbrev wsX100 : List Cond := u_ws RX10 TX10 26
theorem nmX10 : ∀ a, a < 26 → ∀ b, b < 26 → a ≠ b → (TX10 a).2.1 ≠ (TX10 b).2.1 := by decide +kernel
theorem tyX10_ok : ∀ k, k < 26 → parseFieldDescriptor (TX10 k).2.2.1 = some (tyX10 k) := by decide +kernel
abbrev cX10_init : ByteArray := prog_12_method_1_code
def yX10_init : MethodName := ⟨RX10, "<init>", "()V"⟩
abbrev cX10_in : ByteArray := prog_12_method_2_code
def yX10_in : MethodName := ⟨RX10, "in", "(III)Z"⟩
abbrev cX10_record : ByteArray := prog_12_method_3_code
def yX10_record : MethodName := ⟨RX10, "record", "()V"⟩
abbrev cX10_parts : ByteArray := prog_12_method_4_code
def yX10_parts : MethodName := ⟨RX10, "parts", "()I"⟩
abbrev cX10_noPart : ByteArray := prog_12_method_5_code
def yX10_noPart : MethodName := ⟨RX10, "noPart", "(I)Z"⟩
abbrev cX10_ofPart : ByteArray := prog_12_method_6_code
def yX10_ofPart : MethodName := ⟨RX10, "ofPart", "(II)I"⟩
abbrev cX10_ofArm : ByteArray := prog_12_method_7_code
def yX10_ofArm : MethodName := ⟨RX10, "ofArm", "(II)I"⟩
abbrev cX10_hasArm : ByteArray := prog_12_method_8_code
def yX10_hasArm : MethodName := ⟨RX10, "hasArm", "(I)Z"⟩
abbrev cX10_type : ByteArray := prog_12_method_9_code
def yX10_type : MethodName := ⟨RX10, "type", "(C)I"⟩
abbrev cX10_clearText : ByteArray := prog_12_method_10_code
def yX10_clearText : MethodName := ⟨RX10, "clearText", "()I"⟩
abbrev cX10_isRead : ByteArray := prog_12_method_11_code
def yX10_isRead : MethodName := ⟨RX10, "isRead", "(I)Z"⟩
abbrev cX10_laysPart : ByteArray := prog_12_method_12_code
def yX10_laysPart : MethodName := ⟨RX10, "laysPart", "(III)V"⟩
abbrev cX10_endsLink : ByteArray := prog_12_method_13_code
def yX10_endsLink : MethodName := ⟨RX10, "endsLink", "(I)V"⟩
abbrev cX10_endsChain : ByteArray := prog_12_method_14_code
def yX10_endsChain : MethodName := ⟨RX10, "endsChain", "(I)V"⟩
abbrev cX10_readsNetwork : ByteArray := prog_12_method_15_code
def yX10_readsNetwork : MethodName := ⟨RX10, "readsNetwork", "()Z"⟩
abbrev cX10_readNetwork : ByteArray := prog_12_method_16_code
def yX10_readNetwork : MethodName := ⟨RX10, "readNetwork", "()I"⟩
abbrev cX10_end : ByteArray := prog_12_method_17_code
def yX10_end : MethodName := ⟨RX10, "end", "()I"⟩
abbrev cX10_isWord : ByteArray := prog_12_method_18_code
def yX10_isWord : MethodName := ⟨RX10, "isWord", "(IIIIII)Z"⟩
abbrev cX10_word : ByteArray := prog_12_method_19_code
def yX10_word : MethodName := ⟨RX10, "word", "(I)I"⟩
abbrev cX10_number : ByteArray := prog_12_method_20_code
def yX10_number : MethodName := ⟨RX10, "number", "(II)I"⟩
abbrev cX10_takesBlank : ByteArray := prog_12_method_21_code
def yX10_takesBlank : MethodName := ⟨RX10, "takesBlank", "()Z"⟩
abbrev cX10_readsCommand : ByteArray := prog_12_method_22_code
def yX10_readsCommand : MethodName := ⟨RX10, "readsCommand", "()Z"⟩
abbrev cX10_unfoldAll : ByteArray := prog_12_method_23_code
def yX10_unfoldAll : MethodName := ⟨RX10, "unfoldAll", "()V"⟩
abbrev cX10_perform : ByteArray := prog_12_method_24_code
def yX10_perform : MethodName := ⟨RX10, "perform", "()I"⟩
abbrev cX10_isFolded : ByteArray := prog_12_method_25_code
def yX10_isFolded : MethodName := ⟨RX10, "isFolded", "(I)Z"⟩
abbrev cX10_mayFold : ByteArray := prog_12_method_26_code
def yX10_mayFold : MethodName := ⟨RX10, "mayFold", "(I)Z"⟩
abbrev cX10_open : ByteArray := prog_12_method_27_code
def yX10_open : MethodName := ⟨RX10, "open", "()I"⟩
abbrev cX10_folds : ByteArray := prog_12_method_28_code
def yX10_folds : MethodName := ⟨RX10, "folds", "(I)V"⟩
abbrev cX10_fold : ByteArray := prog_12_method_29_code
def yX10_fold : MethodName := ⟨RX10, "fold", "(I)I"⟩
abbrev cX10_nextFold : ByteArray := prog_12_method_30_code
def yX10_nextFold : MethodName := ⟨RX10, "nextFold", "(Z)I"⟩
abbrev cX10_foldAll : ByteArray := prog_12_method_31_code
def yX10_foldAll : MethodName := ⟨RX10, "foldAll", "(Z)I"⟩
abbrev cX10_unfold : ByteArray := prog_12_method_32_code
def yX10_unfold : MethodName := ⟨RX10, "unfold", "(I)I"⟩
abbrev cX10_divisor : ByteArray := prog_12_method_33_code
def yX10_divisor : MethodName := ⟨RX10, "divisor", "(JJ)J"⟩
abbrev cX10_becomes : ByteArray := prog_12_method_34_code
def yX10_becomes : MethodName := ⟨RX10, "becomes", "(JJ)V"⟩
abbrev cX10_sum : ByteArray := prog_12_method_35_code
def yX10_sum : MethodName := ⟨RX10, "sum", "(JJJJ)V"⟩
abbrev cX10_product : ByteArray := prog_12_method_36_code
def yX10_product : MethodName := ⟨RX10, "product", "(JJJJ)V"⟩
abbrev cX10_layArm : ByteArray := prog_12_method_37_code
def yX10_layArm : MethodName := ⟨RX10, "layArm", "(III)V"⟩
abbrev cX10_laySeries : ByteArray := prog_12_method_38_code
def yX10_laySeries : MethodName := ⟨RX10, "laySeries", "(I)V"⟩
abbrev cX10_lets : ByteArray := prog_12_method_39_code
def yX10_lets : MethodName := ⟨RX10, "lets", "(JJ)V"⟩
abbrev cX10_letsOf : ByteArray := prog_12_method_40_code
def yX10_letsOf : MethodName := ⟨RX10, "letsOf", "(II)V"⟩
abbrev cX10_takeLets : ByteArray := prog_12_method_41_code
def yX10_takeLets : MethodName := ⟨RX10, "takeLets", "(I)V"⟩
abbrev cX10_lay : ByteArray := prog_12_method_42_code
def yX10_lay : MethodName := ⟨RX10, "lay", "(III)V"⟩
abbrev cX10_telling : ByteArray := prog_12_method_43_code
def yX10_telling : MethodName := ⟨RX10, "telling", "(II)I"⟩
abbrev cX10_resistance : ByteArray := prog_12_method_44_code
def yX10_resistance : MethodName := ⟨RX10, "resistance", "(II)J"⟩
abbrev cX10_folded : ByteArray := prog_12_method_45_code
def yX10_folded : MethodName := ⟨RX10, "folded", "(II)J"⟩
abbrev cX10_infinite : ByteArray := prog_12_method_46_code
def yX10_infinite : MethodName := ⟨RX10, "infinite", "(I)I"⟩
abbrev cX10_layVoltage : ByteArray := prog_12_method_47_code
def yX10_layVoltage : MethodName := ⟨RX10, "layVoltage", "(II)V"⟩
abbrev cX10_layVoltages : ByteArray := prog_12_method_48_code
def yX10_layVoltages : MethodName := ⟨RX10, "layVoltages", "(I)V"⟩
abbrev cX10_findVoltage : ByteArray := prog_12_method_49_code
def yX10_findVoltage : MethodName := ⟨RX10, "findVoltage", "(II)V"⟩
abbrev cX10_voltage : ByteArray := prog_12_method_50_code
def yX10_voltage : MethodName := ⟨RX10, "voltage", "(II)J"⟩
abbrev cX10_reading : ByteArray := prog_12_method_51_code
def yX10_reading : MethodName := ⟨RX10, "reading", "(II)J"⟩
abbrev cX10_lossOf : ByteArray := prog_12_method_52_code
def yX10_lossOf : MethodName := ⟨RX10, "lossOf", "(I)I"⟩
abbrev cX10_loss : ByteArray := prog_12_method_53_code
def yX10_loss : MethodName := ⟨RX10, "loss", "(I)I"⟩
abbrev cX10_worst : ByteArray := prog_12_method_54_code
def yX10_worst : MethodName := ⟨RX10, "worst", "()I"⟩
abbrev cX10_note : ByteArray := prog_12_method_55_code
def yX10_note : MethodName := ⟨RX10, "note", "(I)I"⟩
abbrev cX10_noted : ByteArray := prog_12_method_56_code
def yX10_noted : MethodName := ⟨RX10, "noted", "(II)J"⟩
abbrev cX10_undo : ByteArray := prog_12_method_57_code
def yX10_undo : MethodName := ⟨RX10, "undo", "()I"⟩
abbrev cX10_keep : ByteArray := prog_12_method_58_code
def yX10_keep : MethodName := ⟨RX10, "keep", "()I"⟩
abbrev cX10_restore : ByteArray := prog_12_method_59_code
def yX10_restore : MethodName := ⟨RX10, "restore", "()I"⟩
abbrev cX10_armsIn : ByteArray := prog_12_method_60_code
def yX10_armsIn : MethodName := ⟨RX10, "armsIn", "(I)I"⟩
abbrev cX10_firstIn : ByteArray := prog_12_method_61_code
def yX10_firstIn : MethodName := ⟨RX10, "firstIn", "(I)I"⟩
abbrev cX10_part : ByteArray := prog_12_method_62_code
def yX10_part : MethodName := ⟨RX10, "part", "(II)I"⟩
abbrev cX10_armBy : ByteArray := prog_12_method_63_code
def yX10_armBy : MethodName := ⟨RX10, "armBy", "(I)I"⟩
abbrev cX10_arm : ByteArray := prog_12_method_64_code
def yX10_arm : MethodName := ⟨RX10, "arm", "(II)I"⟩
abbrev cX10_goesIn : ByteArray := prog_12_method_65_code
def yX10_goesIn : MethodName := ⟨RX10, "goesIn", "(II)I"⟩
abbrev cX10_find : ByteArray := prog_12_method_66_code
def yX10_find : MethodName := ⟨RX10, "find", "(III)I"⟩
abbrev cX10_solve : ByteArray := prog_12_method_67_code
def yX10_solve : MethodName := ⟨RX10, "solve", "(IIII)J"⟩
abbrev cX10_fault : ByteArray := prog_12_method_68_code
def yX10_fault : MethodName := ⟨RX10, "fault", "(III)I"⟩
abbrev cX10_count : ByteArray := prog_12_method_69_code
def yX10_count : MethodName := ⟨RX10, "count", "(I)I"⟩
def RJ6 : String := "java/lang/Integer"
def TJ6 : u_T := fun k => match k with
  | _ => ("", "", "", false)
def tyJ6 : Nat → FieldType := fun k => match k with
  | _ => .int
abbrev wsJ60 : List Cond := u_ws RJ6 TJ6 0
theorem nmJ6 : ∀ a, a < 0 → ∀ b, b < 0 → a ≠ b → (TJ6 a).2.1 ≠ (TJ6 b).2.1 := by decide +kernel
theorem tyJ6_ok : ∀ k, k < 0 → parseFieldDescriptor (TJ6 k).2.2.1 = some (tyJ6 k) := by decide +kernel
abbrev cJ6_bitCount_0f7a4 : ByteArray := prog_13_method_49_code
def yJ6_bitCount_0f7a4 : MethodName := ⟨RJ6, "bitCount", "(I)I"⟩
def RJ9 : String := "java/lang/Math"
def TJ9 : u_T := fun k => match k with
  | _ => ("", "", "", false)
def tyJ9 : Nat → FieldType := fun k => match k with
  | _ => .int
abbrev wsJ90 : List Cond := u_ws RJ9 TJ9 0
theorem nmJ9 : ∀ a, a < 0 → ∀ b, b < 0 → a ≠ b → (TJ9 a).2.1 ≠ (TJ9 b).2.1 := by decide +kernel
theorem tyJ9_ok : ∀ k, k < 0 → parseFieldDescriptor (TJ9 k).2.2.1 = some (tyJ9 k) := by decide +kernel
abbrev cJ9_floorDiv_f86c9 : ByteArray := prog_14_method_49_code
def yJ9_floorDiv_f86c9 : MethodName := ⟨RJ9, "floorDiv", "(JJ)J"⟩
abbrev cJ9_max_7cf53 : ByteArray := prog_14_method_65_code
def yJ9_max_7cf53 : MethodName := ⟨RJ9, "max", "(II)I"⟩
abbrev cJ9_min_7cf53 : ByteArray := prog_14_method_69_code
def yJ9_min_7cf53 : MethodName := ⟨RJ9, "min", "(II)I"⟩
def RJ0 : String := "java/lang/String"
def TJ0 : u_T := fun k => match k with
  | _ => ("", "", "", false)
def tyJ0 : Nat → FieldType := fun k => match k with
  | _ => .int
abbrev wsJ00 : List Cond := u_ws RJ0 TJ0 0
theorem nmJ0 : ∀ a, a < 0 → ∀ b, b < 0 → a ≠ b → (TJ0 a).2.1 ≠ (TJ0 b).2.1 := by decide +kernel
theorem tyJ0_ok : ∀ k, k < 0 → parseFieldDescriptor (TJ0 k).2.2.1 = some (tyJ0 k) := by decide +kernel
abbrev cJ0_length_8abf5 : ByteArray := prog_15_method_54_code
def yJ0_length_8abf5 : MethodName := ⟨RJ0, "length", "()I"⟩
abbrev cJ0_charAt_5068e : ByteArray := prog_15_method_56_code
def yJ0_charAt_5068e : MethodName := ⟨RJ0, "charAt", "(I)C"⟩
abbrev cJ0_coder_7d493 : ByteArray := prog_15_method_152_code
def yJ0_coder_7d493 : MethodName := ⟨RJ0, "coder", "()B"⟩
abbrev cJ0_isLatin1_aae02 : ByteArray := prog_15_method_154_code
def yJ0_isLatin1_aae02 : MethodName := ⟨RJ0, "isLatin1", "()Z"⟩
abbrev cJ0_checkIndex_df160 : ByteArray := prog_15_method_155_code
def yJ0_checkIndex_df160 : MethodName := ⟨RJ0, "checkIndex", "(II)V"⟩
def RJ1 : String := "java/lang/StringLatin1"
def TJ1 : u_T := fun k => match k with
  | _ => ("", "", "", false)
def tyJ1 : Nat → FieldType := fun k => match k with
  | _ => .int
abbrev wsJ10 : List Cond := u_ws RJ1 TJ1 0
theorem nmJ1 : ∀ a, a < 0 → ∀ b, b < 0 → a ≠ b → (TJ1 a).2.1 ≠ (TJ1 b).2.1 := by decide +kernel
theorem tyJ1_ok : ∀ k, k < 0 → parseFieldDescriptor (TJ1 k).2.2.1 = some (tyJ1 k) := by decide +kernel
abbrev cJ1_charAt_3b067 : ByteArray := prog_16_method_2_code
def yJ1_charAt_3b067 : MethodName := ⟨RJ1, "charAt", "([BI)C"⟩
def RJ2 : String := "java/lang/StringUTF16"
def TJ2 : u_T := fun k => match k with
  | _ => ("", "", "", false)
def tyJ2 : Nat → FieldType := fun k => match k with
  | _ => .int
abbrev wsJ20 : List Cond := u_ws RJ2 TJ2 0
theorem nmJ2 : ∀ a, a < 0 → ∀ b, b < 0 → a ≠ b → (TJ2 a).2.1 ≠ (TJ2 b).2.1 := by decide +kernel
theorem tyJ2_ok : ∀ k, k < 0 → parseFieldDescriptor (TJ2 k).2.2.1 = some (tyJ2 k) := by decide +kernel
abbrev cJ2_getChar_3b067 : ByteArray := prog_17_method_5_code
def yJ2_getChar_3b067 : MethodName := ⟨RJ2, "getChar", "([BI)C"⟩
abbrev cJ2_length_9d52b : ByteArray := prog_17_method_6_code
def yJ2_length_9d52b : MethodName := ⟨RJ2, "length", "([B)I"⟩
abbrev cJ2_charAt_3b067 : ByteArray := prog_17_method_83_code
def yJ2_charAt_3b067 : MethodName := ⟨RJ2, "charAt", "([BI)C"⟩
abbrev cJ2_checkIndex_2214a : ByteArray := prog_17_method_91_code
def yJ2_checkIndex_2214a : MethodName := ⟨RJ2, "checkIndex", "(I[B)V"⟩
def RJ3 : String := "jdk/internal/util/Preconditions"
def TJ3 : u_T := fun k => match k with
  | _ => ("", "", "", false)
def tyJ3 : Nat → FieldType := fun k => match k with
  | _ => .int
abbrev wsJ30 : List Cond := u_ws RJ3 TJ3 0
theorem nmJ3 : ∀ a, a < 0 → ∀ b, b < 0 → a ≠ b → (TJ3 a).2.1 ≠ (TJ3 b).2.1 := by decide +kernel
theorem tyJ3_ok : ∀ k, k < 0 → parseFieldDescriptor (TJ3 k).2.2.1 = some (tyJ3 k) := by decide +kernel
abbrev cJ3_checkIndex_8e157 : ByteArray := prog_18_method_11_code
def yJ3_checkIndex_8e157 : MethodName := ⟨RJ3, "checkIndex", "(IILjava/util/function/BiFunction;)I"⟩
def RL : String := "LadderBenchLaw"
abbrev cL_law : ByteArray := code
def yL_law : MethodName := ⟨RL, "law", "([I)Z"⟩
def wsX2_init : List Cond := .code yX2_init cX2_init 1 none :: ([.methodLink RX2 3 objectInit, .instanceMethod objectInit, .code objectInit ⟨#[0xb1]⟩ 1 none, .fieldLink RX2 9 "LadderBench$Fraction" "upper" "J", .fieldLink RX2 15 "LadderBench$Fraction" "lower" "J"] ++ wsX20)
def wsX0_init : List Cond := .code yX0_init cX0_init 2 none :: ([.methodLink RX0 3 objectInit, .instanceMethod objectInit, .code objectInit ⟨#[0xb1]⟩ 1 none, .classLink RX0 9 RX2, .fieldLink RX0 11 "LadderBench$Circuit" "ohms" "[LLadderBench$Fraction;", .fieldLink RX0 17 "LadderBench$Circuit" "volts" "[LLadderBench$Fraction;", .instantiable RX2 2, .initialized RX2, .fieldLink RX0 21 "LadderBench$Circuit" "sum" "LLadderBench$Fraction;", .fieldLink RX0 25 "LadderBench$Circuit" "share" "LLadderBench$Fraction;", .fieldLink RX0 28 "LadderBench$Circuit" "unloaded" "LLadderBench$Fraction;", .instanceMethod yX2_init, .code yX2_init cX2_init 1 none, .methodLink RX2 3 objectInit, .fieldLink RX2 9 "LadderBench$Fraction" "upper" "J", .fieldLink RX2 15 "LadderBench$Fraction" "lower" "J"] ++ wsX00 ++ wsX20)
def wsX5_hasPart : List Cond := .code yX5_hasPart cX5_hasPart 2 (some .boolean) :: ([.fieldLink RX5 24 "LadderBench$Network" "size" "I"] ++ wsX50)
def wsX5_isKind : List Cond := .code yX5_isKind cX5_isKind 3 (some .boolean) :: ([.fieldLink RX5 9 "LadderBench$Network" "kind" "[I", .methodLink RX5 37 yX5_hasPart, .instanceMethod yX5_hasPart, .selects RX5 yX5_hasPart yX5_hasPart, .initialized RX5, .code yX5_hasPart cX5_hasPart 2 (some .boolean), .fieldLink RX5 24 "LadderBench$Network" "size" "I"] ++ wsX50)
def wsX2_commonDivisor : List Cond := .code yX2_commonDivisor cX2_commonDivisor 11 (some .long) :: ([])
def wsX2_put : List Cond := .code yX2_put cX2_put 7 none :: ([.fieldLink RX2 9 "LadderBench$Fraction" "upper" "J", .fieldLink RX2 15 "LadderBench$Fraction" "lower" "J", .methodLink RX2 18 yX2_commonDivisor, .static yX2_commonDivisor, .initialized RX2, .code yX2_commonDivisor cX2_commonDivisor 11 (some .long)] ++ wsX20)
def wsX0_putArm : List Cond := .code yX0_putArm cX0_putArm 4 none :: ([.fieldLink RX0 31 "LadderBench$State" "network" "LLadderBench$Network;", .fieldLink RX0 69 "LadderBench$Network" "letter" "[I", .fieldLink RX0 73 "LadderBench$State" "armState" "[I", .fieldLink RX0 11 "LadderBench$Circuit" "ohms" "[LLadderBench$Fraction;", .fieldLink RX0 76 "LadderBench$State" "armValue" "[I", .methodLink RX0 79 yX2_put, .instanceMethod yX2_put, .selects RX2 yX2_put yX2_put, .initialized RX2, .code yX2_put cX2_put 7 none, .fieldLink RX2 9 "LadderBench$Fraction" "upper" "J", .fieldLink RX2 15 "LadderBench$Fraction" "lower" "J", .methodLink RX2 18 yX2_commonDivisor, .static yX2_commonDivisor, .code yX2_commonDivisor cX2_commonDivisor 11 (some .long)] ++ wsX80 ++ wsX50 ++ wsX00 ++ wsX20)
def wsX2_copy : List Cond := .code yX2_copy cX2_copy 2 none :: ([.fieldLink RX2 9 "LadderBench$Fraction" "upper" "J", .fieldLink RX2 15 "LadderBench$Fraction" "lower" "J"] ++ wsX20)
def wsX2_invert : List Cond := .code yX2_invert cX2_invert 3 none :: ([.fieldLink RX2 9 "LadderBench$Fraction" "upper" "J", .fieldLink RX2 15 "LadderBench$Fraction" "lower" "J"] ++ wsX20)
def wsX2_add : List Cond := .code yX2_add cX2_add 9 none :: ([.fieldLink RX2 15 "LadderBench$Fraction" "lower" "J", .fieldLink RX2 9 "LadderBench$Fraction" "upper" "J", .methodLink RX2 22 yX2_put, .instanceMethod yX2_put, .selects RX2 yX2_put yX2_put, .initialized RX2, .code yX2_put cX2_put 7 none, .methodLink RX2 18 yX2_commonDivisor, .static yX2_commonDivisor, .code yX2_commonDivisor cX2_commonDivisor 11 (some .long)] ++ wsX20)
def wsX0_addUp_r1 : List Cond := [Cond.fieldLink RX0 21 "LadderBench$Circuit" "sum" "LLadderBench$Fraction;", Cond.fieldLink RX0 83 "LadderBench$Network" "around" "[I", Cond.fieldLink RX0 25 "LadderBench$Circuit" "share" "LLadderBench$Fraction;", Cond.fieldLink RX0 11 "LadderBench$Circuit" "ohms" "[LLadderBench$Fraction;", Cond.methodLink RX0 79 yX2_put, Cond.instanceMethod yX2_put, Cond.selects RX2 yX2_put yX2_put, Cond.initialized RX2, Cond.code yX2_put cX2_put 7 none, Cond.fieldLink RX2 9 "LadderBench$Fraction" "upper" "J", Cond.fieldLink RX2 15 "LadderBench$Fraction" "lower" "J", Cond.methodLink RX2 18 yX2_commonDivisor, Cond.static yX2_commonDivisor, Cond.code yX2_commonDivisor cX2_commonDivisor 11 (some .long), Cond.methodLink RX0 55 yX2_copy, Cond.instanceMethod yX2_copy, Cond.selects RX2 yX2_copy yX2_copy, Cond.code yX2_copy cX2_copy 2 none, Cond.methodLink RX0 43 yX5_isKind, Cond.instanceMethod yX5_isKind, Cond.selects RX5 yX5_isKind yX5_isKind, Cond.initialized RX5, Cond.code yX5_isKind cX5_isKind 3 (some .boolean), Cond.fieldLink RX5 9 "LadderBench$Network" "kind" "[I"]
def wsX0_addUp_r2 : List Cond := [Cond.methodLink RX5 37 yX5_hasPart, Cond.instanceMethod yX5_hasPart, Cond.selects RX5 yX5_hasPart yX5_hasPart, Cond.code yX5_hasPart cX5_hasPart 2 (some .boolean), Cond.fieldLink RX5 24 "LadderBench$Network" "size" "I", Cond.methodLink RX0 59 yX2_invert, Cond.instanceMethod yX2_invert, Cond.selects RX2 yX2_invert yX2_invert, Cond.code yX2_invert cX2_invert 3 none, Cond.methodLink RX0 86 yX2_add, Cond.instanceMethod yX2_add, Cond.selects RX2 yX2_add yX2_add, Cond.code yX2_add cX2_add 9 none, Cond.methodLink RX2 22 yX2_put]
def wsX0_addUp : List Cond := .code yX0_addUp cX0_addUp 5 none :: ((wsX0_addUp_r1 ++ wsX0_addUp_r2) ++ wsX00 ++ wsX50 ++ wsX20)
def wsX0_addMeter : List Cond := .code yX0_addMeter cX0_addMeter 3 none :: ([.fieldLink RX0 25 "LadderBench$Circuit" "share" "LLadderBench$Fraction;", .methodLink RX0 79 yX2_put, .instanceMethod yX2_put, .selects RX2 yX2_put yX2_put, .initialized RX2, .code yX2_put cX2_put 7 none, .fieldLink RX2 9 "LadderBench$Fraction" "upper" "J", .fieldLink RX2 15 "LadderBench$Fraction" "lower" "J", .methodLink RX2 18 yX2_commonDivisor, .static yX2_commonDivisor, .code yX2_commonDivisor cX2_commonDivisor 11 (some .long), .methodLink RX0 59 yX2_invert, .instanceMethod yX2_invert, .selects RX2 yX2_invert yX2_invert, .code yX2_invert cX2_invert 3 none, .methodLink RX0 86 yX2_add, .instanceMethod yX2_add, .selects RX2 yX2_add yX2_add, .code yX2_add cX2_add 9 none, .methodLink RX2 22 yX2_put] ++ wsX00 ++ wsX20)
def wsX0_findOhms_r1 : List Cond := [Cond.fieldLink RX0 31 "LadderBench$State" "network" "LLadderBench$Network;", Cond.fieldLink RX0 37 "LadderBench$Network" "size" "I", Cond.fieldLink RX0 11 "LadderBench$Circuit" "ohms" "[LLadderBench$Fraction;", Cond.fieldLink RX0 21 "LadderBench$Circuit" "sum" "LLadderBench$Fraction;", Cond.fieldLink RX0 62 "LadderBench$State" "meter" "I", Cond.methodLink RX0 43 yX5_isKind, Cond.instanceMethod yX5_isKind, Cond.selects RX5 yX5_isKind yX5_isKind, Cond.initialized RX5, Cond.code yX5_isKind cX5_isKind 3 (some .boolean), Cond.fieldLink RX5 9 "LadderBench$Network" "kind" "[I", Cond.methodLink RX5 37 yX5_hasPart, Cond.instanceMethod yX5_hasPart, Cond.selects RX5 yX5_hasPart yX5_hasPart, Cond.code yX5_hasPart cX5_hasPart 2 (some .boolean), Cond.fieldLink RX5 24 "LadderBench$Network" "size" "I", Cond.methodLink RX0 47 yX0_putArm, Cond.instanceMethod yX0_putArm, Cond.selects RX0 yX0_putArm yX0_putArm, Cond.initialized RX0, Cond.code yX0_putArm cX0_putArm 4 none, Cond.fieldLink RX0 69 "LadderBench$Network" "letter" "[I", Cond.fieldLink RX0 73 "LadderBench$State" "armState" "[I", Cond.fieldLink RX0 76 "LadderBench$State" "armValue" "[I"]
def wsX0_findOhms_r2 : List Cond := [Cond.methodLink RX0 79 yX2_put, Cond.instanceMethod yX2_put, Cond.selects RX2 yX2_put yX2_put, Cond.initialized RX2, Cond.code yX2_put cX2_put 7 none, Cond.fieldLink RX2 9 "LadderBench$Fraction" "upper" "J", Cond.fieldLink RX2 15 "LadderBench$Fraction" "lower" "J", Cond.methodLink RX2 18 yX2_commonDivisor, Cond.static yX2_commonDivisor, Cond.code yX2_commonDivisor cX2_commonDivisor 11 (some .long), Cond.methodLink RX0 51 yX0_addUp, Cond.instanceMethod yX0_addUp, Cond.selects RX0 yX0_addUp yX0_addUp, Cond.code yX0_addUp cX0_addUp 5 none, Cond.fieldLink RX0 83 "LadderBench$Network" "around" "[I", Cond.fieldLink RX0 25 "LadderBench$Circuit" "share" "LLadderBench$Fraction;", Cond.methodLink RX0 55 yX2_copy, Cond.instanceMethod yX2_copy, Cond.selects RX2 yX2_copy yX2_copy, Cond.code yX2_copy cX2_copy 2 none, Cond.methodLink RX0 59 yX2_invert, Cond.instanceMethod yX2_invert, Cond.selects RX2 yX2_invert yX2_invert, Cond.code yX2_invert cX2_invert 3 none]
def wsX0_findOhms_r3 : List Cond := [Cond.methodLink RX0 86 yX2_add, Cond.instanceMethod yX2_add, Cond.selects RX2 yX2_add yX2_add, Cond.code yX2_add cX2_add 9 none, Cond.methodLink RX2 22 yX2_put, Cond.methodLink RX0 65 yX0_addMeter, Cond.instanceMethod yX0_addMeter, Cond.selects RX0 yX0_addMeter yX0_addMeter, Cond.code yX0_addMeter cX0_addMeter 3 none]
def wsX0_findOhms : List Cond := .code yX0_findOhms cX0_findOhms 5 none :: ((wsX0_findOhms_r1 ++ (wsX0_findOhms_r2 ++ wsX0_findOhms_r3)) ++ wsX80 ++ wsX50 ++ wsX00 ++ wsX20)
def wsX2_isInfinite : List Cond := .code yX2_isInfinite cX2_isInfinite 1 (some .boolean) :: ([.fieldLink RX2 15 "LadderBench$Fraction" "lower" "J"] ++ wsX20)
def wsX2_isZero : List Cond := .code yX2_isZero cX2_isZero 1 (some .boolean) :: ([.fieldLink RX2 9 "LadderBench$Fraction" "upper" "J"] ++ wsX20)
def wsX0_countInfinite : List Cond := .code yX0_countInfinite cX0_countInfinite 5 (some .int) :: ([.fieldLink RX0 83 "LadderBench$Network" "around" "[I", .fieldLink RX0 11 "LadderBench$Circuit" "ohms" "[LLadderBench$Fraction;", .methodLink RX0 105 yX2_isInfinite, .instanceMethod yX2_isInfinite, .selects RX2 yX2_isInfinite yX2_isInfinite, .initialized RX2, .code yX2_isInfinite cX2_isInfinite 1 (some .boolean), .fieldLink RX2 15 "LadderBench$Fraction" "lower" "J"] ++ wsX50 ++ wsX00 ++ wsX20)
def wsX2_multiply : List Cond := .code yX2_multiply cX2_multiply 8 none :: ([.fieldLink RX2 9 "LadderBench$Fraction" "upper" "J", .fieldLink RX2 15 "LadderBench$Fraction" "lower" "J", .methodLink RX2 18 yX2_commonDivisor, .static yX2_commonDivisor, .initialized RX2, .code yX2_commonDivisor cX2_commonDivisor 11 (some .long)] ++ wsX20)
def wsX0_divideVolts_r1 : List Cond := [Cond.fieldLink RX0 11 "LadderBench$Circuit" "ohms" "[LLadderBench$Fraction;", Cond.fieldLink RX0 17 "LadderBench$Circuit" "volts" "[LLadderBench$Fraction;", Cond.fieldLink RX0 25 "LadderBench$Circuit" "share" "LLadderBench$Fraction;", Cond.methodLink RX0 116 Lib.Math.max.name, Cond.static Lib.Math.max.name, Cond.initialized "java/lang/Math", Cond.code Lib.Math.max.name Lib.Math.max.code 2 (some .int), Cond.methodLink RX0 105 yX2_isInfinite, Cond.instanceMethod yX2_isInfinite, Cond.selects RX2 yX2_isInfinite yX2_isInfinite, Cond.initialized RX2, Cond.code yX2_isInfinite cX2_isInfinite 1 (some .boolean), Cond.fieldLink RX2 15 "LadderBench$Fraction" "lower" "J", Cond.methodLink RX0 109 yX2_isZero, Cond.instanceMethod yX2_isZero, Cond.selects RX2 yX2_isZero yX2_isZero, Cond.code yX2_isZero cX2_isZero 1 (some .boolean), Cond.fieldLink RX2 9 "LadderBench$Fraction" "upper" "J", Cond.methodLink RX0 79 yX2_put, Cond.instanceMethod yX2_put, Cond.selects RX2 yX2_put yX2_put, Cond.code yX2_put cX2_put 7 none, Cond.methodLink RX2 18 yX2_commonDivisor, Cond.static yX2_commonDivisor]
def wsX0_divideVolts_r2 : List Cond := [Cond.code yX2_commonDivisor cX2_commonDivisor 11 (some .long), Cond.methodLink RX0 112 yX0_countInfinite, Cond.instanceMethod yX0_countInfinite, Cond.selects RX0 yX0_countInfinite yX0_countInfinite, Cond.initialized RX0, Cond.code yX0_countInfinite cX0_countInfinite 5 (some .int), Cond.fieldLink RX0 83 "LadderBench$Network" "around" "[I", Cond.methodLink RX0 55 yX2_copy, Cond.instanceMethod yX2_copy, Cond.selects RX2 yX2_copy yX2_copy, Cond.code yX2_copy cX2_copy 2 none, Cond.methodLink RX0 59 yX2_invert, Cond.instanceMethod yX2_invert, Cond.selects RX2 yX2_invert yX2_invert, Cond.code yX2_invert cX2_invert 3 none, Cond.methodLink RX0 122 yX2_multiply, Cond.instanceMethod yX2_multiply, Cond.selects RX2 yX2_multiply yX2_multiply, Cond.code yX2_multiply cX2_multiply 8 none]
def wsX0_divideVolts : List Cond := .code yX0_divideVolts cX0_divideVolts 5 none :: ((wsX0_divideVolts_r1 ++ wsX0_divideVolts_r2) ++ wsX00 ++ wsX20 ++ wsX50)
def wsX0_findVolts_r1 : List Cond := [Cond.fieldLink RX0 31 "LadderBench$State" "network" "LLadderBench$Network;", Cond.fieldLink RX0 37 "LadderBench$Network" "size" "I", Cond.fieldLink RX0 83 "LadderBench$Network" "around" "[I", Cond.fieldLink RX0 17 "LadderBench$Circuit" "volts" "[LLadderBench$Fraction;", Cond.fieldLink RX0 99 "LadderBench$State" "source" "I", Cond.methodLink RX0 95 yX5_hasPart, Cond.instanceMethod yX5_hasPart, Cond.selects RX5 yX5_hasPart yX5_hasPart, Cond.initialized RX5, Cond.code yX5_hasPart cX5_hasPart 2 (some .boolean), Cond.fieldLink RX5 24 "LadderBench$Network" "size" "I", Cond.methodLink RX0 79 yX2_put, Cond.instanceMethod yX2_put, Cond.selects RX2 yX2_put yX2_put, Cond.initialized RX2, Cond.code yX2_put cX2_put 7 none, Cond.fieldLink RX2 9 "LadderBench$Fraction" "upper" "J", Cond.fieldLink RX2 15 "LadderBench$Fraction" "lower" "J", Cond.methodLink RX2 18 yX2_commonDivisor, Cond.static yX2_commonDivisor, Cond.code yX2_commonDivisor cX2_commonDivisor 11 (some .long), Cond.methodLink RX0 43 yX5_isKind, Cond.instanceMethod yX5_isKind, Cond.selects RX5 yX5_isKind yX5_isKind]
def wsX0_findVolts_r2 : List Cond := [Cond.code yX5_isKind cX5_isKind 3 (some .boolean), Cond.fieldLink RX5 9 "LadderBench$Network" "kind" "[I", Cond.methodLink RX5 37 yX5_hasPart, Cond.methodLink RX0 55 yX2_copy, Cond.instanceMethod yX2_copy, Cond.selects RX2 yX2_copy yX2_copy, Cond.code yX2_copy cX2_copy 2 none, Cond.methodLink RX0 102 yX0_divideVolts, Cond.instanceMethod yX0_divideVolts, Cond.selects RX0 yX0_divideVolts yX0_divideVolts, Cond.initialized RX0, Cond.code yX0_divideVolts cX0_divideVolts 5 none, Cond.fieldLink RX0 11 "LadderBench$Circuit" "ohms" "[LLadderBench$Fraction;", Cond.fieldLink RX0 25 "LadderBench$Circuit" "share" "LLadderBench$Fraction;", Cond.methodLink RX0 116 Lib.Math.max.name, Cond.static Lib.Math.max.name, Cond.initialized "java/lang/Math", Cond.code Lib.Math.max.name Lib.Math.max.code 2 (some .int), Cond.methodLink RX0 105 yX2_isInfinite, Cond.instanceMethod yX2_isInfinite, Cond.selects RX2 yX2_isInfinite yX2_isInfinite, Cond.code yX2_isInfinite cX2_isInfinite 1 (some .boolean), Cond.methodLink RX0 109 yX2_isZero, Cond.instanceMethod yX2_isZero]
def wsX0_findVolts_r3 : List Cond := [Cond.selects RX2 yX2_isZero yX2_isZero, Cond.code yX2_isZero cX2_isZero 1 (some .boolean), Cond.methodLink RX0 112 yX0_countInfinite, Cond.instanceMethod yX0_countInfinite, Cond.selects RX0 yX0_countInfinite yX0_countInfinite, Cond.code yX0_countInfinite cX0_countInfinite 5 (some .int), Cond.methodLink RX0 59 yX2_invert, Cond.instanceMethod yX2_invert, Cond.selects RX2 yX2_invert yX2_invert, Cond.code yX2_invert cX2_invert 3 none, Cond.methodLink RX0 122 yX2_multiply, Cond.instanceMethod yX2_multiply, Cond.selects RX2 yX2_multiply yX2_multiply, Cond.code yX2_multiply cX2_multiply 8 none]
def wsX0_findVolts : List Cond := .code yX0_findVolts cX0_findVolts 6 none :: ((wsX0_findVolts_r1 ++ (wsX0_findVolts_r2 ++ wsX0_findVolts_r3)) ++ wsX80 ++ wsX50 ++ wsX00 ++ wsX20)
def wsX0_findVoltage_r1 : List Cond := [Cond.fieldLink RX0 17 "LadderBench$Circuit" "volts" "[LLadderBench$Fraction;", Cond.methodLink RX0 89 yX0_findOhms, Cond.instanceMethod yX0_findOhms, Cond.selects RX0 yX0_findOhms yX0_findOhms, Cond.initialized RX0, Cond.code yX0_findOhms cX0_findOhms 5 none, Cond.fieldLink RX0 31 "LadderBench$State" "network" "LLadderBench$Network;", Cond.fieldLink RX0 37 "LadderBench$Network" "size" "I", Cond.fieldLink RX0 11 "LadderBench$Circuit" "ohms" "[LLadderBench$Fraction;", Cond.fieldLink RX0 21 "LadderBench$Circuit" "sum" "LLadderBench$Fraction;", Cond.fieldLink RX0 62 "LadderBench$State" "meter" "I", Cond.methodLink RX0 43 yX5_isKind, Cond.instanceMethod yX5_isKind, Cond.selects RX5 yX5_isKind yX5_isKind, Cond.initialized RX5, Cond.code yX5_isKind cX5_isKind 3 (some .boolean), Cond.fieldLink RX5 9 "LadderBench$Network" "kind" "[I", Cond.methodLink RX5 37 yX5_hasPart, Cond.instanceMethod yX5_hasPart, Cond.selects RX5 yX5_hasPart yX5_hasPart, Cond.code yX5_hasPart cX5_hasPart 2 (some .boolean), Cond.fieldLink RX5 24 "LadderBench$Network" "size" "I", Cond.methodLink RX0 47 yX0_putArm, Cond.instanceMethod yX0_putArm]
def wsX0_findVoltage_r2 : List Cond := [Cond.selects RX0 yX0_putArm yX0_putArm, Cond.code yX0_putArm cX0_putArm 4 none, Cond.fieldLink RX0 69 "LadderBench$Network" "letter" "[I", Cond.fieldLink RX0 73 "LadderBench$State" "armState" "[I", Cond.fieldLink RX0 76 "LadderBench$State" "armValue" "[I", Cond.methodLink RX0 79 yX2_put, Cond.instanceMethod yX2_put, Cond.selects RX2 yX2_put yX2_put, Cond.initialized RX2, Cond.code yX2_put cX2_put 7 none, Cond.fieldLink RX2 9 "LadderBench$Fraction" "upper" "J", Cond.fieldLink RX2 15 "LadderBench$Fraction" "lower" "J", Cond.methodLink RX2 18 yX2_commonDivisor, Cond.static yX2_commonDivisor, Cond.code yX2_commonDivisor cX2_commonDivisor 11 (some .long), Cond.methodLink RX0 51 yX0_addUp, Cond.instanceMethod yX0_addUp, Cond.selects RX0 yX0_addUp yX0_addUp, Cond.code yX0_addUp cX0_addUp 5 none, Cond.fieldLink RX0 83 "LadderBench$Network" "around" "[I", Cond.fieldLink RX0 25 "LadderBench$Circuit" "share" "LLadderBench$Fraction;", Cond.methodLink RX0 55 yX2_copy, Cond.instanceMethod yX2_copy, Cond.selects RX2 yX2_copy yX2_copy]
def wsX0_findVoltage_r3 : List Cond := [Cond.code yX2_copy cX2_copy 2 none, Cond.methodLink RX0 59 yX2_invert, Cond.instanceMethod yX2_invert, Cond.selects RX2 yX2_invert yX2_invert, Cond.code yX2_invert cX2_invert 3 none, Cond.methodLink RX0 86 yX2_add, Cond.instanceMethod yX2_add, Cond.selects RX2 yX2_add yX2_add, Cond.code yX2_add cX2_add 9 none, Cond.methodLink RX2 22 yX2_put, Cond.methodLink RX0 65 yX0_addMeter, Cond.instanceMethod yX0_addMeter, Cond.selects RX0 yX0_addMeter yX0_addMeter, Cond.code yX0_addMeter cX0_addMeter 3 none, Cond.methodLink RX0 92 yX0_findVolts, Cond.instanceMethod yX0_findVolts, Cond.selects RX0 yX0_findVolts yX0_findVolts, Cond.code yX0_findVolts cX0_findVolts 6 none, Cond.fieldLink RX0 99 "LadderBench$State" "source" "I", Cond.methodLink RX0 95 yX5_hasPart, Cond.methodLink RX0 102 yX0_divideVolts, Cond.instanceMethod yX0_divideVolts, Cond.selects RX0 yX0_divideVolts yX0_divideVolts, Cond.code yX0_divideVolts cX0_divideVolts 5 none]
def wsX0_findVoltage_r4 : List Cond := [Cond.methodLink RX0 116 Lib.Math.max.name, Cond.static Lib.Math.max.name, Cond.initialized "java/lang/Math", Cond.code Lib.Math.max.name Lib.Math.max.code 2 (some .int), Cond.methodLink RX0 105 yX2_isInfinite, Cond.instanceMethod yX2_isInfinite, Cond.selects RX2 yX2_isInfinite yX2_isInfinite, Cond.code yX2_isInfinite cX2_isInfinite 1 (some .boolean), Cond.methodLink RX0 109 yX2_isZero, Cond.instanceMethod yX2_isZero, Cond.selects RX2 yX2_isZero yX2_isZero, Cond.code yX2_isZero cX2_isZero 1 (some .boolean), Cond.methodLink RX0 112 yX0_countInfinite, Cond.instanceMethod yX0_countInfinite, Cond.selects RX0 yX0_countInfinite yX0_countInfinite, Cond.code yX0_countInfinite cX0_countInfinite 5 (some .int), Cond.methodLink RX0 122 yX2_multiply, Cond.instanceMethod yX2_multiply, Cond.selects RX2 yX2_multiply yX2_multiply, Cond.code yX2_multiply cX2_multiply 8 none]
def wsX0_findVoltage : List Cond := .code yX0_findVoltage cX0_findVoltage 3 (some (.object "LadderBench$Fraction")) :: ((wsX0_findVoltage_r1 ++ (wsX0_findVoltage_r2 ++ (wsX0_findVoltage_r3 ++ wsX0_findVoltage_r4))) ++ wsX00 ++ wsX80 ++ wsX50 ++ wsX20)
def wsX0_findReading_r1 : List Cond := [Cond.fieldLink RX0 17 "LadderBench$Circuit" "volts" "[LLadderBench$Fraction;", Cond.methodLink RX0 89 yX0_findOhms, Cond.instanceMethod yX0_findOhms, Cond.selects RX0 yX0_findOhms yX0_findOhms, Cond.initialized RX0, Cond.code yX0_findOhms cX0_findOhms 5 none, Cond.fieldLink RX0 31 "LadderBench$State" "network" "LLadderBench$Network;", Cond.fieldLink RX0 37 "LadderBench$Network" "size" "I", Cond.fieldLink RX0 11 "LadderBench$Circuit" "ohms" "[LLadderBench$Fraction;", Cond.fieldLink RX0 21 "LadderBench$Circuit" "sum" "LLadderBench$Fraction;", Cond.fieldLink RX0 62 "LadderBench$State" "meter" "I", Cond.methodLink RX0 43 yX5_isKind, Cond.instanceMethod yX5_isKind, Cond.selects RX5 yX5_isKind yX5_isKind, Cond.initialized RX5, Cond.code yX5_isKind cX5_isKind 3 (some .boolean), Cond.fieldLink RX5 9 "LadderBench$Network" "kind" "[I", Cond.methodLink RX5 37 yX5_hasPart, Cond.instanceMethod yX5_hasPart, Cond.selects RX5 yX5_hasPart yX5_hasPart, Cond.code yX5_hasPart cX5_hasPart 2 (some .boolean), Cond.fieldLink RX5 24 "LadderBench$Network" "size" "I", Cond.methodLink RX0 47 yX0_putArm, Cond.instanceMethod yX0_putArm]
def wsX0_findReading_r2 : List Cond := [Cond.selects RX0 yX0_putArm yX0_putArm, Cond.code yX0_putArm cX0_putArm 4 none, Cond.fieldLink RX0 69 "LadderBench$Network" "letter" "[I", Cond.fieldLink RX0 73 "LadderBench$State" "armState" "[I", Cond.fieldLink RX0 76 "LadderBench$State" "armValue" "[I", Cond.methodLink RX0 79 yX2_put, Cond.instanceMethod yX2_put, Cond.selects RX2 yX2_put yX2_put, Cond.initialized RX2, Cond.code yX2_put cX2_put 7 none, Cond.fieldLink RX2 9 "LadderBench$Fraction" "upper" "J", Cond.fieldLink RX2 15 "LadderBench$Fraction" "lower" "J", Cond.methodLink RX2 18 yX2_commonDivisor, Cond.static yX2_commonDivisor, Cond.code yX2_commonDivisor cX2_commonDivisor 11 (some .long), Cond.methodLink RX0 51 yX0_addUp, Cond.instanceMethod yX0_addUp, Cond.selects RX0 yX0_addUp yX0_addUp, Cond.code yX0_addUp cX0_addUp 5 none, Cond.fieldLink RX0 83 "LadderBench$Network" "around" "[I", Cond.fieldLink RX0 25 "LadderBench$Circuit" "share" "LLadderBench$Fraction;", Cond.methodLink RX0 55 yX2_copy, Cond.instanceMethod yX2_copy, Cond.selects RX2 yX2_copy yX2_copy]
def wsX0_findReading_r3 : List Cond := [Cond.code yX2_copy cX2_copy 2 none, Cond.methodLink RX0 59 yX2_invert, Cond.instanceMethod yX2_invert, Cond.selects RX2 yX2_invert yX2_invert, Cond.code yX2_invert cX2_invert 3 none, Cond.methodLink RX0 86 yX2_add, Cond.instanceMethod yX2_add, Cond.selects RX2 yX2_add yX2_add, Cond.code yX2_add cX2_add 9 none, Cond.methodLink RX2 22 yX2_put, Cond.methodLink RX0 65 yX0_addMeter, Cond.instanceMethod yX0_addMeter, Cond.selects RX0 yX0_addMeter yX0_addMeter, Cond.code yX0_addMeter cX0_addMeter 3 none, Cond.methodLink RX0 92 yX0_findVolts, Cond.instanceMethod yX0_findVolts, Cond.selects RX0 yX0_findVolts yX0_findVolts, Cond.code yX0_findVolts cX0_findVolts 6 none, Cond.fieldLink RX0 99 "LadderBench$State" "source" "I", Cond.methodLink RX0 95 yX5_hasPart, Cond.methodLink RX0 102 yX0_divideVolts, Cond.instanceMethod yX0_divideVolts, Cond.selects RX0 yX0_divideVolts yX0_divideVolts, Cond.code yX0_divideVolts cX0_divideVolts 5 none]
def wsX0_findReading_r4 : List Cond := [Cond.methodLink RX0 116 Lib.Math.max.name, Cond.static Lib.Math.max.name, Cond.initialized "java/lang/Math", Cond.code Lib.Math.max.name Lib.Math.max.code 2 (some .int), Cond.methodLink RX0 105 yX2_isInfinite, Cond.instanceMethod yX2_isInfinite, Cond.selects RX2 yX2_isInfinite yX2_isInfinite, Cond.code yX2_isInfinite cX2_isInfinite 1 (some .boolean), Cond.methodLink RX0 109 yX2_isZero, Cond.instanceMethod yX2_isZero, Cond.selects RX2 yX2_isZero yX2_isZero, Cond.code yX2_isZero cX2_isZero 1 (some .boolean), Cond.methodLink RX0 112 yX0_countInfinite, Cond.instanceMethod yX0_countInfinite, Cond.selects RX0 yX0_countInfinite yX0_countInfinite, Cond.code yX0_countInfinite cX0_countInfinite 5 (some .int), Cond.methodLink RX0 122 yX2_multiply, Cond.instanceMethod yX2_multiply, Cond.selects RX2 yX2_multiply yX2_multiply, Cond.code yX2_multiply cX2_multiply 8 none]
def wsX0_findReading : List Cond := .code yX0_findReading cX0_findReading 3 (some (.object "LadderBench$Fraction")) :: ((wsX0_findReading_r1 ++ (wsX0_findReading_r2 ++ (wsX0_findReading_r3 ++ wsX0_findReading_r4))) ++ wsX00 ++ wsX80 ++ wsX50 ++ wsX20)
def wsJ9_floorDiv_f86c9 : List Cond := .code yJ9_floorDiv_f86c9 cJ9_floorDiv_f86c9 6 (some .long) :: ([])
def wsX0_findLoss_r1 : List Cond := [Cond.fieldLink RX0 28 "LadderBench$Circuit" "unloaded" "LLadderBench$Fraction;", Cond.fieldLink RX0 17 "LadderBench$Circuit" "volts" "[LLadderBench$Fraction;", Cond.fieldLink RX0 25 "LadderBench$Circuit" "share" "LLadderBench$Fraction;", Cond.fieldLink RX0 125 "LadderBench$Fraction" "lower" "J", Cond.constantLong RX0 129 (1000), Cond.fieldLink RX0 131 "LadderBench$Fraction" "upper" "J", Cond.methodLink RX0 89 yX0_findOhms, Cond.instanceMethod yX0_findOhms, Cond.selects RX0 yX0_findOhms yX0_findOhms, Cond.initialized RX0, Cond.code yX0_findOhms cX0_findOhms 5 none, Cond.fieldLink RX0 31 "LadderBench$State" "network" "LLadderBench$Network;", Cond.fieldLink RX0 37 "LadderBench$Network" "size" "I", Cond.fieldLink RX0 11 "LadderBench$Circuit" "ohms" "[LLadderBench$Fraction;", Cond.fieldLink RX0 21 "LadderBench$Circuit" "sum" "LLadderBench$Fraction;", Cond.fieldLink RX0 62 "LadderBench$State" "meter" "I", Cond.methodLink RX0 43 yX5_isKind, Cond.instanceMethod yX5_isKind, Cond.selects RX5 yX5_isKind yX5_isKind, Cond.initialized RX5, Cond.code yX5_isKind cX5_isKind 3 (some .boolean), Cond.fieldLink RX5 9 "LadderBench$Network" "kind" "[I", Cond.methodLink RX5 37 yX5_hasPart, Cond.instanceMethod yX5_hasPart]
def wsX0_findLoss_r2 : List Cond := [Cond.selects RX5 yX5_hasPart yX5_hasPart, Cond.code yX5_hasPart cX5_hasPart 2 (some .boolean), Cond.fieldLink RX5 24 "LadderBench$Network" "size" "I", Cond.methodLink RX0 47 yX0_putArm, Cond.instanceMethod yX0_putArm, Cond.selects RX0 yX0_putArm yX0_putArm, Cond.code yX0_putArm cX0_putArm 4 none, Cond.fieldLink RX0 69 "LadderBench$Network" "letter" "[I", Cond.fieldLink RX0 73 "LadderBench$State" "armState" "[I", Cond.fieldLink RX0 76 "LadderBench$State" "armValue" "[I", Cond.methodLink RX0 79 yX2_put, Cond.instanceMethod yX2_put, Cond.selects RX2 yX2_put yX2_put, Cond.initialized RX2, Cond.code yX2_put cX2_put 7 none, Cond.fieldLink RX2 9 "LadderBench$Fraction" "upper" "J", Cond.fieldLink RX2 15 "LadderBench$Fraction" "lower" "J", Cond.methodLink RX2 18 yX2_commonDivisor, Cond.static yX2_commonDivisor, Cond.code yX2_commonDivisor cX2_commonDivisor 11 (some .long), Cond.methodLink RX0 51 yX0_addUp, Cond.instanceMethod yX0_addUp, Cond.selects RX0 yX0_addUp yX0_addUp, Cond.code yX0_addUp cX0_addUp 5 none]
def wsX0_findLoss_r3 : List Cond := [Cond.fieldLink RX0 83 "LadderBench$Network" "around" "[I", Cond.methodLink RX0 55 yX2_copy, Cond.instanceMethod yX2_copy, Cond.selects RX2 yX2_copy yX2_copy, Cond.code yX2_copy cX2_copy 2 none, Cond.methodLink RX0 59 yX2_invert, Cond.instanceMethod yX2_invert, Cond.selects RX2 yX2_invert yX2_invert, Cond.code yX2_invert cX2_invert 3 none, Cond.methodLink RX0 86 yX2_add, Cond.instanceMethod yX2_add, Cond.selects RX2 yX2_add yX2_add, Cond.code yX2_add cX2_add 9 none, Cond.methodLink RX2 22 yX2_put, Cond.methodLink RX0 65 yX0_addMeter, Cond.instanceMethod yX0_addMeter, Cond.selects RX0 yX0_addMeter yX0_addMeter, Cond.code yX0_addMeter cX0_addMeter 3 none, Cond.methodLink RX0 92 yX0_findVolts, Cond.instanceMethod yX0_findVolts, Cond.selects RX0 yX0_findVolts yX0_findVolts, Cond.code yX0_findVolts cX0_findVolts 6 none, Cond.fieldLink RX0 99 "LadderBench$State" "source" "I", Cond.methodLink RX0 95 yX5_hasPart]
def wsX0_findLoss_r4 : List Cond := [Cond.methodLink RX0 102 yX0_divideVolts, Cond.instanceMethod yX0_divideVolts, Cond.selects RX0 yX0_divideVolts yX0_divideVolts, Cond.code yX0_divideVolts cX0_divideVolts 5 none, Cond.methodLink RX0 116 Lib.Math.max.name, Cond.static Lib.Math.max.name, Cond.initialized "java/lang/Math", Cond.code Lib.Math.max.name Lib.Math.max.code 2 (some .int), Cond.methodLink RX0 105 yX2_isInfinite, Cond.instanceMethod yX2_isInfinite, Cond.selects RX2 yX2_isInfinite yX2_isInfinite, Cond.code yX2_isInfinite cX2_isInfinite 1 (some .boolean), Cond.methodLink RX0 109 yX2_isZero, Cond.instanceMethod yX2_isZero, Cond.selects RX2 yX2_isZero yX2_isZero, Cond.code yX2_isZero cX2_isZero 1 (some .boolean), Cond.methodLink RX0 112 yX0_countInfinite, Cond.instanceMethod yX0_countInfinite, Cond.selects RX0 yX0_countInfinite yX0_countInfinite, Cond.code yX0_countInfinite cX0_countInfinite 5 (some .int), Cond.methodLink RX0 122 yX2_multiply, Cond.instanceMethod yX2_multiply, Cond.selects RX2 yX2_multiply yX2_multiply, Cond.code yX2_multiply cX2_multiply 8 none]
def wsX0_findLoss_r5 : List Cond := [Cond.methodLink RX0 134 yJ9_floorDiv_f86c9, Cond.static yJ9_floorDiv_f86c9, Cond.initialized RJ9, Cond.code yJ9_floorDiv_f86c9 cJ9_floorDiv_f86c9 6 (some .long)]
def wsX0_findLoss : List Cond := .code yX0_findLoss cX0_findLoss 3 (some .int) :: ((wsX0_findLoss_r1 ++ (wsX0_findLoss_r2 ++ (wsX0_findLoss_r3 ++ (wsX0_findLoss_r4 ++ wsX0_findLoss_r5)))) ++ wsX00 ++ wsX20 ++ wsX80 ++ wsX50)
def wsX5_findWayUp : List Cond := .code yX5_findWayUp cX5_findWayUp 5 (some .int) :: ([.fieldLink RX5 15 "LadderBench$Network" "around" "[I", .methodLink RX5 37 yX5_hasPart, .instanceMethod yX5_hasPart, .selects RX5 yX5_hasPart yX5_hasPart, .initialized RX5, .code yX5_hasPart cX5_hasPart 2 (some .boolean), .fieldLink RX5 24 "LadderBench$Network" "size" "I"] ++ wsX50)
def wsX2_isSame : List Cond := .code yX2_isSame cX2_isSame 2 (some .boolean) :: ([.fieldLink RX2 9 "LadderBench$Fraction" "upper" "J", .fieldLink RX2 15 "LadderBench$Fraction" "lower" "J"] ++ wsX20)
def wsX0_takeOthersOff_r1 : List Cond := [Cond.fieldLink RX0 83 "LadderBench$Network" "around" "[I", Cond.fieldLink RX0 21 "LadderBench$Circuit" "sum" "LLadderBench$Fraction;", Cond.fieldLink RX0 131 "LadderBench$Fraction" "upper" "J", Cond.methodLink RX0 51 yX0_addUp, Cond.instanceMethod yX0_addUp, Cond.selects RX0 yX0_addUp yX0_addUp, Cond.initialized RX0, Cond.code yX0_addUp cX0_addUp 5 none, Cond.fieldLink RX0 25 "LadderBench$Circuit" "share" "LLadderBench$Fraction;", Cond.fieldLink RX0 11 "LadderBench$Circuit" "ohms" "[LLadderBench$Fraction;", Cond.methodLink RX0 79 yX2_put, Cond.instanceMethod yX2_put, Cond.selects RX2 yX2_put yX2_put, Cond.initialized RX2, Cond.code yX2_put cX2_put 7 none, Cond.fieldLink RX2 9 "LadderBench$Fraction" "upper" "J", Cond.fieldLink RX2 15 "LadderBench$Fraction" "lower" "J", Cond.methodLink RX2 18 yX2_commonDivisor, Cond.static yX2_commonDivisor, Cond.code yX2_commonDivisor cX2_commonDivisor 11 (some .long), Cond.methodLink RX0 55 yX2_copy, Cond.instanceMethod yX2_copy, Cond.selects RX2 yX2_copy yX2_copy, Cond.code yX2_copy cX2_copy 2 none]
def wsX0_takeOthersOff_r2 : List Cond := [Cond.methodLink RX0 43 yX5_isKind, Cond.instanceMethod yX5_isKind, Cond.selects RX5 yX5_isKind yX5_isKind, Cond.initialized RX5, Cond.code yX5_isKind cX5_isKind 3 (some .boolean), Cond.fieldLink RX5 9 "LadderBench$Network" "kind" "[I", Cond.methodLink RX5 37 yX5_hasPart, Cond.instanceMethod yX5_hasPart, Cond.selects RX5 yX5_hasPart yX5_hasPart, Cond.code yX5_hasPart cX5_hasPart 2 (some .boolean), Cond.fieldLink RX5 24 "LadderBench$Network" "size" "I", Cond.methodLink RX0 59 yX2_invert, Cond.instanceMethod yX2_invert, Cond.selects RX2 yX2_invert yX2_invert, Cond.code yX2_invert cX2_invert 3 none, Cond.methodLink RX0 86 yX2_add, Cond.instanceMethod yX2_add, Cond.selects RX2 yX2_add yX2_add, Cond.code yX2_add cX2_add 9 none, Cond.methodLink RX2 22 yX2_put]
def wsX0_takeOthersOff : List Cond := .code yX0_takeOthersOff cX0_takeOthersOff 6 (some .boolean) :: ((wsX0_takeOthersOff_r1 ++ wsX0_takeOthersOff_r2) ++ wsX50 ++ wsX00 ++ wsX20)
def wsX0_solveFor_r1 : List Cond := [Cond.fieldLink RX0 31 "LadderBench$State" "network" "LLadderBench$Network;", Cond.fieldLink RX0 37 "LadderBench$Network" "size" "I", Cond.fieldLink RX0 83 "LadderBench$Network" "around" "[I", Cond.fieldLink RX0 21 "LadderBench$Circuit" "sum" "LLadderBench$Fraction;", Cond.fieldLink RX0 11 "LadderBench$Circuit" "ohms" "[LLadderBench$Fraction;", Cond.methodLink RX0 89 yX0_findOhms, Cond.instanceMethod yX0_findOhms, Cond.selects RX0 yX0_findOhms yX0_findOhms, Cond.initialized RX0, Cond.code yX0_findOhms cX0_findOhms 5 none, Cond.fieldLink RX0 62 "LadderBench$State" "meter" "I", Cond.methodLink RX0 43 yX5_isKind, Cond.instanceMethod yX5_isKind, Cond.selects RX5 yX5_isKind yX5_isKind, Cond.initialized RX5, Cond.code yX5_isKind cX5_isKind 3 (some .boolean), Cond.fieldLink RX5 9 "LadderBench$Network" "kind" "[I", Cond.methodLink RX5 37 yX5_hasPart, Cond.instanceMethod yX5_hasPart, Cond.selects RX5 yX5_hasPart yX5_hasPart, Cond.code yX5_hasPart cX5_hasPart 2 (some .boolean), Cond.fieldLink RX5 24 "LadderBench$Network" "size" "I", Cond.methodLink RX0 47 yX0_putArm, Cond.instanceMethod yX0_putArm]
def wsX0_solveFor_r2 : List Cond := [Cond.selects RX0 yX0_putArm yX0_putArm, Cond.code yX0_putArm cX0_putArm 4 none, Cond.fieldLink RX0 69 "LadderBench$Network" "letter" "[I", Cond.fieldLink RX0 73 "LadderBench$State" "armState" "[I", Cond.fieldLink RX0 76 "LadderBench$State" "armValue" "[I", Cond.methodLink RX0 79 yX2_put, Cond.instanceMethod yX2_put, Cond.selects RX2 yX2_put yX2_put, Cond.initialized RX2, Cond.code yX2_put cX2_put 7 none, Cond.fieldLink RX2 9 "LadderBench$Fraction" "upper" "J", Cond.fieldLink RX2 15 "LadderBench$Fraction" "lower" "J", Cond.methodLink RX2 18 yX2_commonDivisor, Cond.static yX2_commonDivisor, Cond.code yX2_commonDivisor cX2_commonDivisor 11 (some .long), Cond.methodLink RX0 51 yX0_addUp, Cond.instanceMethod yX0_addUp, Cond.selects RX0 yX0_addUp yX0_addUp, Cond.code yX0_addUp cX0_addUp 5 none, Cond.fieldLink RX0 25 "LadderBench$Circuit" "share" "LLadderBench$Fraction;", Cond.methodLink RX0 55 yX2_copy, Cond.instanceMethod yX2_copy, Cond.selects RX2 yX2_copy yX2_copy, Cond.code yX2_copy cX2_copy 2 none]
def wsX0_solveFor_r3 : List Cond := [Cond.methodLink RX0 59 yX2_invert, Cond.instanceMethod yX2_invert, Cond.selects RX2 yX2_invert yX2_invert, Cond.code yX2_invert cX2_invert 3 none, Cond.methodLink RX0 86 yX2_add, Cond.instanceMethod yX2_add, Cond.selects RX2 yX2_add yX2_add, Cond.code yX2_add cX2_add 9 none, Cond.methodLink RX2 22 yX2_put, Cond.methodLink RX0 65 yX0_addMeter, Cond.instanceMethod yX0_addMeter, Cond.selects RX0 yX0_addMeter yX0_addMeter, Cond.code yX0_addMeter cX0_addMeter 3 none, Cond.methodLink RX0 138 yX5_findWayUp, Cond.instanceMethod yX5_findWayUp, Cond.selects RX5 yX5_findWayUp yX5_findWayUp, Cond.code yX5_findWayUp cX5_findWayUp 5 (some .int), Cond.fieldLink RX5 15 "LadderBench$Network" "around" "[I", Cond.methodLink RX0 105 yX2_isInfinite, Cond.instanceMethod yX2_isInfinite, Cond.selects RX2 yX2_isInfinite yX2_isInfinite, Cond.code yX2_isInfinite cX2_isInfinite 1 (some .boolean), Cond.methodLink RX0 142 yX2_isSame, Cond.instanceMethod yX2_isSame]
def wsX0_solveFor_r4 : List Cond := [Cond.selects RX2 yX2_isSame yX2_isSame, Cond.code yX2_isSame cX2_isSame 2 (some .boolean), Cond.methodLink RX0 146 yX0_takeOthersOff, Cond.instanceMethod yX0_takeOthersOff, Cond.selects RX0 yX0_takeOthersOff yX0_takeOthersOff, Cond.code yX0_takeOthersOff cX0_takeOthersOff 6 (some .boolean), Cond.fieldLink RX0 131 "LadderBench$Fraction" "upper" "J"]
def wsX0_solveFor : List Cond := .code yX0_solveFor cX0_solveFor 8 (some .int) :: ((wsX0_solveFor_r1 ++ (wsX0_solveFor_r2 ++ (wsX0_solveFor_r3 ++ wsX0_solveFor_r4))) ++ wsX80 ++ wsX50 ++ wsX00 ++ wsX20)
def wsX1_init : List Cond := .code yX1_init cX1_init 1 none :: ([.methodLink RX1 3 objectInit, .instanceMethod objectInit, .code objectInit ⟨#[0xb1]⟩ 1 none, .fieldLink RX1 9 "LadderBench$Command" "action" "I", .fieldLink RX1 15 "LadderBench$Command" "number" "I", .fieldLink RX1 18 "LadderBench$Command" "letter" "I"] ++ wsX10)
def wsX4_findBlank : List Cond := .code yX4_findBlank cX4_findBlank 3 (some .int) :: ([.fieldLink RX4 15 "LadderBench$Line" "length" "I", .fieldLink RX4 9 "LadderBench$Line" "characters" "[C"] ++ wsX40)
def wsJ0_coder_7d493 : List Cond := .code yJ0_coder_7d493 cJ0_coder_7d493 1 (some .byte) :: ([.fieldLink RJ0 38 "java/lang/String" "COMPACT_STRINGS" "Z", .fieldLink RJ0 15 "java/lang/String" "coder" "B"])
def wsJ0_length_8abf5 : List Cond := .code yJ0_length_8abf5 cJ0_length_8abf5 1 (some .int) :: ([.fieldLink RJ0 9 "java/lang/String" "value" "[B", .methodLink RJ0 335 yJ0_coder_7d493, .instanceMethod yJ0_coder_7d493, .selects RJ0 yJ0_coder_7d493 yJ0_coder_7d493, .initialized RJ0, .code yJ0_coder_7d493 cJ0_coder_7d493 1 (some .byte), .fieldLink RJ0 38 "java/lang/String" "COMPACT_STRINGS" "Z", .fieldLink RJ0 15 "java/lang/String" "coder" "B"])
def wsJ0_isLatin1_aae02 : List Cond := .code yJ0_isLatin1_aae02 cJ0_isLatin1_aae02 1 (some .boolean) :: ([.fieldLink RJ0 38 "java/lang/String" "COMPACT_STRINGS" "Z", .fieldLink RJ0 15 "java/lang/String" "coder" "B"])
def wsJ3_checkIndex_8e157 : List Cond := .code yJ3_checkIndex_8e157 cJ3_checkIndex_8e157 3 (some .int) :: ([])
def wsJ0_checkIndex_df160 : List Cond := .code yJ0_checkIndex_df160 cJ0_checkIndex_df160 2 none :: ([.fieldLink RJ0 1053 "jdk/internal/util/Preconditions" "SIOOBE_FORMATTER" "Ljava/util/function/BiFunction;", .methodLink RJ0 1059 yJ3_checkIndex_8e157, .static yJ3_checkIndex_8e157, .initialized RJ3, .code yJ3_checkIndex_8e157 cJ3_checkIndex_8e157 3 (some .int)])
def wsJ1_charAt_3b067 : List Cond := .code yJ1_charAt_3b067 cJ1_charAt_3b067 2 (some .char) :: ([.methodLink RJ1 9 yJ0_checkIndex_df160, .static yJ0_checkIndex_df160, .initialized RJ0, .code yJ0_checkIndex_df160 cJ0_checkIndex_df160 2 none, .fieldLink RJ0 1053 "jdk/internal/util/Preconditions" "SIOOBE_FORMATTER" "Ljava/util/function/BiFunction;", .methodLink RJ0 1059 yJ3_checkIndex_8e157, .static yJ3_checkIndex_8e157, .initialized RJ3, .code yJ3_checkIndex_8e157 cJ3_checkIndex_8e157 3 (some .int)])
def wsJ2_length_9d52b : List Cond := .code yJ2_length_9d52b cJ2_length_9d52b 1 (some .int) :: ([])
def wsJ2_checkIndex_2214a : List Cond := .code yJ2_checkIndex_2214a cJ2_checkIndex_2214a 2 none :: ([.methodLink RJ2 48 yJ2_length_9d52b, .static yJ2_length_9d52b, .initialized RJ2, .code yJ2_length_9d52b cJ2_length_9d52b 1 (some .int), .methodLink RJ2 414 yJ0_checkIndex_df160, .static yJ0_checkIndex_df160, .initialized RJ0, .code yJ0_checkIndex_df160 cJ0_checkIndex_df160 2 none, .fieldLink RJ0 1053 "jdk/internal/util/Preconditions" "SIOOBE_FORMATTER" "Ljava/util/function/BiFunction;", .methodLink RJ0 1059 yJ3_checkIndex_8e157, .static yJ3_checkIndex_8e157, .initialized RJ3, .code yJ3_checkIndex_8e157 cJ3_checkIndex_8e157 3 (some .int)])
def wsJ2_getChar_3b067 : List Cond := .code yJ2_getChar_3b067 cJ2_getChar_3b067 2 (some .char) :: ([.fieldLink RJ2 44 "java/lang/StringUTF16" "$assertionsDisabled" "Z", .fieldLink RJ2 59 "java/lang/StringUTF16" "HI_BYTE_SHIFT" "I", .fieldLink RJ2 63 "java/lang/StringUTF16" "LO_BYTE_SHIFT" "I", .methodLink RJ2 48 yJ2_length_9d52b, .static yJ2_length_9d52b, .initialized RJ2, .code yJ2_length_9d52b cJ2_length_9d52b 1 (some .int)])
def wsJ2_charAt_3b067 : List Cond := .code yJ2_charAt_3b067 cJ2_charAt_3b067 2 (some .char) :: ([.methodLink RJ2 67 yJ2_checkIndex_2214a, .static yJ2_checkIndex_2214a, .initialized RJ2, .code yJ2_checkIndex_2214a cJ2_checkIndex_2214a 2 none, .methodLink RJ2 48 yJ2_length_9d52b, .static yJ2_length_9d52b, .code yJ2_length_9d52b cJ2_length_9d52b 1 (some .int), .methodLink RJ2 414 yJ0_checkIndex_df160, .static yJ0_checkIndex_df160, .initialized RJ0, .code yJ0_checkIndex_df160 cJ0_checkIndex_df160 2 none, .fieldLink RJ0 1053 "jdk/internal/util/Preconditions" "SIOOBE_FORMATTER" "Ljava/util/function/BiFunction;", .methodLink RJ0 1059 yJ3_checkIndex_8e157, .static yJ3_checkIndex_8e157, .initialized RJ3, .code yJ3_checkIndex_8e157 cJ3_checkIndex_8e157 3 (some .int), .methodLink RJ2 71 yJ2_getChar_3b067, .static yJ2_getChar_3b067, .code yJ2_getChar_3b067 cJ2_getChar_3b067 2 (some .char), .fieldLink RJ2 44 "java/lang/StringUTF16" "$assertionsDisabled" "Z", .fieldLink RJ2 59 "java/lang/StringUTF16" "HI_BYTE_SHIFT" "I", .fieldLink RJ2 63 "java/lang/StringUTF16" "LO_BYTE_SHIFT" "I"])
def wsJ0_charAt_5068e_r1 : List Cond := [Cond.fieldLink RJ0 9 "java/lang/String" "value" "[B", Cond.methodLink RJ0 492 yJ0_isLatin1_aae02, Cond.instanceMethod yJ0_isLatin1_aae02, Cond.selects RJ0 yJ0_isLatin1_aae02 yJ0_isLatin1_aae02, Cond.initialized RJ0, Cond.code yJ0_isLatin1_aae02 cJ0_isLatin1_aae02 1 (some .boolean), Cond.fieldLink RJ0 38 "java/lang/String" "COMPACT_STRINGS" "Z", Cond.fieldLink RJ0 15 "java/lang/String" "coder" "B", Cond.methodLink RJ0 495 yJ1_charAt_3b067, Cond.static yJ1_charAt_3b067, Cond.initialized RJ1, Cond.code yJ1_charAt_3b067 cJ1_charAt_3b067 2 (some .char), Cond.methodLink RJ1 9 yJ0_checkIndex_df160, Cond.static yJ0_checkIndex_df160, Cond.code yJ0_checkIndex_df160 cJ0_checkIndex_df160 2 none, Cond.fieldLink RJ0 1053 "jdk/internal/util/Preconditions" "SIOOBE_FORMATTER" "Ljava/util/function/BiFunction;", Cond.methodLink RJ0 1059 yJ3_checkIndex_8e157, Cond.static yJ3_checkIndex_8e157, Cond.initialized RJ3, Cond.code yJ3_checkIndex_8e157 cJ3_checkIndex_8e157 3 (some .int), Cond.methodLink RJ0 498 yJ2_charAt_3b067, Cond.static yJ2_charAt_3b067, Cond.initialized RJ2, Cond.code yJ2_charAt_3b067 cJ2_charAt_3b067 2 (some .char)]
def wsJ0_charAt_5068e_r2 : List Cond := [Cond.methodLink RJ2 67 yJ2_checkIndex_2214a, Cond.static yJ2_checkIndex_2214a, Cond.code yJ2_checkIndex_2214a cJ2_checkIndex_2214a 2 none, Cond.methodLink RJ2 48 yJ2_length_9d52b, Cond.static yJ2_length_9d52b, Cond.code yJ2_length_9d52b cJ2_length_9d52b 1 (some .int), Cond.methodLink RJ2 414 yJ0_checkIndex_df160, Cond.methodLink RJ2 71 yJ2_getChar_3b067, Cond.static yJ2_getChar_3b067, Cond.code yJ2_getChar_3b067 cJ2_getChar_3b067 2 (some .char), Cond.fieldLink RJ2 44 "java/lang/StringUTF16" "$assertionsDisabled" "Z", Cond.fieldLink RJ2 59 "java/lang/StringUTF16" "HI_BYTE_SHIFT" "I", Cond.fieldLink RJ2 63 "java/lang/StringUTF16" "LO_BYTE_SHIFT" "I"]
def wsJ0_charAt_5068e : List Cond := .code yJ0_charAt_5068e cJ0_charAt_5068e 2 (some .char) :: ((wsJ0_charAt_5068e_r1 ++ wsJ0_charAt_5068e_r2))
def wsX4_spells_r1 : List Cond := [Cond.fieldLink RX4 9 "LadderBench$Line" "characters" "[C", Cond.methodLink RX4 19 yJ0_length_8abf5, Cond.instanceMethod yJ0_length_8abf5, Cond.selects RJ0 yJ0_length_8abf5 yJ0_length_8abf5, Cond.initialized RJ0, Cond.code yJ0_length_8abf5 cJ0_length_8abf5 1 (some .int), Cond.fieldLink RJ0 9 "java/lang/String" "value" "[B", Cond.methodLink RJ0 335 yJ0_coder_7d493, Cond.instanceMethod yJ0_coder_7d493, Cond.selects RJ0 yJ0_coder_7d493 yJ0_coder_7d493, Cond.code yJ0_coder_7d493 cJ0_coder_7d493 1 (some .byte), Cond.fieldLink RJ0 38 "java/lang/String" "COMPACT_STRINGS" "Z", Cond.fieldLink RJ0 15 "java/lang/String" "coder" "B", Cond.methodLink RX4 24 yJ0_charAt_5068e, Cond.instanceMethod yJ0_charAt_5068e, Cond.selects RJ0 yJ0_charAt_5068e yJ0_charAt_5068e, Cond.code yJ0_charAt_5068e cJ0_charAt_5068e 2 (some .char), Cond.methodLink RJ0 492 yJ0_isLatin1_aae02, Cond.instanceMethod yJ0_isLatin1_aae02, Cond.selects RJ0 yJ0_isLatin1_aae02 yJ0_isLatin1_aae02, Cond.code yJ0_isLatin1_aae02 cJ0_isLatin1_aae02 1 (some .boolean), Cond.methodLink RJ0 495 yJ1_charAt_3b067, Cond.static yJ1_charAt_3b067, Cond.initialized RJ1]
def wsX4_spells_r2 : List Cond := [Cond.code yJ1_charAt_3b067 cJ1_charAt_3b067 2 (some .char), Cond.methodLink RJ1 9 yJ0_checkIndex_df160, Cond.static yJ0_checkIndex_df160, Cond.code yJ0_checkIndex_df160 cJ0_checkIndex_df160 2 none, Cond.fieldLink RJ0 1053 "jdk/internal/util/Preconditions" "SIOOBE_FORMATTER" "Ljava/util/function/BiFunction;", Cond.methodLink RJ0 1059 yJ3_checkIndex_8e157, Cond.static yJ3_checkIndex_8e157, Cond.initialized RJ3, Cond.code yJ3_checkIndex_8e157 cJ3_checkIndex_8e157 3 (some .int), Cond.methodLink RJ0 498 yJ2_charAt_3b067, Cond.static yJ2_charAt_3b067, Cond.initialized RJ2, Cond.code yJ2_charAt_3b067 cJ2_charAt_3b067 2 (some .char), Cond.methodLink RJ2 67 yJ2_checkIndex_2214a, Cond.static yJ2_checkIndex_2214a, Cond.code yJ2_checkIndex_2214a cJ2_checkIndex_2214a 2 none, Cond.methodLink RJ2 48 yJ2_length_9d52b, Cond.static yJ2_length_9d52b, Cond.code yJ2_length_9d52b cJ2_length_9d52b 1 (some .int), Cond.methodLink RJ2 414 yJ0_checkIndex_df160, Cond.methodLink RJ2 71 yJ2_getChar_3b067, Cond.static yJ2_getChar_3b067, Cond.code yJ2_getChar_3b067 cJ2_getChar_3b067 2 (some .char), Cond.fieldLink RJ2 44 "java/lang/StringUTF16" "$assertionsDisabled" "Z"]
def wsX4_spells_r3 : List Cond := [Cond.fieldLink RJ2 59 "java/lang/StringUTF16" "HI_BYTE_SHIFT" "I", Cond.fieldLink RJ2 63 "java/lang/StringUTF16" "LO_BYTE_SHIFT" "I"]
def wsX4_spells : List Cond := .code yX4_spells cX4_spells 5 (some .boolean) :: ((wsX4_spells_r1 ++ (wsX4_spells_r2 ++ wsX4_spells_r3)) ++ wsX40)
def wsX1_findAction_r1 : List Cond := [Cond.methodLink RX1 60 yX4_spells, Cond.instanceMethod yX4_spells, Cond.selects RX4 yX4_spells yX4_spells, Cond.initialized RX4, Cond.code yX4_spells cX4_spells 5 (some .boolean), Cond.fieldLink RX4 9 "LadderBench$Line" "characters" "[C", Cond.methodLink RX4 19 yJ0_length_8abf5, Cond.instanceMethod yJ0_length_8abf5, Cond.selects RJ0 yJ0_length_8abf5 yJ0_length_8abf5, Cond.initialized RJ0, Cond.code yJ0_length_8abf5 cJ0_length_8abf5 1 (some .int), Cond.fieldLink RJ0 9 "java/lang/String" "value" "[B", Cond.methodLink RJ0 335 yJ0_coder_7d493, Cond.instanceMethod yJ0_coder_7d493, Cond.selects RJ0 yJ0_coder_7d493 yJ0_coder_7d493, Cond.code yJ0_coder_7d493 cJ0_coder_7d493 1 (some .byte), Cond.fieldLink RJ0 38 "java/lang/String" "COMPACT_STRINGS" "Z", Cond.fieldLink RJ0 15 "java/lang/String" "coder" "B", Cond.methodLink RX4 24 yJ0_charAt_5068e, Cond.instanceMethod yJ0_charAt_5068e, Cond.selects RJ0 yJ0_charAt_5068e yJ0_charAt_5068e, Cond.code yJ0_charAt_5068e cJ0_charAt_5068e 2 (some .char), Cond.methodLink RJ0 492 yJ0_isLatin1_aae02, Cond.instanceMethod yJ0_isLatin1_aae02]
def wsX1_findAction_r2 : List Cond := [Cond.selects RJ0 yJ0_isLatin1_aae02 yJ0_isLatin1_aae02, Cond.code yJ0_isLatin1_aae02 cJ0_isLatin1_aae02 1 (some .boolean), Cond.methodLink RJ0 495 yJ1_charAt_3b067, Cond.static yJ1_charAt_3b067, Cond.initialized RJ1, Cond.code yJ1_charAt_3b067 cJ1_charAt_3b067 2 (some .char), Cond.methodLink RJ1 9 yJ0_checkIndex_df160, Cond.static yJ0_checkIndex_df160, Cond.code yJ0_checkIndex_df160 cJ0_checkIndex_df160 2 none, Cond.fieldLink RJ0 1053 "jdk/internal/util/Preconditions" "SIOOBE_FORMATTER" "Ljava/util/function/BiFunction;", Cond.methodLink RJ0 1059 yJ3_checkIndex_8e157, Cond.static yJ3_checkIndex_8e157, Cond.initialized RJ3, Cond.code yJ3_checkIndex_8e157 cJ3_checkIndex_8e157 3 (some .int), Cond.methodLink RJ0 498 yJ2_charAt_3b067, Cond.static yJ2_charAt_3b067, Cond.initialized RJ2, Cond.code yJ2_charAt_3b067 cJ2_charAt_3b067 2 (some .char), Cond.methodLink RJ2 67 yJ2_checkIndex_2214a, Cond.static yJ2_checkIndex_2214a, Cond.code yJ2_checkIndex_2214a cJ2_checkIndex_2214a 2 none, Cond.methodLink RJ2 48 yJ2_length_9d52b, Cond.static yJ2_length_9d52b, Cond.code yJ2_length_9d52b cJ2_length_9d52b 1 (some .int)]
def wsX1_findAction_r3 : List Cond := [Cond.methodLink RJ2 414 yJ0_checkIndex_df160, Cond.methodLink RJ2 71 yJ2_getChar_3b067, Cond.static yJ2_getChar_3b067, Cond.code yJ2_getChar_3b067 cJ2_getChar_3b067 2 (some .char), Cond.fieldLink RJ2 44 "java/lang/StringUTF16" "$assertionsDisabled" "Z", Cond.fieldLink RJ2 59 "java/lang/StringUTF16" "HI_BYTE_SHIFT" "I", Cond.fieldLink RJ2 63 "java/lang/StringUTF16" "LO_BYTE_SHIFT" "I"]
def wsX1_findAction : List Cond := .code yX1_findAction cX1_findAction 2 (some .int) :: ((wsX1_findAction_r1 ++ (wsX1_findAction_r2 ++ wsX1_findAction_r3)) ++ wsX40)
def wsX1_takesLetter : List Cond := .code yX1_takesLetter cX1_takesLetter 1 (some .boolean) :: ([.fieldLink RX1 9 "LadderBench$Command" "action" "I"] ++ wsX10)
def wsX9_indexOfLetter : List Cond := .code yX9_indexOfLetter cX9_indexOfLetter 1 (some .int) :: ([])
def wsX1_takesNumber : List Cond := .code yX1_takesNumber cX1_takesNumber 1 (some .boolean) :: ([.fieldLink RX1 9 "LadderBench$Command" "action" "I"] ++ wsX10)
def wsX1_readNumber : List Cond := .code yX1_readNumber cX1_readNumber 6 (some .int) :: ([.fieldLink RX1 44 "LadderBench$Line" "characters" "[C"] ++ wsX40)
def wsX1_read_r1 : List Cond := [Cond.fieldLink RX1 9 "LadderBench$Command" "action" "I", Cond.fieldLink RX1 35 "LadderBench$Line" "length" "I", Cond.methodLink RX1 38 Lib.Math.min.name, Cond.static Lib.Math.min.name, Cond.initialized "java/lang/Math", Cond.code Lib.Math.min.name Lib.Math.min.code 2 (some .int), Cond.fieldLink RX1 44 "LadderBench$Line" "characters" "[C", Cond.fieldLink RX1 18 "LadderBench$Command" "letter" "I", Cond.fieldLink RX1 15 "LadderBench$Command" "number" "I", Cond.methodLink RX1 21 yX4_findBlank, Cond.instanceMethod yX4_findBlank, Cond.selects RX4 yX4_findBlank yX4_findBlank, Cond.initialized RX4, Cond.code yX4_findBlank cX4_findBlank 3 (some .int), Cond.fieldLink RX4 15 "LadderBench$Line" "length" "I", Cond.fieldLink RX4 9 "LadderBench$Line" "characters" "[C", Cond.methodLink RX1 27 yX1_findAction, Cond.static yX1_findAction, Cond.initialized RX1, Cond.code yX1_findAction cX1_findAction 2 (some .int), Cond.methodLink RX1 60 yX4_spells, Cond.instanceMethod yX4_spells, Cond.selects RX4 yX4_spells yX4_spells, Cond.code yX4_spells cX4_spells 5 (some .boolean)]
def wsX1_read_r2 : List Cond := [Cond.methodLink RX4 19 yJ0_length_8abf5, Cond.instanceMethod yJ0_length_8abf5, Cond.selects RJ0 yJ0_length_8abf5 yJ0_length_8abf5, Cond.initialized RJ0, Cond.code yJ0_length_8abf5 cJ0_length_8abf5 1 (some .int), Cond.fieldLink RJ0 9 "java/lang/String" "value" "[B", Cond.methodLink RJ0 335 yJ0_coder_7d493, Cond.instanceMethod yJ0_coder_7d493, Cond.selects RJ0 yJ0_coder_7d493 yJ0_coder_7d493, Cond.code yJ0_coder_7d493 cJ0_coder_7d493 1 (some .byte), Cond.fieldLink RJ0 38 "java/lang/String" "COMPACT_STRINGS" "Z", Cond.fieldLink RJ0 15 "java/lang/String" "coder" "B", Cond.methodLink RX4 24 yJ0_charAt_5068e, Cond.instanceMethod yJ0_charAt_5068e, Cond.selects RJ0 yJ0_charAt_5068e yJ0_charAt_5068e, Cond.code yJ0_charAt_5068e cJ0_charAt_5068e 2 (some .char), Cond.methodLink RJ0 492 yJ0_isLatin1_aae02, Cond.instanceMethod yJ0_isLatin1_aae02, Cond.selects RJ0 yJ0_isLatin1_aae02 yJ0_isLatin1_aae02, Cond.code yJ0_isLatin1_aae02 cJ0_isLatin1_aae02 1 (some .boolean), Cond.methodLink RJ0 495 yJ1_charAt_3b067, Cond.static yJ1_charAt_3b067, Cond.initialized RJ1, Cond.code yJ1_charAt_3b067 cJ1_charAt_3b067 2 (some .char)]
def wsX1_read_r3 : List Cond := [Cond.methodLink RJ1 9 yJ0_checkIndex_df160, Cond.static yJ0_checkIndex_df160, Cond.code yJ0_checkIndex_df160 cJ0_checkIndex_df160 2 none, Cond.fieldLink RJ0 1053 "jdk/internal/util/Preconditions" "SIOOBE_FORMATTER" "Ljava/util/function/BiFunction;", Cond.methodLink RJ0 1059 yJ3_checkIndex_8e157, Cond.static yJ3_checkIndex_8e157, Cond.initialized RJ3, Cond.code yJ3_checkIndex_8e157 cJ3_checkIndex_8e157 3 (some .int), Cond.methodLink RJ0 498 yJ2_charAt_3b067, Cond.static yJ2_charAt_3b067, Cond.initialized RJ2, Cond.code yJ2_charAt_3b067 cJ2_charAt_3b067 2 (some .char), Cond.methodLink RJ2 67 yJ2_checkIndex_2214a, Cond.static yJ2_checkIndex_2214a, Cond.code yJ2_checkIndex_2214a cJ2_checkIndex_2214a 2 none, Cond.methodLink RJ2 48 yJ2_length_9d52b, Cond.static yJ2_length_9d52b, Cond.code yJ2_length_9d52b cJ2_length_9d52b 1 (some .int), Cond.methodLink RJ2 414 yJ0_checkIndex_df160, Cond.methodLink RJ2 71 yJ2_getChar_3b067, Cond.static yJ2_getChar_3b067, Cond.code yJ2_getChar_3b067 cJ2_getChar_3b067 2 (some .char), Cond.fieldLink RJ2 44 "java/lang/StringUTF16" "$assertionsDisabled" "Z", Cond.fieldLink RJ2 59 "java/lang/StringUTF16" "HI_BYTE_SHIFT" "I"]
def wsX1_read_r4 : List Cond := [Cond.fieldLink RJ2 63 "java/lang/StringUTF16" "LO_BYTE_SHIFT" "I", Cond.methodLink RX1 31 yX1_takesLetter, Cond.instanceMethod yX1_takesLetter, Cond.selects RX1 yX1_takesLetter yX1_takesLetter, Cond.code yX1_takesLetter cX1_takesLetter 1 (some .boolean), Cond.static yX9_indexOfLetter, Cond.initialized RX9, Cond.code yX9_indexOfLetter cX9_indexOfLetter 1 (some .int), Cond.methodLink RX1 51 yX1_takesNumber, Cond.instanceMethod yX1_takesNumber, Cond.selects RX1 yX1_takesNumber yX1_takesNumber, Cond.code yX1_takesNumber cX1_takesNumber 1 (some .boolean), Cond.methodLink RX1 54 yX1_readNumber, Cond.static yX1_readNumber, Cond.code yX1_readNumber cX1_readNumber 6 (some .int)]
def wsX1_read : List Cond := .code yX1_read cX1_read 4 (some .int) :: ((wsX1_read_r1 ++ (wsX1_read_r2 ++ (wsX1_read_r3 ++ wsX1_read_r4))) ++ wsX10 ++ wsX40)
def wsX1_isDoneIn : List Cond := .code yX1_isDoneIn cX1_isDoneIn 2 (some .boolean) :: ([.fieldLink RX1 9 "LadderBench$Command" "action" "I", .fieldLink RX1 74 "LadderBench$State" "armValue" "[I", .fieldLink RX1 18 "LadderBench$Command" "letter" "I", .fieldLink RX1 15 "LadderBench$Command" "number" "I", .fieldLink RX1 80 "LadderBench$State" "armState" "[I", .fieldLink RX1 83 "LadderBench$State" "source" "I", .fieldLink RX1 85 "LadderBench$State" "meter" "I"] ++ wsX10 ++ wsX80)
def wsX8_unfoldEach : List Cond := .code yX8_unfoldEach cX8_unfoldEach 2 none :: ([.fieldLink RX8 12 "LadderBench$State" "network" "LLadderBench$Network;", .fieldLink RX8 56 "LadderBench$Network" "size" "I", .fieldLink RX8 32 "LadderBench$State" "isFolded" "[Z", .fieldLink RX8 59 "LadderBench$Network" "kind" "[I"] ++ wsX80 ++ wsX50)
def wsX8_setArm : List Cond := .code yX8_setArm cX8_setArm 4 none :: ([.fieldLink RX8 25 "LadderBench$State" "armValue" "[I", .fieldLink RX8 29 "LadderBench$State" "armState" "[I", .methodLink RX8 53 yX8_unfoldEach, .instanceMethod yX8_unfoldEach, .selects RX8 yX8_unfoldEach yX8_unfoldEach, .initialized RX8, .code yX8_unfoldEach cX8_unfoldEach 2 none, .fieldLink RX8 12 "LadderBench$State" "network" "LLadderBench$Network;", .fieldLink RX8 56 "LadderBench$Network" "size" "I", .fieldLink RX8 32 "LadderBench$State" "isFolded" "[Z", .fieldLink RX8 59 "LadderBench$Network" "kind" "[I"] ++ wsX80 ++ wsX50)
def wsX1_changeIn : List Cond := .code yX1_changeIn cX1_changeIn 2 none :: ([.fieldLink RX1 9 "LadderBench$Command" "action" "I", .fieldLink RX1 18 "LadderBench$Command" "letter" "I", .fieldLink RX1 15 "LadderBench$Command" "number" "I", .fieldLink RX1 80 "LadderBench$State" "armState" "[I", .fieldLink RX1 74 "LadderBench$State" "armValue" "[I", .fieldLink RX1 83 "LadderBench$State" "source" "I", .fieldLink RX1 85 "LadderBench$State" "meter" "I", .methodLink RX1 87 yX8_setArm, .instanceMethod yX8_setArm, .selects RX8 yX8_setArm yX8_setArm, .initialized RX8, .code yX8_setArm cX8_setArm 4 none, .fieldLink RX8 25 "LadderBench$State" "armValue" "[I", .fieldLink RX8 29 "LadderBench$State" "armState" "[I", .methodLink RX8 53 yX8_unfoldEach, .instanceMethod yX8_unfoldEach, .selects RX8 yX8_unfoldEach yX8_unfoldEach, .code yX8_unfoldEach cX8_unfoldEach 2 none, .fieldLink RX8 12 "LadderBench$State" "network" "LLadderBench$Network;", .fieldLink RX8 56 "LadderBench$Network" "size" "I", .fieldLink RX8 32 "LadderBench$State" "isFolded" "[Z", .fieldLink RX8 59 "LadderBench$Network" "kind" "[I"] ++ wsX10 ++ wsX80 ++ wsX50)
def wsX2_half : List Cond := .code yX2_half cX2_half 2 (some .long) :: ([.fieldLink RX2 9 "LadderBench$Fraction" "upper" "J", .fieldLink RX2 15 "LadderBench$Fraction" "lower" "J"] ++ wsX20)
def wsX5_init : List Cond := .code yX5_init cX5_init 2 none :: ([.methodLink RX5 3 objectInit, .instanceMethod objectInit, .code objectInit ⟨#[0xb1]⟩ 1 none, .arrayClass .int, .fieldLink RX5 9 "LadderBench$Network" "kind" "[I", .fieldLink RX5 15 "LadderBench$Network" "around" "[I", .fieldLink RX5 18 "LadderBench$Network" "letter" "[I", .fieldLink RX5 21 "LadderBench$Network" "partOfArm" "[I", .fieldLink RX5 24 "LadderBench$Network" "size" "I"] ++ wsX50)
def wsX7_init : List Cond := .code yX7_init cX7_init 1 none :: ([.methodLink RX7 3 objectInit, .instanceMethod objectInit, .code objectInit ⟨#[0xb1]⟩ 1 none, .arrayClass .long, .fieldLink RX7 9 "LadderBench$Notes" "upper" "[J", .fieldLink RX7 15 "LadderBench$Notes" "lower" "[J", .arrayClass .int, .fieldLink RX7 18 "LadderBench$Notes" "times" "[I", .fieldLink RX7 22 "LadderBench$Notes" "size" "I"] ++ wsX70)
def wsX8_init_r1 : List Cond := [Cond.methodLink RX8 3 objectInit, Cond.instanceMethod objectInit, Cond.code objectInit ⟨#[0xb1]⟩ 1 none, Cond.classLink RX8 9 RX5, Cond.instantiable RX5 5, Cond.initialized RX5, Cond.fieldLink RX8 12 "LadderBench$State" "network" "LLadderBench$Network;", Cond.classLink RX8 18 RX7, Cond.instantiable RX7 4, Cond.initialized RX7, Cond.fieldLink RX8 21 "LadderBench$State" "notes" "LLadderBench$Notes;", Cond.arrayClass .int, Cond.fieldLink RX8 25 "LadderBench$State" "armValue" "[I", Cond.fieldLink RX8 29 "LadderBench$State" "armState" "[I", Cond.arrayClass .boolean, Cond.fieldLink RX8 32 "LadderBench$State" "isFolded" "[Z", Cond.fieldLink RX8 36 "LadderBench$State" "source" "I", Cond.fieldLink RX8 40 "LadderBench$State" "meter" "I", Cond.fieldLink RX8 43 "LadderBench$State" "folds" "I", Cond.methodLink RX8 11 yX5_init, Cond.instanceMethod yX5_init, Cond.code yX5_init cX5_init 2 none, Cond.methodLink RX5 3 objectInit, Cond.fieldLink RX5 9 "LadderBench$Network" "kind" "[I"]
def wsX8_init_r2 : List Cond := [Cond.fieldLink RX5 15 "LadderBench$Network" "around" "[I", Cond.fieldLink RX5 18 "LadderBench$Network" "letter" "[I", Cond.fieldLink RX5 21 "LadderBench$Network" "partOfArm" "[I", Cond.fieldLink RX5 24 "LadderBench$Network" "size" "I", Cond.instanceMethod yX7_init, Cond.code yX7_init cX7_init 1 none, Cond.methodLink RX7 3 objectInit, Cond.arrayClass .long, Cond.fieldLink RX7 9 "LadderBench$Notes" "upper" "[J", Cond.fieldLink RX7 15 "LadderBench$Notes" "lower" "[J", Cond.fieldLink RX7 18 "LadderBench$Notes" "times" "[I", Cond.fieldLink RX7 22 "LadderBench$Notes" "size" "I"]
def wsX8_init : List Cond := .code yX8_init cX8_init 1 none :: ((wsX8_init_r1 ++ wsX8_init_r2) ++ wsX50 ++ wsX80 ++ wsX70)
def wsX3_init_r1 : List Cond := [Cond.methodLink RX3 3 objectInit, Cond.instanceMethod objectInit, Cond.code objectInit ⟨#[0xb1]⟩ 1 none, Cond.classLink RX3 9 RX8, Cond.fieldLink RX3 11 "LadderBench$History" "states" "[LLadderBench$State;", Cond.fieldLink RX3 17 "LadderBench$History" "oldest" "I", Cond.fieldLink RX3 21 "LadderBench$History" "size" "I", Cond.instantiable RX8 8, Cond.initialized RX8, Cond.instanceMethod yX8_init, Cond.code yX8_init cX8_init 1 none, Cond.methodLink RX8 3 objectInit, Cond.classLink RX8 9 RX5, Cond.instantiable RX5 5, Cond.initialized RX5, Cond.fieldLink RX8 12 "LadderBench$State" "network" "LLadderBench$Network;", Cond.classLink RX8 18 RX7, Cond.instantiable RX7 4, Cond.initialized RX7, Cond.fieldLink RX8 21 "LadderBench$State" "notes" "LLadderBench$Notes;", Cond.arrayClass .int, Cond.fieldLink RX8 25 "LadderBench$State" "armValue" "[I", Cond.fieldLink RX8 29 "LadderBench$State" "armState" "[I", Cond.arrayClass .boolean]
def wsX3_init_r2 : List Cond := [Cond.fieldLink RX8 32 "LadderBench$State" "isFolded" "[Z", Cond.fieldLink RX8 36 "LadderBench$State" "source" "I", Cond.fieldLink RX8 40 "LadderBench$State" "meter" "I", Cond.fieldLink RX8 43 "LadderBench$State" "folds" "I", Cond.methodLink RX8 11 yX5_init, Cond.instanceMethod yX5_init, Cond.code yX5_init cX5_init 2 none, Cond.methodLink RX5 3 objectInit, Cond.fieldLink RX5 9 "LadderBench$Network" "kind" "[I", Cond.fieldLink RX5 15 "LadderBench$Network" "around" "[I", Cond.fieldLink RX5 18 "LadderBench$Network" "letter" "[I", Cond.fieldLink RX5 21 "LadderBench$Network" "partOfArm" "[I", Cond.fieldLink RX5 24 "LadderBench$Network" "size" "I", Cond.instanceMethod yX7_init, Cond.code yX7_init cX7_init 1 none, Cond.methodLink RX7 3 objectInit, Cond.arrayClass .long, Cond.fieldLink RX7 9 "LadderBench$Notes" "upper" "[J", Cond.fieldLink RX7 15 "LadderBench$Notes" "lower" "[J", Cond.fieldLink RX7 18 "LadderBench$Notes" "times" "[I", Cond.fieldLink RX7 22 "LadderBench$Notes" "size" "I"]
def wsX3_init : List Cond := .code yX3_init cX3_init 2 none :: ((wsX3_init_r1 ++ wsX3_init_r2) ++ wsX30 ++ wsX80 ++ wsX50 ++ wsX70)
def wsX5_copy : List Cond := .code yX5_copy cX5_copy 3 none :: ([.fieldLink RX5 9 "LadderBench$Network" "kind" "[I", .fieldLink RX5 15 "LadderBench$Network" "around" "[I", .fieldLink RX5 18 "LadderBench$Network" "letter" "[I", .fieldLink RX5 21 "LadderBench$Network" "partOfArm" "[I", .fieldLink RX5 24 "LadderBench$Network" "size" "I"] ++ wsX50)
def wsX7_copy : List Cond := .code yX7_copy cX7_copy 3 none :: ([.fieldLink RX7 9 "LadderBench$Notes" "upper" "[J", .fieldLink RX7 15 "LadderBench$Notes" "lower" "[J", .fieldLink RX7 18 "LadderBench$Notes" "times" "[I", .fieldLink RX7 22 "LadderBench$Notes" "size" "I"] ++ wsX70)
def wsX8_copy_r1 : List Cond := [Cond.fieldLink RX8 12 "LadderBench$State" "network" "LLadderBench$Network;", Cond.fieldLink RX8 21 "LadderBench$State" "notes" "LLadderBench$Notes;", Cond.fieldLink RX8 25 "LadderBench$State" "armValue" "[I", Cond.fieldLink RX8 29 "LadderBench$State" "armState" "[I", Cond.fieldLink RX8 32 "LadderBench$State" "isFolded" "[Z", Cond.fieldLink RX8 36 "LadderBench$State" "source" "I", Cond.fieldLink RX8 40 "LadderBench$State" "meter" "I", Cond.fieldLink RX8 43 "LadderBench$State" "folds" "I", Cond.methodLink RX8 46 yX5_copy, Cond.instanceMethod yX5_copy, Cond.selects RX5 yX5_copy yX5_copy, Cond.initialized RX5, Cond.code yX5_copy cX5_copy 3 none, Cond.fieldLink RX5 9 "LadderBench$Network" "kind" "[I", Cond.fieldLink RX5 15 "LadderBench$Network" "around" "[I", Cond.fieldLink RX5 18 "LadderBench$Network" "letter" "[I", Cond.fieldLink RX5 21 "LadderBench$Network" "partOfArm" "[I", Cond.fieldLink RX5 24 "LadderBench$Network" "size" "I", Cond.methodLink RX8 50 yX7_copy, Cond.instanceMethod yX7_copy, Cond.selects RX7 yX7_copy yX7_copy, Cond.initialized RX7, Cond.code yX7_copy cX7_copy 3 none, Cond.fieldLink RX7 9 "LadderBench$Notes" "upper" "[J"]
def wsX8_copy_r2 : List Cond := [Cond.fieldLink RX7 15 "LadderBench$Notes" "lower" "[J", Cond.fieldLink RX7 18 "LadderBench$Notes" "times" "[I", Cond.fieldLink RX7 22 "LadderBench$Notes" "size" "I"]
def wsX8_copy : List Cond := .code yX8_copy cX8_copy 3 none :: ((wsX8_copy_r1 ++ wsX8_copy_r2) ++ wsX80 ++ wsX50 ++ wsX70)
def wsX3_record_r1 : List Cond := [Cond.fieldLink RX3 21 "LadderBench$History" "size" "I", Cond.fieldLink RX3 17 "LadderBench$History" "oldest" "I", Cond.fieldLink RX3 11 "LadderBench$History" "states" "[LLadderBench$State;", Cond.methodLink RX3 25 yX8_copy, Cond.instanceMethod yX8_copy, Cond.selects RX8 yX8_copy yX8_copy, Cond.initialized RX8, Cond.code yX8_copy cX8_copy 3 none, Cond.fieldLink RX8 12 "LadderBench$State" "network" "LLadderBench$Network;", Cond.fieldLink RX8 21 "LadderBench$State" "notes" "LLadderBench$Notes;", Cond.fieldLink RX8 25 "LadderBench$State" "armValue" "[I", Cond.fieldLink RX8 29 "LadderBench$State" "armState" "[I", Cond.fieldLink RX8 32 "LadderBench$State" "isFolded" "[Z", Cond.fieldLink RX8 36 "LadderBench$State" "source" "I", Cond.fieldLink RX8 40 "LadderBench$State" "meter" "I", Cond.fieldLink RX8 43 "LadderBench$State" "folds" "I", Cond.methodLink RX8 46 yX5_copy, Cond.instanceMethod yX5_copy, Cond.selects RX5 yX5_copy yX5_copy, Cond.initialized RX5, Cond.code yX5_copy cX5_copy 3 none, Cond.fieldLink RX5 9 "LadderBench$Network" "kind" "[I", Cond.fieldLink RX5 15 "LadderBench$Network" "around" "[I", Cond.fieldLink RX5 18 "LadderBench$Network" "letter" "[I"]
def wsX3_record_r2 : List Cond := [Cond.fieldLink RX5 21 "LadderBench$Network" "partOfArm" "[I", Cond.fieldLink RX5 24 "LadderBench$Network" "size" "I", Cond.methodLink RX8 50 yX7_copy, Cond.instanceMethod yX7_copy, Cond.selects RX7 yX7_copy yX7_copy, Cond.initialized RX7, Cond.code yX7_copy cX7_copy 3 none, Cond.fieldLink RX7 9 "LadderBench$Notes" "upper" "[J", Cond.fieldLink RX7 15 "LadderBench$Notes" "lower" "[J", Cond.fieldLink RX7 18 "LadderBench$Notes" "times" "[I", Cond.fieldLink RX7 22 "LadderBench$Notes" "size" "I"]
def wsX3_record : List Cond := .code yX3_record cX3_record 2 none :: ((wsX3_record_r1 ++ wsX3_record_r2) ++ wsX30 ++ wsX80 ++ wsX50 ++ wsX70)
def wsX3_giveBack_r1 : List Cond := [Cond.fieldLink RX3 21 "LadderBench$History" "size" "I", Cond.fieldLink RX3 11 "LadderBench$History" "states" "[LLadderBench$State;", Cond.fieldLink RX3 17 "LadderBench$History" "oldest" "I", Cond.methodLink RX3 25 yX8_copy, Cond.instanceMethod yX8_copy, Cond.selects RX8 yX8_copy yX8_copy, Cond.initialized RX8, Cond.code yX8_copy cX8_copy 3 none, Cond.fieldLink RX8 12 "LadderBench$State" "network" "LLadderBench$Network;", Cond.fieldLink RX8 21 "LadderBench$State" "notes" "LLadderBench$Notes;", Cond.fieldLink RX8 25 "LadderBench$State" "armValue" "[I", Cond.fieldLink RX8 29 "LadderBench$State" "armState" "[I", Cond.fieldLink RX8 32 "LadderBench$State" "isFolded" "[Z", Cond.fieldLink RX8 36 "LadderBench$State" "source" "I", Cond.fieldLink RX8 40 "LadderBench$State" "meter" "I", Cond.fieldLink RX8 43 "LadderBench$State" "folds" "I", Cond.methodLink RX8 46 yX5_copy, Cond.instanceMethod yX5_copy, Cond.selects RX5 yX5_copy yX5_copy, Cond.initialized RX5, Cond.code yX5_copy cX5_copy 3 none, Cond.fieldLink RX5 9 "LadderBench$Network" "kind" "[I", Cond.fieldLink RX5 15 "LadderBench$Network" "around" "[I", Cond.fieldLink RX5 18 "LadderBench$Network" "letter" "[I"]
def wsX3_giveBack_r2 : List Cond := [Cond.fieldLink RX5 21 "LadderBench$Network" "partOfArm" "[I", Cond.fieldLink RX5 24 "LadderBench$Network" "size" "I", Cond.methodLink RX8 50 yX7_copy, Cond.instanceMethod yX7_copy, Cond.selects RX7 yX7_copy yX7_copy, Cond.initialized RX7, Cond.code yX7_copy cX7_copy 3 none, Cond.fieldLink RX7 9 "LadderBench$Notes" "upper" "[J", Cond.fieldLink RX7 15 "LadderBench$Notes" "lower" "[J", Cond.fieldLink RX7 18 "LadderBench$Notes" "times" "[I", Cond.fieldLink RX7 22 "LadderBench$Notes" "size" "I"]
def wsX3_giveBack : List Cond := .code yX3_giveBack cX3_giveBack 2 none :: ((wsX3_giveBack_r1 ++ wsX3_giveBack_r2) ++ wsX30 ++ wsX80 ++ wsX50 ++ wsX70)
def wsX4_init : List Cond := .code yX4_init cX4_init 1 none :: ([.methodLink RX4 3 objectInit, .instanceMethod objectInit, .code objectInit ⟨#[0xb1]⟩ 1 none, .arrayClass .char, .fieldLink RX4 9 "LadderBench$Line" "characters" "[C", .fieldLink RX4 15 "LadderBench$Line" "length" "I"] ++ wsX40)
def wsX4_append : List Cond := .code yX4_append cX4_append 2 none :: ([.fieldLink RX4 15 "LadderBench$Line" "length" "I", .fieldLink RX4 9 "LadderBench$Line" "characters" "[C"] ++ wsX40)
def wsX5_clear : List Cond := .code yX5_clear cX5_clear 2 none :: ([.fieldLink RX5 24 "LadderBench$Network" "size" "I", .fieldLink RX5 21 "LadderBench$Network" "partOfArm" "[I"] ++ wsX50)
def wsX5_addPart : List Cond := .code yX5_addPart cX5_addPart 2 (some .int) :: ([.fieldLink RX5 24 "LadderBench$Network" "size" "I", .fieldLink RX5 9 "LadderBench$Network" "kind" "[I", .fieldLink RX5 15 "LadderBench$Network" "around" "[I", .fieldLink RX5 18 "LadderBench$Network" "letter" "[I"] ++ wsX50)
def wsX5_addArm : List Cond := .code yX5_addArm cX5_addArm 3 (some .int) :: ([.fieldLink RX5 21 "LadderBench$Network" "partOfArm" "[I", .fieldLink RX5 24 "LadderBench$Network" "size" "I", .fieldLink RX5 18 "LadderBench$Network" "letter" "[I", .methodLink RX5 28 yX5_addPart, .instanceMethod yX5_addPart, .selects RX5 yX5_addPart yX5_addPart, .initialized RX5, .code yX5_addPart cX5_addPart 2 (some .int), .fieldLink RX5 9 "LadderBench$Network" "kind" "[I", .fieldLink RX5 15 "LadderBench$Network" "around" "[I"] ++ wsX50)
def wsJ6_bitCount_0f7a4 : List Cond := .code yJ6_bitCount_0f7a4 cJ6_bitCount_0f7a4 1 (some .int) :: ([.constant RJ6 265 (1431655765), .constant RJ6 266 (858993459), .constant RJ6 267 (252645135)])
def wsX5_join : List Cond := .code yX5_join cX5_join 5 (some .int) :: ([.fieldLink RX5 24 "LadderBench$Network" "size" "I", .fieldLink RX5 15 "LadderBench$Network" "around" "[I", .methodLink RX5 32 yJ6_bitCount_0f7a4, .static yJ6_bitCount_0f7a4, .initialized RJ6, .code yJ6_bitCount_0f7a4 cJ6_bitCount_0f7a4 1 (some .int), .constant RJ6 265 (1431655765), .constant RJ6 266 (858993459), .constant RJ6 267 (252645135), .methodLink RX5 28 yX5_addPart, .instanceMethod yX5_addPart, .selects RX5 yX5_addPart yX5_addPart, .initialized RX5, .code yX5_addPart cX5_addPart 2 (some .int), .fieldLink RX5 9 "LadderBench$Network" "kind" "[I", .fieldLink RX5 18 "LadderBench$Network" "letter" "[I"] ++ wsX50)
def wsX5_hasArm : List Cond := .code yX5_hasArm cX5_hasArm 2 (some .boolean) :: ([.fieldLink RX5 21 "LadderBench$Network" "partOfArm" "[I"] ++ wsX50)
def wsX5_countParts : List Cond := .code yX5_countParts cX5_countParts 4 (some .int) :: ([.fieldLink RX5 15 "LadderBench$Network" "around" "[I"] ++ wsX50)
def wsX5_findFirst : List Cond := .code yX5_findFirst cX5_findFirst 3 (some .int) :: ([.fieldLink RX5 15 "LadderBench$Network" "around" "[I"] ++ wsX50)
def wsX5_countKind : List Cond := .code yX5_countKind cX5_countKind 4 (some .int) :: ([.fieldLink RX5 24 "LadderBench$Network" "size" "I", .fieldLink RX5 9 "LadderBench$Network" "kind" "[I"] ++ wsX50)
def wsX5_countArms : List Cond := .code yX5_countArms cX5_countArms 4 (some .int) :: ([.fieldLink RX5 21 "LadderBench$Network" "partOfArm" "[I", .methodLink RX5 41 yX5_hasArm, .instanceMethod yX5_hasArm, .selects RX5 yX5_hasArm yX5_hasArm, .initialized RX5, .code yX5_hasArm cX5_hasArm 2 (some .boolean), .methodLink RX5 44 yX5_findWayUp, .instanceMethod yX5_findWayUp, .selects RX5 yX5_findWayUp yX5_findWayUp, .code yX5_findWayUp cX5_findWayUp 5 (some .int), .fieldLink RX5 15 "LadderBench$Network" "around" "[I", .methodLink RX5 37 yX5_hasPart, .instanceMethod yX5_hasPart, .selects RX5 yX5_hasPart yX5_hasPart, .code yX5_hasPart cX5_hasPart 2 (some .boolean), .fieldLink RX5 24 "LadderBench$Network" "size" "I"] ++ wsX50)
def wsX6_init : List Cond := .code yX6_init cX6_init 1 none :: ([.methodLink RX6 3 objectInit, .instanceMethod objectInit, .code objectInit ⟨#[0xb1]⟩ 1 none, .arrayClass .int, .fieldLink RX6 9 "LadderBench$NetworkReader" "pieces" "[I", .fieldLink RX6 15 "LadderBench$NetworkReader" "links" "[I", .fieldLink RX6 18 "LadderBench$NetworkReader" "depth" "I"] ++ wsX60)
def wsX6_findFault : List Cond := .code yX6_findFault cX6_findFault 8 (some .int) :: ([.fieldLink RX6 22 "LadderBench$Line" "length" "I", .fieldLink RX6 27 "LadderBench$Line" "characters" "[C", .static yX9_indexOfLetter, .initialized RX9, .code yX9_indexOfLetter cX9_indexOfLetter 1 (some .int)] ++ wsX40)
def wsX6_clearDepth : List Cond := .code yX6_clearDepth cX6_clearDepth 1 none :: ([.fieldLink RX6 9 "LadderBench$NetworkReader" "pieces" "[I", .fieldLink RX6 18 "LadderBench$NetworkReader" "depth" "I", .fieldLink RX6 15 "LadderBench$NetworkReader" "links" "[I"] ++ wsX60)
def wsX6_endLink : List Cond := .code yX6_endLink cX6_endLink 2 none :: ([.fieldLink RX6 15 "LadderBench$NetworkReader" "links" "[I", .fieldLink RX6 18 "LadderBench$NetworkReader" "depth" "I", .fieldLink RX6 9 "LadderBench$NetworkReader" "pieces" "[I", .methodLink RX6 58 yX5_join, .instanceMethod yX5_join, .selects RX5 yX5_join yX5_join, .initialized RX5, .code yX5_join cX5_join 5 (some .int), .fieldLink RX5 24 "LadderBench$Network" "size" "I", .fieldLink RX5 15 "LadderBench$Network" "around" "[I", .methodLink RX5 32 yJ6_bitCount_0f7a4, .static yJ6_bitCount_0f7a4, .initialized RJ6, .code yJ6_bitCount_0f7a4 cJ6_bitCount_0f7a4 1 (some .int), .constant RJ6 265 (1431655765), .constant RJ6 266 (858993459), .constant RJ6 267 (252645135), .methodLink RX5 28 yX5_addPart, .instanceMethod yX5_addPart, .selects RX5 yX5_addPart yX5_addPart, .code yX5_addPart cX5_addPart 2 (some .int), .fieldLink RX5 9 "LadderBench$Network" "kind" "[I", .fieldLink RX5 18 "LadderBench$Network" "letter" "[I"] ++ wsX60 ++ wsX50)
def wsX6_endChain_r1 : List Cond := [Cond.fieldLink RX6 15 "LadderBench$NetworkReader" "links" "[I", Cond.fieldLink RX6 18 "LadderBench$NetworkReader" "depth" "I", Cond.methodLink RX6 51 yX6_endLink, Cond.instanceMethod yX6_endLink, Cond.selects RX6 yX6_endLink yX6_endLink, Cond.initialized RX6, Cond.code yX6_endLink cX6_endLink 2 none, Cond.fieldLink RX6 9 "LadderBench$NetworkReader" "pieces" "[I", Cond.methodLink RX6 58 yX5_join, Cond.instanceMethod yX5_join, Cond.selects RX5 yX5_join yX5_join, Cond.initialized RX5, Cond.code yX5_join cX5_join 5 (some .int), Cond.fieldLink RX5 24 "LadderBench$Network" "size" "I", Cond.fieldLink RX5 15 "LadderBench$Network" "around" "[I", Cond.methodLink RX5 32 yJ6_bitCount_0f7a4, Cond.static yJ6_bitCount_0f7a4, Cond.initialized RJ6, Cond.code yJ6_bitCount_0f7a4 cJ6_bitCount_0f7a4 1 (some .int), Cond.constant RJ6 265 (1431655765), Cond.constant RJ6 266 (858993459), Cond.constant RJ6 267 (252645135), Cond.methodLink RX5 28 yX5_addPart, Cond.instanceMethod yX5_addPart]
def wsX6_endChain_r2 : List Cond := [Cond.selects RX5 yX5_addPart yX5_addPart, Cond.code yX5_addPart cX5_addPart 2 (some .int), Cond.fieldLink RX5 9 "LadderBench$Network" "kind" "[I", Cond.fieldLink RX5 18 "LadderBench$Network" "letter" "[I"]
def wsX6_endChain : List Cond := .code yX6_endChain cX6_endChain 2 (some .int) :: ((wsX6_endChain_r1 ++ wsX6_endChain_r2) ++ wsX60 ++ wsX50)
def wsX6_take_r1 : List Cond := [Cond.fieldLink RX6 18 "LadderBench$NetworkReader" "depth" "I", Cond.fieldLink RX6 9 "LadderBench$NetworkReader" "pieces" "[I", Cond.methodLink RX6 40 yX6_clearDepth, Cond.instanceMethod yX6_clearDepth, Cond.selects RX6 yX6_clearDepth yX6_clearDepth, Cond.initialized RX6, Cond.code yX6_clearDepth cX6_clearDepth 1 none, Cond.fieldLink RX6 15 "LadderBench$NetworkReader" "links" "[I", Cond.methodLink RX6 47 yX6_endChain, Cond.instanceMethod yX6_endChain, Cond.selects RX6 yX6_endChain yX6_endChain, Cond.code yX6_endChain cX6_endChain 2 (some .int), Cond.methodLink RX6 51 yX6_endLink, Cond.instanceMethod yX6_endLink, Cond.selects RX6 yX6_endLink yX6_endLink, Cond.code yX6_endLink cX6_endLink 2 none, Cond.methodLink RX6 58 yX5_join, Cond.instanceMethod yX5_join, Cond.selects RX5 yX5_join yX5_join, Cond.initialized RX5, Cond.code yX5_join cX5_join 5 (some .int), Cond.fieldLink RX5 24 "LadderBench$Network" "size" "I", Cond.fieldLink RX5 15 "LadderBench$Network" "around" "[I", Cond.methodLink RX5 32 yJ6_bitCount_0f7a4]
def wsX6_take_r2 : List Cond := [Cond.static yJ6_bitCount_0f7a4, Cond.initialized RJ6, Cond.code yJ6_bitCount_0f7a4 cJ6_bitCount_0f7a4 1 (some .int), Cond.constant RJ6 265 (1431655765), Cond.constant RJ6 266 (858993459), Cond.constant RJ6 267 (252645135), Cond.methodLink RX5 28 yX5_addPart, Cond.instanceMethod yX5_addPart, Cond.selects RX5 yX5_addPart yX5_addPart, Cond.code yX5_addPart cX5_addPart 2 (some .int), Cond.fieldLink RX5 9 "LadderBench$Network" "kind" "[I", Cond.fieldLink RX5 18 "LadderBench$Network" "letter" "[I", Cond.static yX9_indexOfLetter, Cond.initialized RX9, Cond.code yX9_indexOfLetter cX9_indexOfLetter 1 (some .int), Cond.methodLink RX6 55 yX5_addArm, Cond.instanceMethod yX5_addArm, Cond.selects RX5 yX5_addArm yX5_addArm, Cond.code yX5_addArm cX5_addArm 3 (some .int), Cond.fieldLink RX5 21 "LadderBench$Network" "partOfArm" "[I"]
def wsX6_take : List Cond := .code yX6_take cX6_take 4 none :: ((wsX6_take_r1 ++ wsX6_take_r2) ++ wsX60 ++ wsX50)
def wsX6_build_r1 : List Cond := [Cond.fieldLink RX6 18 "LadderBench$NetworkReader" "depth" "I", Cond.fieldLink RX6 22 "LadderBench$Line" "length" "I", Cond.fieldLink RX6 27 "LadderBench$Line" "characters" "[C", Cond.methodLink RX6 35 yX5_clear, Cond.instanceMethod yX5_clear, Cond.selects RX5 yX5_clear yX5_clear, Cond.initialized RX5, Cond.code yX5_clear cX5_clear 2 none, Cond.fieldLink RX5 24 "LadderBench$Network" "size" "I", Cond.fieldLink RX5 21 "LadderBench$Network" "partOfArm" "[I", Cond.methodLink RX6 40 yX6_clearDepth, Cond.instanceMethod yX6_clearDepth, Cond.selects RX6 yX6_clearDepth yX6_clearDepth, Cond.initialized RX6, Cond.code yX6_clearDepth cX6_clearDepth 1 none, Cond.fieldLink RX6 9 "LadderBench$NetworkReader" "pieces" "[I", Cond.fieldLink RX6 15 "LadderBench$NetworkReader" "links" "[I", Cond.methodLink RX6 43 yX6_take, Cond.instanceMethod yX6_take, Cond.selects RX6 yX6_take yX6_take, Cond.code yX6_take cX6_take 4 none, Cond.methodLink RX6 47 yX6_endChain, Cond.instanceMethod yX6_endChain, Cond.selects RX6 yX6_endChain yX6_endChain]
def wsX6_build_r2 : List Cond := [Cond.code yX6_endChain cX6_endChain 2 (some .int), Cond.methodLink RX6 51 yX6_endLink, Cond.instanceMethod yX6_endLink, Cond.selects RX6 yX6_endLink yX6_endLink, Cond.code yX6_endLink cX6_endLink 2 none, Cond.methodLink RX6 58 yX5_join, Cond.instanceMethod yX5_join, Cond.selects RX5 yX5_join yX5_join, Cond.code yX5_join cX5_join 5 (some .int), Cond.fieldLink RX5 15 "LadderBench$Network" "around" "[I", Cond.methodLink RX5 32 yJ6_bitCount_0f7a4, Cond.static yJ6_bitCount_0f7a4, Cond.initialized RJ6, Cond.code yJ6_bitCount_0f7a4 cJ6_bitCount_0f7a4 1 (some .int), Cond.constant RJ6 265 (1431655765), Cond.constant RJ6 266 (858993459), Cond.constant RJ6 267 (252645135), Cond.methodLink RX5 28 yX5_addPart, Cond.instanceMethod yX5_addPart, Cond.selects RX5 yX5_addPart yX5_addPart, Cond.code yX5_addPart cX5_addPart 2 (some .int), Cond.fieldLink RX5 9 "LadderBench$Network" "kind" "[I", Cond.fieldLink RX5 18 "LadderBench$Network" "letter" "[I", Cond.static yX9_indexOfLetter]
def wsX6_build_r3 : List Cond := [Cond.initialized RX9, Cond.code yX9_indexOfLetter cX9_indexOfLetter 1 (some .int), Cond.methodLink RX6 55 yX5_addArm, Cond.instanceMethod yX5_addArm, Cond.selects RX5 yX5_addArm yX5_addArm, Cond.code yX5_addArm cX5_addArm 3 (some .int)]
def wsX6_build : List Cond := .code yX6_build cX6_build 4 none :: ((wsX6_build_r1 ++ (wsX6_build_r2 ++ wsX6_build_r3)) ++ wsX60 ++ wsX40 ++ wsX50)
def wsX7_find : List Cond := .code yX7_find cX7_find 3 (some .int) :: ([.fieldLink RX7 22 "LadderBench$Notes" "size" "I", .fieldLink RX7 9 "LadderBench$Notes" "upper" "[J", .fieldLink RX7 26 "LadderBench$Fraction" "upper" "J", .fieldLink RX7 15 "LadderBench$Notes" "lower" "[J", .fieldLink RX7 31 "LadderBench$Fraction" "lower" "J"] ++ wsX70 ++ wsX20)
def wsX7_put : List Cond := .code yX7_put cX7_put 4 (some .int) :: ([.fieldLink RX7 22 "LadderBench$Notes" "size" "I", .fieldLink RX7 9 "LadderBench$Notes" "upper" "[J", .fieldLink RX7 26 "LadderBench$Fraction" "upper" "J", .fieldLink RX7 15 "LadderBench$Notes" "lower" "[J", .fieldLink RX7 31 "LadderBench$Fraction" "lower" "J", .fieldLink RX7 18 "LadderBench$Notes" "times" "[I"] ++ wsX70 ++ wsX20)
def wsX7_countTimes : List Cond := .code yX7_countTimes cX7_countTimes 3 (some .int) :: ([.fieldLink RX7 22 "LadderBench$Notes" "size" "I", .fieldLink RX7 18 "LadderBench$Notes" "times" "[I"] ++ wsX70)
def wsX8_resetArms : List Cond := .code yX8_resetArms cX8_resetArms 2 none :: ([.fieldLink RX8 25 "LadderBench$State" "armValue" "[I", .fieldLink RX8 29 "LadderBench$State" "armState" "[I", .methodLink RX8 53 yX8_unfoldEach, .instanceMethod yX8_unfoldEach, .selects RX8 yX8_unfoldEach yX8_unfoldEach, .initialized RX8, .code yX8_unfoldEach cX8_unfoldEach 2 none, .fieldLink RX8 12 "LadderBench$State" "network" "LLadderBench$Network;", .fieldLink RX8 56 "LadderBench$Network" "size" "I", .fieldLink RX8 32 "LadderBench$State" "isFolded" "[Z", .fieldLink RX8 59 "LadderBench$Network" "kind" "[I"] ++ wsX80 ++ wsX50)
def wsX8_foldOne : List Cond := .code yX8_foldOne cX8_foldOne 2 none :: ([.fieldLink RX8 32 "LadderBench$State" "isFolded" "[Z", .fieldLink RX8 43 "LadderBench$State" "folds" "I"] ++ wsX80)
def wsX8_unfoldFrom : List Cond := .code yX8_unfoldFrom cX8_unfoldFrom 5 (some .int) :: ([.fieldLink RX8 12 "LadderBench$State" "network" "LLadderBench$Network;", .fieldLink RX8 56 "LadderBench$Network" "size" "I", .fieldLink RX8 32 "LadderBench$State" "isFolded" "[Z", .methodLink RX8 62 yX5_findWayUp, .instanceMethod yX5_findWayUp, .selects RX5 yX5_findWayUp yX5_findWayUp, .initialized RX5, .code yX5_findWayUp cX5_findWayUp 5 (some .int), .fieldLink RX5 15 "LadderBench$Network" "around" "[I", .methodLink RX5 37 yX5_hasPart, .instanceMethod yX5_hasPart, .selects RX5 yX5_hasPart yX5_hasPart, .code yX5_hasPart cX5_hasPart 2 (some .boolean), .fieldLink RX5 24 "LadderBench$Network" "size" "I"] ++ wsX80 ++ wsX50)
def wsX8_hasFoldedParts : List Cond := .code yX8_hasFoldedParts cX8_hasFoldedParts 3 (some .boolean) :: ([.fieldLink RX8 12 "LadderBench$State" "network" "LLadderBench$Network;", .fieldLink RX8 66 "LadderBench$Network" "around" "[I", .fieldLink RX8 32 "LadderBench$State" "isFolded" "[Z"] ++ wsX80 ++ wsX50)
def wsX8_isFoldable : List Cond := .code yX8_isFoldable cX8_isFoldable 2 (some .boolean) :: ([.fieldLink RX8 32 "LadderBench$State" "isFolded" "[Z", .methodLink RX8 69 yX8_hasFoldedParts, .instanceMethod yX8_hasFoldedParts, .selects RX8 yX8_hasFoldedParts yX8_hasFoldedParts, .initialized RX8, .code yX8_hasFoldedParts cX8_hasFoldedParts 3 (some .boolean), .fieldLink RX8 12 "LadderBench$State" "network" "LLadderBench$Network;", .fieldLink RX8 66 "LadderBench$Network" "around" "[I"] ++ wsX80 ++ wsX50)
def wsX8_findFoldable : List Cond := .code yX8_findFoldable cX8_findFoldable 4 (some .int) :: ([.fieldLink RX8 12 "LadderBench$State" "network" "LLadderBench$Network;", .fieldLink RX8 56 "LadderBench$Network" "size" "I", .methodLink RX8 73 yX8_isFoldable, .instanceMethod yX8_isFoldable, .selects RX8 yX8_isFoldable yX8_isFoldable, .initialized RX8, .code yX8_isFoldable cX8_isFoldable 2 (some .boolean), .fieldLink RX8 32 "LadderBench$State" "isFolded" "[Z", .methodLink RX8 69 yX8_hasFoldedParts, .instanceMethod yX8_hasFoldedParts, .selects RX8 yX8_hasFoldedParts yX8_hasFoldedParts, .code yX8_hasFoldedParts cX8_hasFoldedParts 3 (some .boolean), .fieldLink RX8 66 "LadderBench$Network" "around" "[I"] ++ wsX80 ++ wsX50)
def wsX8_countUnfolded : List Cond := .code yX8_countUnfolded cX8_countUnfolded 3 (some .int) :: ([.fieldLink RX8 12 "LadderBench$State" "network" "LLadderBench$Network;", .fieldLink RX8 56 "LadderBench$Network" "size" "I", .fieldLink RX8 32 "LadderBench$State" "isFolded" "[Z"] ++ wsX80 ++ wsX50)
def wsX8_countNotSound : List Cond := .code yX8_countNotSound cX8_countNotSound 3 (some .int) :: ([.fieldLink RX8 12 "LadderBench$State" "network" "LLadderBench$Network;", .fieldLink RX8 29 "LadderBench$State" "armState" "[I", .methodLink RX8 76 yX5_hasArm, .instanceMethod yX5_hasArm, .selects RX5 yX5_hasArm yX5_hasArm, .initialized RX5, .code yX5_hasArm cX5_hasArm 2 (some .boolean), .fieldLink RX5 21 "LadderBench$Network" "partOfArm" "[I"] ++ wsX80 ++ wsX50)
def wsX9_init_r1 : List Cond := [Cond.methodLink RX9 1 objectInit, Cond.instanceMethod objectInit, Cond.code objectInit ⟨#[0xb1]⟩ 1 none, Cond.classLink RX9 7 RX4, Cond.instantiable RX4 2, Cond.initialized RX4, Cond.fieldLink RX9 10 "LadderBench" "text" "LLadderBench$Line;", Cond.classLink RX9 16 RX8, Cond.instantiable RX8 8, Cond.initialized RX8, Cond.fieldLink RX9 19 "LadderBench" "now" "LLadderBench$State;", Cond.fieldLink RX9 23 "LadderBench" "snapshot" "LLadderBench$State;", Cond.fieldLink RX9 26 "LadderBench" "trial" "LLadderBench$State;", Cond.classLink RX9 29 RX3, Cond.instantiable RX3 3, Cond.initialized RX3, Cond.fieldLink RX9 32 "LadderBench" "history" "LLadderBench$History;", Cond.classLink RX9 36 RX6, Cond.instantiable RX6 3, Cond.initialized RX6, Cond.fieldLink RX9 39 "LadderBench" "reader" "LLadderBench$NetworkReader;", Cond.classLink RX9 43 RX1, Cond.instantiable RX1 3, Cond.initialized RX1]
def wsX9_init_r2 : List Cond := [Cond.fieldLink RX9 46 "LadderBench" "command" "LLadderBench$Command;", Cond.classLink RX9 50 RX0, Cond.instantiable RX0 5, Cond.initialized RX0, Cond.fieldLink RX9 53 "LadderBench" "circuit" "LLadderBench$Circuit;", Cond.classLink RX9 57 RX2, Cond.instantiable RX2 2, Cond.initialized RX2, Cond.fieldLink RX9 60 "LadderBench" "wanted" "LLadderBench$Fraction;", Cond.fieldLink RX9 64 "LadderBench" "hasSnapshot" "Z", Cond.instanceMethod yX4_init, Cond.code yX4_init cX4_init 1 none, Cond.methodLink RX4 3 objectInit, Cond.arrayClass .char, Cond.fieldLink RX4 9 "LadderBench$Line" "characters" "[C", Cond.fieldLink RX4 15 "LadderBench$Line" "length" "I", Cond.instanceMethod yX8_init, Cond.code yX8_init cX8_init 1 none, Cond.methodLink RX8 3 objectInit, Cond.classLink RX8 9 RX5, Cond.instantiable RX5 5, Cond.initialized RX5, Cond.fieldLink RX8 12 "LadderBench$State" "network" "LLadderBench$Network;", Cond.classLink RX8 18 RX7]
def wsX9_init_r3 : List Cond := [Cond.instantiable RX7 4, Cond.initialized RX7, Cond.fieldLink RX8 21 "LadderBench$State" "notes" "LLadderBench$Notes;", Cond.arrayClass .int, Cond.fieldLink RX8 25 "LadderBench$State" "armValue" "[I", Cond.fieldLink RX8 29 "LadderBench$State" "armState" "[I", Cond.arrayClass .boolean, Cond.fieldLink RX8 32 "LadderBench$State" "isFolded" "[Z", Cond.fieldLink RX8 36 "LadderBench$State" "source" "I", Cond.fieldLink RX8 40 "LadderBench$State" "meter" "I", Cond.fieldLink RX8 43 "LadderBench$State" "folds" "I", Cond.methodLink RX8 11 yX5_init, Cond.instanceMethod yX5_init, Cond.code yX5_init cX5_init 2 none, Cond.methodLink RX5 3 objectInit, Cond.fieldLink RX5 9 "LadderBench$Network" "kind" "[I", Cond.fieldLink RX5 15 "LadderBench$Network" "around" "[I", Cond.fieldLink RX5 18 "LadderBench$Network" "letter" "[I", Cond.fieldLink RX5 21 "LadderBench$Network" "partOfArm" "[I", Cond.fieldLink RX5 24 "LadderBench$Network" "size" "I", Cond.instanceMethod yX7_init, Cond.code yX7_init cX7_init 1 none, Cond.methodLink RX7 3 objectInit, Cond.arrayClass .long]
def wsX9_init_r4 : List Cond := [Cond.fieldLink RX7 9 "LadderBench$Notes" "upper" "[J", Cond.fieldLink RX7 15 "LadderBench$Notes" "lower" "[J", Cond.fieldLink RX7 18 "LadderBench$Notes" "times" "[I", Cond.fieldLink RX7 22 "LadderBench$Notes" "size" "I", Cond.methodLink RX9 31 yX3_init, Cond.instanceMethod yX3_init, Cond.code yX3_init cX3_init 2 none, Cond.methodLink RX3 3 objectInit, Cond.classLink RX3 9 RX8, Cond.fieldLink RX3 11 "LadderBench$History" "states" "[LLadderBench$State;", Cond.fieldLink RX3 17 "LadderBench$History" "oldest" "I", Cond.fieldLink RX3 21 "LadderBench$History" "size" "I", Cond.instanceMethod yX6_init, Cond.code yX6_init cX6_init 1 none, Cond.methodLink RX6 3 objectInit, Cond.fieldLink RX6 9 "LadderBench$NetworkReader" "pieces" "[I", Cond.fieldLink RX6 15 "LadderBench$NetworkReader" "links" "[I", Cond.fieldLink RX6 18 "LadderBench$NetworkReader" "depth" "I", Cond.instanceMethod yX1_init, Cond.code yX1_init cX1_init 1 none, Cond.methodLink RX1 3 objectInit, Cond.fieldLink RX1 9 "LadderBench$Command" "action" "I", Cond.fieldLink RX1 15 "LadderBench$Command" "number" "I", Cond.fieldLink RX1 18 "LadderBench$Command" "letter" "I"]
def wsX9_init_r5 : List Cond := [Cond.methodLink RX9 52 yX0_init, Cond.instanceMethod yX0_init, Cond.code yX0_init cX0_init 2 none, Cond.methodLink RX0 3 objectInit, Cond.classLink RX0 9 RX2, Cond.fieldLink RX0 11 "LadderBench$Circuit" "ohms" "[LLadderBench$Fraction;", Cond.fieldLink RX0 17 "LadderBench$Circuit" "volts" "[LLadderBench$Fraction;", Cond.fieldLink RX0 21 "LadderBench$Circuit" "sum" "LLadderBench$Fraction;", Cond.fieldLink RX0 25 "LadderBench$Circuit" "share" "LLadderBench$Fraction;", Cond.fieldLink RX0 28 "LadderBench$Circuit" "unloaded" "LLadderBench$Fraction;", Cond.instanceMethod yX2_init, Cond.code yX2_init cX2_init 1 none, Cond.methodLink RX2 3 objectInit, Cond.fieldLink RX2 9 "LadderBench$Fraction" "upper" "J", Cond.fieldLink RX2 15 "LadderBench$Fraction" "lower" "J"]
def wsX9_init : List Cond := .code yX9_init cX9_init 1 none :: ((wsX9_init_r1 ++ (wsX9_init_r2 ++ (wsX9_init_r3 ++ (wsX9_init_r4 ++ wsX9_init_r5)))) ++ wsX40 ++ wsX90 ++ wsX80 ++ wsX30 ++ wsX60 ++ wsX10 ++ wsX00 ++ wsX20 ++ wsX50 ++ wsX70)
def wsX9_type : List Cond := .code yX9_type cX9_type 2 (some .int) :: ([.fieldLink RX9 10 "LadderBench" "text" "LLadderBench$Line;", .fieldLink RX9 68 "LadderBench$Line" "length" "I", .methodLink RX9 72 yX4_append, .instanceMethod yX4_append, .selects RX4 yX4_append yX4_append, .initialized RX4, .code yX4_append cX4_append 2 none, .fieldLink RX4 15 "LadderBench$Line" "length" "I", .fieldLink RX4 9 "LadderBench$Line" "characters" "[C"] ++ wsX90 ++ wsX40)
def wsX9_clearText : List Cond := .code yX9_clearText cX9_clearText 2 (some .int) :: ([.fieldLink RX9 10 "LadderBench" "text" "LLadderBench$Line;", .fieldLink RX9 68 "LadderBench$Line" "length" "I"] ++ wsX90 ++ wsX40)
def wsX9_readNetwork_r1 : List Cond := [Cond.fieldLink RX9 39 "LadderBench" "reader" "LLadderBench$NetworkReader;", Cond.fieldLink RX9 10 "LadderBench" "text" "LLadderBench$Line;", Cond.fieldLink RX9 32 "LadderBench" "history" "LLadderBench$History;", Cond.fieldLink RX9 19 "LadderBench" "now" "LLadderBench$State;", Cond.fieldLink RX9 84 "LadderBench$State" "network" "LLadderBench$Network;", Cond.fieldLink RX9 95 "LadderBench$Network" "size" "I", Cond.methodLink RX9 76 yX6_findFault, Cond.instanceMethod yX6_findFault, Cond.selects RX6 yX6_findFault yX6_findFault, Cond.initialized RX6, Cond.code yX6_findFault cX6_findFault 8 (some .int), Cond.fieldLink RX6 22 "LadderBench$Line" "length" "I", Cond.fieldLink RX6 27 "LadderBench$Line" "characters" "[C", Cond.static yX9_indexOfLetter, Cond.initialized RX9, Cond.code yX9_indexOfLetter cX9_indexOfLetter 1 (some .int), Cond.methodLink RX9 80 yX3_record, Cond.instanceMethod yX3_record, Cond.selects RX3 yX3_record yX3_record, Cond.initialized RX3, Cond.code yX3_record cX3_record 2 none, Cond.fieldLink RX3 21 "LadderBench$History" "size" "I", Cond.fieldLink RX3 17 "LadderBench$History" "oldest" "I", Cond.fieldLink RX3 11 "LadderBench$History" "states" "[LLadderBench$State;"]
def wsX9_readNetwork_r2 : List Cond := [Cond.methodLink RX3 25 yX8_copy, Cond.instanceMethod yX8_copy, Cond.selects RX8 yX8_copy yX8_copy, Cond.initialized RX8, Cond.code yX8_copy cX8_copy 3 none, Cond.fieldLink RX8 12 "LadderBench$State" "network" "LLadderBench$Network;", Cond.fieldLink RX8 21 "LadderBench$State" "notes" "LLadderBench$Notes;", Cond.fieldLink RX8 25 "LadderBench$State" "armValue" "[I", Cond.fieldLink RX8 29 "LadderBench$State" "armState" "[I", Cond.fieldLink RX8 32 "LadderBench$State" "isFolded" "[Z", Cond.fieldLink RX8 36 "LadderBench$State" "source" "I", Cond.fieldLink RX8 40 "LadderBench$State" "meter" "I", Cond.fieldLink RX8 43 "LadderBench$State" "folds" "I", Cond.methodLink RX8 46 yX5_copy, Cond.instanceMethod yX5_copy, Cond.selects RX5 yX5_copy yX5_copy, Cond.initialized RX5, Cond.code yX5_copy cX5_copy 3 none, Cond.fieldLink RX5 9 "LadderBench$Network" "kind" "[I", Cond.fieldLink RX5 15 "LadderBench$Network" "around" "[I", Cond.fieldLink RX5 18 "LadderBench$Network" "letter" "[I", Cond.fieldLink RX5 21 "LadderBench$Network" "partOfArm" "[I", Cond.fieldLink RX5 24 "LadderBench$Network" "size" "I", Cond.methodLink RX8 50 yX7_copy]
def wsX9_readNetwork_r3 : List Cond := [Cond.instanceMethod yX7_copy, Cond.selects RX7 yX7_copy yX7_copy, Cond.initialized RX7, Cond.code yX7_copy cX7_copy 3 none, Cond.fieldLink RX7 9 "LadderBench$Notes" "upper" "[J", Cond.fieldLink RX7 15 "LadderBench$Notes" "lower" "[J", Cond.fieldLink RX7 18 "LadderBench$Notes" "times" "[I", Cond.fieldLink RX7 22 "LadderBench$Notes" "size" "I", Cond.methodLink RX9 88 yX6_build, Cond.instanceMethod yX6_build, Cond.selects RX6 yX6_build yX6_build, Cond.code yX6_build cX6_build 4 none, Cond.fieldLink RX6 18 "LadderBench$NetworkReader" "depth" "I", Cond.methodLink RX6 35 yX5_clear, Cond.instanceMethod yX5_clear, Cond.selects RX5 yX5_clear yX5_clear, Cond.code yX5_clear cX5_clear 2 none, Cond.methodLink RX6 40 yX6_clearDepth, Cond.instanceMethod yX6_clearDepth, Cond.selects RX6 yX6_clearDepth yX6_clearDepth, Cond.code yX6_clearDepth cX6_clearDepth 1 none, Cond.fieldLink RX6 9 "LadderBench$NetworkReader" "pieces" "[I", Cond.fieldLink RX6 15 "LadderBench$NetworkReader" "links" "[I", Cond.methodLink RX6 43 yX6_take]
def wsX9_readNetwork_r4 : List Cond := [Cond.instanceMethod yX6_take, Cond.selects RX6 yX6_take yX6_take, Cond.code yX6_take cX6_take 4 none, Cond.methodLink RX6 47 yX6_endChain, Cond.instanceMethod yX6_endChain, Cond.selects RX6 yX6_endChain yX6_endChain, Cond.code yX6_endChain cX6_endChain 2 (some .int), Cond.methodLink RX6 51 yX6_endLink, Cond.instanceMethod yX6_endLink, Cond.selects RX6 yX6_endLink yX6_endLink, Cond.code yX6_endLink cX6_endLink 2 none, Cond.methodLink RX6 58 yX5_join, Cond.instanceMethod yX5_join, Cond.selects RX5 yX5_join yX5_join, Cond.code yX5_join cX5_join 5 (some .int), Cond.methodLink RX5 32 yJ6_bitCount_0f7a4, Cond.static yJ6_bitCount_0f7a4, Cond.initialized RJ6, Cond.code yJ6_bitCount_0f7a4 cJ6_bitCount_0f7a4 1 (some .int), Cond.constant RJ6 265 (1431655765), Cond.constant RJ6 266 (858993459), Cond.constant RJ6 267 (252645135), Cond.methodLink RX5 28 yX5_addPart, Cond.instanceMethod yX5_addPart]
def wsX9_readNetwork_r5 : List Cond := [Cond.selects RX5 yX5_addPart yX5_addPart, Cond.code yX5_addPart cX5_addPart 2 (some .int), Cond.methodLink RX6 55 yX5_addArm, Cond.instanceMethod yX5_addArm, Cond.selects RX5 yX5_addArm yX5_addArm, Cond.code yX5_addArm cX5_addArm 3 (some .int), Cond.methodLink RX9 92 yX8_resetArms, Cond.instanceMethod yX8_resetArms, Cond.selects RX8 yX8_resetArms yX8_resetArms, Cond.code yX8_resetArms cX8_resetArms 2 none, Cond.methodLink RX8 53 yX8_unfoldEach, Cond.instanceMethod yX8_unfoldEach, Cond.selects RX8 yX8_unfoldEach yX8_unfoldEach, Cond.code yX8_unfoldEach cX8_unfoldEach 2 none, Cond.fieldLink RX8 56 "LadderBench$Network" "size" "I", Cond.fieldLink RX8 59 "LadderBench$Network" "kind" "[I"]
def wsX9_readNetwork : List Cond := .code yX9_readNetwork cX9_readNetwork 2 (some .int) :: ((wsX9_readNetwork_r1 ++ (wsX9_readNetwork_r2 ++ (wsX9_readNetwork_r3 ++ (wsX9_readNetwork_r4 ++ wsX9_readNetwork_r5)))) ++ wsX90 ++ wsX80 ++ wsX50 ++ wsX40 ++ wsX30 ++ wsX70 ++ wsX60)
def wsX9_perform_r1 : List Cond := [Cond.fieldLink RX9 46 "LadderBench" "command" "LLadderBench$Command;", Cond.fieldLink RX9 10 "LadderBench" "text" "LLadderBench$Line;", Cond.fieldLink RX9 19 "LadderBench" "now" "LLadderBench$State;", Cond.fieldLink RX9 84 "LadderBench$State" "network" "LLadderBench$Network;", Cond.fieldLink RX9 107 "LadderBench$Command" "letter" "I", Cond.fieldLink RX9 32 "LadderBench" "history" "LLadderBench$History;", Cond.methodLink RX9 100 yX1_read, Cond.instanceMethod yX1_read, Cond.selects RX1 yX1_read yX1_read, Cond.initialized RX1, Cond.code yX1_read cX1_read 4 (some .int), Cond.fieldLink RX1 9 "LadderBench$Command" "action" "I", Cond.fieldLink RX1 35 "LadderBench$Line" "length" "I", Cond.methodLink RX1 38 Lib.Math.min.name, Cond.static Lib.Math.min.name, Cond.initialized "java/lang/Math", Cond.code Lib.Math.min.name Lib.Math.min.code 2 (some .int), Cond.fieldLink RX1 44 "LadderBench$Line" "characters" "[C", Cond.fieldLink RX1 18 "LadderBench$Command" "letter" "I", Cond.fieldLink RX1 15 "LadderBench$Command" "number" "I", Cond.methodLink RX1 21 yX4_findBlank, Cond.instanceMethod yX4_findBlank, Cond.selects RX4 yX4_findBlank yX4_findBlank, Cond.initialized RX4]
def wsX9_perform_r2 : List Cond := [Cond.code yX4_findBlank cX4_findBlank 3 (some .int), Cond.fieldLink RX4 15 "LadderBench$Line" "length" "I", Cond.fieldLink RX4 9 "LadderBench$Line" "characters" "[C", Cond.methodLink RX1 27 yX1_findAction, Cond.static yX1_findAction, Cond.code yX1_findAction cX1_findAction 2 (some .int), Cond.methodLink RX1 60 yX4_spells, Cond.instanceMethod yX4_spells, Cond.selects RX4 yX4_spells yX4_spells, Cond.code yX4_spells cX4_spells 5 (some .boolean), Cond.methodLink RX4 19 yJ0_length_8abf5, Cond.instanceMethod yJ0_length_8abf5, Cond.selects RJ0 yJ0_length_8abf5 yJ0_length_8abf5, Cond.initialized RJ0, Cond.code yJ0_length_8abf5 cJ0_length_8abf5 1 (some .int), Cond.fieldLink RJ0 9 "java/lang/String" "value" "[B", Cond.methodLink RJ0 335 yJ0_coder_7d493, Cond.instanceMethod yJ0_coder_7d493, Cond.selects RJ0 yJ0_coder_7d493 yJ0_coder_7d493, Cond.code yJ0_coder_7d493 cJ0_coder_7d493 1 (some .byte), Cond.fieldLink RJ0 38 "java/lang/String" "COMPACT_STRINGS" "Z", Cond.fieldLink RJ0 15 "java/lang/String" "coder" "B", Cond.methodLink RX4 24 yJ0_charAt_5068e, Cond.instanceMethod yJ0_charAt_5068e]
def wsX9_perform_r3 : List Cond := [Cond.selects RJ0 yJ0_charAt_5068e yJ0_charAt_5068e, Cond.code yJ0_charAt_5068e cJ0_charAt_5068e 2 (some .char), Cond.methodLink RJ0 492 yJ0_isLatin1_aae02, Cond.instanceMethod yJ0_isLatin1_aae02, Cond.selects RJ0 yJ0_isLatin1_aae02 yJ0_isLatin1_aae02, Cond.code yJ0_isLatin1_aae02 cJ0_isLatin1_aae02 1 (some .boolean), Cond.methodLink RJ0 495 yJ1_charAt_3b067, Cond.static yJ1_charAt_3b067, Cond.initialized RJ1, Cond.code yJ1_charAt_3b067 cJ1_charAt_3b067 2 (some .char), Cond.methodLink RJ1 9 yJ0_checkIndex_df160, Cond.static yJ0_checkIndex_df160, Cond.code yJ0_checkIndex_df160 cJ0_checkIndex_df160 2 none, Cond.fieldLink RJ0 1053 "jdk/internal/util/Preconditions" "SIOOBE_FORMATTER" "Ljava/util/function/BiFunction;", Cond.methodLink RJ0 1059 yJ3_checkIndex_8e157, Cond.static yJ3_checkIndex_8e157, Cond.initialized RJ3, Cond.code yJ3_checkIndex_8e157 cJ3_checkIndex_8e157 3 (some .int), Cond.methodLink RJ0 498 yJ2_charAt_3b067, Cond.static yJ2_charAt_3b067, Cond.initialized RJ2, Cond.code yJ2_charAt_3b067 cJ2_charAt_3b067 2 (some .char), Cond.methodLink RJ2 67 yJ2_checkIndex_2214a, Cond.static yJ2_checkIndex_2214a]
def wsX9_perform_r4 : List Cond := [Cond.code yJ2_checkIndex_2214a cJ2_checkIndex_2214a 2 none, Cond.methodLink RJ2 48 yJ2_length_9d52b, Cond.static yJ2_length_9d52b, Cond.code yJ2_length_9d52b cJ2_length_9d52b 1 (some .int), Cond.methodLink RJ2 414 yJ0_checkIndex_df160, Cond.methodLink RJ2 71 yJ2_getChar_3b067, Cond.static yJ2_getChar_3b067, Cond.code yJ2_getChar_3b067 cJ2_getChar_3b067 2 (some .char), Cond.fieldLink RJ2 44 "java/lang/StringUTF16" "$assertionsDisabled" "Z", Cond.fieldLink RJ2 59 "java/lang/StringUTF16" "HI_BYTE_SHIFT" "I", Cond.fieldLink RJ2 63 "java/lang/StringUTF16" "LO_BYTE_SHIFT" "I", Cond.methodLink RX1 31 yX1_takesLetter, Cond.instanceMethod yX1_takesLetter, Cond.selects RX1 yX1_takesLetter yX1_takesLetter, Cond.code yX1_takesLetter cX1_takesLetter 1 (some .boolean), Cond.static yX9_indexOfLetter, Cond.initialized RX9, Cond.code yX9_indexOfLetter cX9_indexOfLetter 1 (some .int), Cond.methodLink RX1 51 yX1_takesNumber, Cond.instanceMethod yX1_takesNumber, Cond.selects RX1 yX1_takesNumber yX1_takesNumber, Cond.code yX1_takesNumber cX1_takesNumber 1 (some .boolean), Cond.methodLink RX1 54 yX1_readNumber, Cond.static yX1_readNumber]
def wsX9_perform_r5 : List Cond := [Cond.code yX1_readNumber cX1_readNumber 6 (some .int), Cond.methodLink RX9 103 yX1_takesLetter, Cond.methodLink RX9 110 yX5_hasArm, Cond.instanceMethod yX5_hasArm, Cond.selects RX5 yX5_hasArm yX5_hasArm, Cond.initialized RX5, Cond.code yX5_hasArm cX5_hasArm 2 (some .boolean), Cond.fieldLink RX5 21 "LadderBench$Network" "partOfArm" "[I", Cond.methodLink RX9 114 yX1_isDoneIn, Cond.instanceMethod yX1_isDoneIn, Cond.selects RX1 yX1_isDoneIn yX1_isDoneIn, Cond.code yX1_isDoneIn cX1_isDoneIn 2 (some .boolean), Cond.fieldLink RX1 74 "LadderBench$State" "armValue" "[I", Cond.fieldLink RX1 80 "LadderBench$State" "armState" "[I", Cond.fieldLink RX1 83 "LadderBench$State" "source" "I", Cond.fieldLink RX1 85 "LadderBench$State" "meter" "I", Cond.methodLink RX9 80 yX3_record, Cond.instanceMethod yX3_record, Cond.selects RX3 yX3_record yX3_record, Cond.initialized RX3, Cond.code yX3_record cX3_record 2 none, Cond.fieldLink RX3 21 "LadderBench$History" "size" "I", Cond.fieldLink RX3 17 "LadderBench$History" "oldest" "I", Cond.fieldLink RX3 11 "LadderBench$History" "states" "[LLadderBench$State;"]
def wsX9_perform_r6 : List Cond := [Cond.methodLink RX3 25 yX8_copy, Cond.instanceMethod yX8_copy, Cond.selects RX8 yX8_copy yX8_copy, Cond.initialized RX8, Cond.code yX8_copy cX8_copy 3 none, Cond.fieldLink RX8 12 "LadderBench$State" "network" "LLadderBench$Network;", Cond.fieldLink RX8 21 "LadderBench$State" "notes" "LLadderBench$Notes;", Cond.fieldLink RX8 25 "LadderBench$State" "armValue" "[I", Cond.fieldLink RX8 29 "LadderBench$State" "armState" "[I", Cond.fieldLink RX8 32 "LadderBench$State" "isFolded" "[Z", Cond.fieldLink RX8 36 "LadderBench$State" "source" "I", Cond.fieldLink RX8 40 "LadderBench$State" "meter" "I", Cond.fieldLink RX8 43 "LadderBench$State" "folds" "I", Cond.methodLink RX8 46 yX5_copy, Cond.instanceMethod yX5_copy, Cond.selects RX5 yX5_copy yX5_copy, Cond.code yX5_copy cX5_copy 3 none, Cond.fieldLink RX5 9 "LadderBench$Network" "kind" "[I", Cond.fieldLink RX5 15 "LadderBench$Network" "around" "[I", Cond.fieldLink RX5 18 "LadderBench$Network" "letter" "[I", Cond.fieldLink RX5 24 "LadderBench$Network" "size" "I", Cond.methodLink RX8 50 yX7_copy, Cond.instanceMethod yX7_copy, Cond.selects RX7 yX7_copy yX7_copy]
def wsX9_perform_r7 : List Cond := [Cond.initialized RX7, Cond.code yX7_copy cX7_copy 3 none, Cond.fieldLink RX7 9 "LadderBench$Notes" "upper" "[J", Cond.fieldLink RX7 15 "LadderBench$Notes" "lower" "[J", Cond.fieldLink RX7 18 "LadderBench$Notes" "times" "[I", Cond.fieldLink RX7 22 "LadderBench$Notes" "size" "I", Cond.methodLink RX9 118 yX1_changeIn, Cond.instanceMethod yX1_changeIn, Cond.selects RX1 yX1_changeIn yX1_changeIn, Cond.code yX1_changeIn cX1_changeIn 2 none, Cond.methodLink RX1 87 yX8_setArm, Cond.instanceMethod yX8_setArm, Cond.selects RX8 yX8_setArm yX8_setArm, Cond.code yX8_setArm cX8_setArm 4 none, Cond.methodLink RX8 53 yX8_unfoldEach, Cond.instanceMethod yX8_unfoldEach, Cond.selects RX8 yX8_unfoldEach yX8_unfoldEach, Cond.code yX8_unfoldEach cX8_unfoldEach 2 none, Cond.fieldLink RX8 56 "LadderBench$Network" "size" "I", Cond.fieldLink RX8 59 "LadderBench$Network" "kind" "[I"]
def wsX9_perform : List Cond := .code yX9_perform cX9_perform 2 (some .int) :: ((wsX9_perform_r1 ++ (wsX9_perform_r2 ++ (wsX9_perform_r3 ++ (wsX9_perform_r4 ++ (wsX9_perform_r5 ++ (wsX9_perform_r6 ++ wsX9_perform_r7)))))) ++ wsX90 ++ wsX80 ++ wsX10 ++ wsX40 ++ wsX50 ++ wsX30 ++ wsX70)
def wsX9_fold_r1 : List Cond := [Cond.fieldLink RX9 19 "LadderBench" "now" "LLadderBench$State;", Cond.fieldLink RX9 84 "LadderBench$State" "network" "LLadderBench$Network;", Cond.fieldLink RX9 127 "LadderBench$State" "isFolded" "[Z", Cond.fieldLink RX9 32 "LadderBench" "history" "LLadderBench$History;", Cond.methodLink RX9 121 yX5_hasPart, Cond.instanceMethod yX5_hasPart, Cond.selects RX5 yX5_hasPart yX5_hasPart, Cond.initialized RX5, Cond.code yX5_hasPart cX5_hasPart 2 (some .boolean), Cond.fieldLink RX5 24 "LadderBench$Network" "size" "I", Cond.methodLink RX9 124 yX8_hasFoldedParts, Cond.instanceMethod yX8_hasFoldedParts, Cond.selects RX8 yX8_hasFoldedParts yX8_hasFoldedParts, Cond.initialized RX8, Cond.code yX8_hasFoldedParts cX8_hasFoldedParts 3 (some .boolean), Cond.fieldLink RX8 12 "LadderBench$State" "network" "LLadderBench$Network;", Cond.fieldLink RX8 66 "LadderBench$Network" "around" "[I", Cond.fieldLink RX8 32 "LadderBench$State" "isFolded" "[Z", Cond.methodLink RX9 80 yX3_record, Cond.instanceMethod yX3_record, Cond.selects RX3 yX3_record yX3_record, Cond.initialized RX3, Cond.code yX3_record cX3_record 2 none, Cond.fieldLink RX3 21 "LadderBench$History" "size" "I"]
def wsX9_fold_r2 : List Cond := [Cond.fieldLink RX3 17 "LadderBench$History" "oldest" "I", Cond.fieldLink RX3 11 "LadderBench$History" "states" "[LLadderBench$State;", Cond.methodLink RX3 25 yX8_copy, Cond.instanceMethod yX8_copy, Cond.selects RX8 yX8_copy yX8_copy, Cond.code yX8_copy cX8_copy 3 none, Cond.fieldLink RX8 21 "LadderBench$State" "notes" "LLadderBench$Notes;", Cond.fieldLink RX8 25 "LadderBench$State" "armValue" "[I", Cond.fieldLink RX8 29 "LadderBench$State" "armState" "[I", Cond.fieldLink RX8 36 "LadderBench$State" "source" "I", Cond.fieldLink RX8 40 "LadderBench$State" "meter" "I", Cond.fieldLink RX8 43 "LadderBench$State" "folds" "I", Cond.methodLink RX8 46 yX5_copy, Cond.instanceMethod yX5_copy, Cond.selects RX5 yX5_copy yX5_copy, Cond.code yX5_copy cX5_copy 3 none, Cond.fieldLink RX5 9 "LadderBench$Network" "kind" "[I", Cond.fieldLink RX5 15 "LadderBench$Network" "around" "[I", Cond.fieldLink RX5 18 "LadderBench$Network" "letter" "[I", Cond.fieldLink RX5 21 "LadderBench$Network" "partOfArm" "[I", Cond.methodLink RX8 50 yX7_copy, Cond.instanceMethod yX7_copy, Cond.selects RX7 yX7_copy yX7_copy, Cond.initialized RX7]
def wsX9_fold_r3 : List Cond := [Cond.code yX7_copy cX7_copy 3 none, Cond.fieldLink RX7 9 "LadderBench$Notes" "upper" "[J", Cond.fieldLink RX7 15 "LadderBench$Notes" "lower" "[J", Cond.fieldLink RX7 18 "LadderBench$Notes" "times" "[I", Cond.fieldLink RX7 22 "LadderBench$Notes" "size" "I", Cond.methodLink RX9 131 yX8_foldOne, Cond.instanceMethod yX8_foldOne, Cond.selects RX8 yX8_foldOne yX8_foldOne, Cond.code yX8_foldOne cX8_foldOne 2 none, Cond.methodLink RX9 135 yX8_countUnfolded, Cond.instanceMethod yX8_countUnfolded, Cond.selects RX8 yX8_countUnfolded yX8_countUnfolded, Cond.code yX8_countUnfolded cX8_countUnfolded 3 (some .int), Cond.fieldLink RX8 56 "LadderBench$Network" "size" "I"]
def wsX9_fold : List Cond := .code yX9_fold cX9_fold 2 (some .int) :: ((wsX9_fold_r1 ++ (wsX9_fold_r2 ++ wsX9_fold_r3)) ++ wsX90 ++ wsX80 ++ wsX50 ++ wsX30 ++ wsX70)
def wsX9_foldAll_r1 : List Cond := [Cond.fieldLink RX9 19 "LadderBench" "now" "LLadderBench$State;", Cond.fieldLink RX9 32 "LadderBench" "history" "LLadderBench$History;", Cond.methodLink RX9 139 yX8_findFoldable, Cond.instanceMethod yX8_findFoldable, Cond.selects RX8 yX8_findFoldable yX8_findFoldable, Cond.initialized RX8, Cond.code yX8_findFoldable cX8_findFoldable 4 (some .int), Cond.fieldLink RX8 12 "LadderBench$State" "network" "LLadderBench$Network;", Cond.fieldLink RX8 56 "LadderBench$Network" "size" "I", Cond.methodLink RX8 73 yX8_isFoldable, Cond.instanceMethod yX8_isFoldable, Cond.selects RX8 yX8_isFoldable yX8_isFoldable, Cond.code yX8_isFoldable cX8_isFoldable 2 (some .boolean), Cond.fieldLink RX8 32 "LadderBench$State" "isFolded" "[Z", Cond.methodLink RX8 69 yX8_hasFoldedParts, Cond.instanceMethod yX8_hasFoldedParts, Cond.selects RX8 yX8_hasFoldedParts yX8_hasFoldedParts, Cond.code yX8_hasFoldedParts cX8_hasFoldedParts 3 (some .boolean), Cond.fieldLink RX8 66 "LadderBench$Network" "around" "[I", Cond.methodLink RX9 80 yX3_record, Cond.instanceMethod yX3_record, Cond.selects RX3 yX3_record yX3_record, Cond.initialized RX3, Cond.code yX3_record cX3_record 2 none]
def wsX9_foldAll_r2 : List Cond := [Cond.fieldLink RX3 21 "LadderBench$History" "size" "I", Cond.fieldLink RX3 17 "LadderBench$History" "oldest" "I", Cond.fieldLink RX3 11 "LadderBench$History" "states" "[LLadderBench$State;", Cond.methodLink RX3 25 yX8_copy, Cond.instanceMethod yX8_copy, Cond.selects RX8 yX8_copy yX8_copy, Cond.code yX8_copy cX8_copy 3 none, Cond.fieldLink RX8 21 "LadderBench$State" "notes" "LLadderBench$Notes;", Cond.fieldLink RX8 25 "LadderBench$State" "armValue" "[I", Cond.fieldLink RX8 29 "LadderBench$State" "armState" "[I", Cond.fieldLink RX8 36 "LadderBench$State" "source" "I", Cond.fieldLink RX8 40 "LadderBench$State" "meter" "I", Cond.fieldLink RX8 43 "LadderBench$State" "folds" "I", Cond.methodLink RX8 46 yX5_copy, Cond.instanceMethod yX5_copy, Cond.selects RX5 yX5_copy yX5_copy, Cond.initialized RX5, Cond.code yX5_copy cX5_copy 3 none, Cond.fieldLink RX5 9 "LadderBench$Network" "kind" "[I", Cond.fieldLink RX5 15 "LadderBench$Network" "around" "[I", Cond.fieldLink RX5 18 "LadderBench$Network" "letter" "[I", Cond.fieldLink RX5 21 "LadderBench$Network" "partOfArm" "[I", Cond.fieldLink RX5 24 "LadderBench$Network" "size" "I", Cond.methodLink RX8 50 yX7_copy]
def wsX9_foldAll_r3 : List Cond := [Cond.instanceMethod yX7_copy, Cond.selects RX7 yX7_copy yX7_copy, Cond.initialized RX7, Cond.code yX7_copy cX7_copy 3 none, Cond.fieldLink RX7 9 "LadderBench$Notes" "upper" "[J", Cond.fieldLink RX7 15 "LadderBench$Notes" "lower" "[J", Cond.fieldLink RX7 18 "LadderBench$Notes" "times" "[I", Cond.fieldLink RX7 22 "LadderBench$Notes" "size" "I", Cond.methodLink RX9 131 yX8_foldOne, Cond.instanceMethod yX8_foldOne, Cond.selects RX8 yX8_foldOne yX8_foldOne, Cond.code yX8_foldOne cX8_foldOne 2 none]
def wsX9_foldAll : List Cond := .code yX9_foldAll cX9_foldAll 5 (some .int) :: ((wsX9_foldAll_r1 ++ (wsX9_foldAll_r2 ++ wsX9_foldAll_r3)) ++ wsX90 ++ wsX80 ++ wsX50 ++ wsX30 ++ wsX70)
def wsX9_unfold_r1 : List Cond := [Cond.fieldLink RX9 19 "LadderBench" "now" "LLadderBench$State;", Cond.fieldLink RX9 84 "LadderBench$State" "network" "LLadderBench$Network;", Cond.fieldLink RX9 143 "LadderBench$Network" "kind" "[I", Cond.fieldLink RX9 127 "LadderBench$State" "isFolded" "[Z", Cond.fieldLink RX9 32 "LadderBench" "history" "LLadderBench$History;", Cond.methodLink RX9 121 yX5_hasPart, Cond.instanceMethod yX5_hasPart, Cond.selects RX5 yX5_hasPart yX5_hasPart, Cond.initialized RX5, Cond.code yX5_hasPart cX5_hasPart 2 (some .boolean), Cond.fieldLink RX5 24 "LadderBench$Network" "size" "I", Cond.methodLink RX9 80 yX3_record, Cond.instanceMethod yX3_record, Cond.selects RX3 yX3_record yX3_record, Cond.initialized RX3, Cond.code yX3_record cX3_record 2 none, Cond.fieldLink RX3 21 "LadderBench$History" "size" "I", Cond.fieldLink RX3 17 "LadderBench$History" "oldest" "I", Cond.fieldLink RX3 11 "LadderBench$History" "states" "[LLadderBench$State;", Cond.methodLink RX3 25 yX8_copy, Cond.instanceMethod yX8_copy, Cond.selects RX8 yX8_copy yX8_copy, Cond.initialized RX8, Cond.code yX8_copy cX8_copy 3 none]
def wsX9_unfold_r2 : List Cond := [Cond.fieldLink RX8 12 "LadderBench$State" "network" "LLadderBench$Network;", Cond.fieldLink RX8 21 "LadderBench$State" "notes" "LLadderBench$Notes;", Cond.fieldLink RX8 25 "LadderBench$State" "armValue" "[I", Cond.fieldLink RX8 29 "LadderBench$State" "armState" "[I", Cond.fieldLink RX8 32 "LadderBench$State" "isFolded" "[Z", Cond.fieldLink RX8 36 "LadderBench$State" "source" "I", Cond.fieldLink RX8 40 "LadderBench$State" "meter" "I", Cond.fieldLink RX8 43 "LadderBench$State" "folds" "I", Cond.methodLink RX8 46 yX5_copy, Cond.instanceMethod yX5_copy, Cond.selects RX5 yX5_copy yX5_copy, Cond.code yX5_copy cX5_copy 3 none, Cond.fieldLink RX5 9 "LadderBench$Network" "kind" "[I", Cond.fieldLink RX5 15 "LadderBench$Network" "around" "[I", Cond.fieldLink RX5 18 "LadderBench$Network" "letter" "[I", Cond.fieldLink RX5 21 "LadderBench$Network" "partOfArm" "[I", Cond.methodLink RX8 50 yX7_copy, Cond.instanceMethod yX7_copy, Cond.selects RX7 yX7_copy yX7_copy, Cond.initialized RX7, Cond.code yX7_copy cX7_copy 3 none, Cond.fieldLink RX7 9 "LadderBench$Notes" "upper" "[J", Cond.fieldLink RX7 15 "LadderBench$Notes" "lower" "[J", Cond.fieldLink RX7 18 "LadderBench$Notes" "times" "[I"]
def wsX9_unfold_r3 : List Cond := [Cond.fieldLink RX7 22 "LadderBench$Notes" "size" "I", Cond.methodLink RX9 147 yX8_unfoldFrom, Cond.instanceMethod yX8_unfoldFrom, Cond.selects RX8 yX8_unfoldFrom yX8_unfoldFrom, Cond.code yX8_unfoldFrom cX8_unfoldFrom 5 (some .int), Cond.fieldLink RX8 56 "LadderBench$Network" "size" "I", Cond.methodLink RX8 62 yX5_findWayUp, Cond.instanceMethod yX5_findWayUp, Cond.selects RX5 yX5_findWayUp yX5_findWayUp, Cond.code yX5_findWayUp cX5_findWayUp 5 (some .int), Cond.methodLink RX5 37 yX5_hasPart]
def wsX9_unfold : List Cond := .code yX9_unfold cX9_unfold 2 (some .int) :: ((wsX9_unfold_r1 ++ (wsX9_unfold_r2 ++ wsX9_unfold_r3)) ++ wsX90 ++ wsX80 ++ wsX50 ++ wsX30 ++ wsX70)
def wsX9_note_r1 : List Cond := [Cond.fieldLink RX9 19 "LadderBench" "now" "LLadderBench$State;", Cond.fieldLink RX9 84 "LadderBench$State" "network" "LLadderBench$Network;", Cond.fieldLink RX9 53 "LadderBench" "circuit" "LLadderBench$Circuit;", Cond.fieldLink RX9 155 "LadderBench$State" "notes" "LLadderBench$Notes;", Cond.fieldLink RX9 165 "LadderBench$Notes" "size" "I", Cond.fieldLink RX9 32 "LadderBench" "history" "LLadderBench$History;", Cond.methodLink RX9 121 yX5_hasPart, Cond.instanceMethod yX5_hasPart, Cond.selects RX5 yX5_hasPart yX5_hasPart, Cond.initialized RX5, Cond.code yX5_hasPart cX5_hasPart 2 (some .boolean), Cond.fieldLink RX5 24 "LadderBench$Network" "size" "I", Cond.methodLink RX9 151 yX0_findReading, Cond.instanceMethod yX0_findReading, Cond.selects RX0 yX0_findReading yX0_findReading, Cond.initialized RX0, Cond.code yX0_findReading cX0_findReading 3 (some (.object "LadderBench$Fraction")), Cond.fieldLink RX0 17 "LadderBench$Circuit" "volts" "[LLadderBench$Fraction;", Cond.methodLink RX0 89 yX0_findOhms, Cond.instanceMethod yX0_findOhms, Cond.selects RX0 yX0_findOhms yX0_findOhms, Cond.code yX0_findOhms cX0_findOhms 5 none, Cond.fieldLink RX0 31 "LadderBench$State" "network" "LLadderBench$Network;", Cond.fieldLink RX0 37 "LadderBench$Network" "size" "I"]
def wsX9_note_r2 : List Cond := [Cond.fieldLink RX0 11 "LadderBench$Circuit" "ohms" "[LLadderBench$Fraction;", Cond.fieldLink RX0 21 "LadderBench$Circuit" "sum" "LLadderBench$Fraction;", Cond.fieldLink RX0 62 "LadderBench$State" "meter" "I", Cond.methodLink RX0 43 yX5_isKind, Cond.instanceMethod yX5_isKind, Cond.selects RX5 yX5_isKind yX5_isKind, Cond.code yX5_isKind cX5_isKind 3 (some .boolean), Cond.fieldLink RX5 9 "LadderBench$Network" "kind" "[I", Cond.methodLink RX5 37 yX5_hasPart, Cond.methodLink RX0 47 yX0_putArm, Cond.instanceMethod yX0_putArm, Cond.selects RX0 yX0_putArm yX0_putArm, Cond.code yX0_putArm cX0_putArm 4 none, Cond.fieldLink RX0 69 "LadderBench$Network" "letter" "[I", Cond.fieldLink RX0 73 "LadderBench$State" "armState" "[I", Cond.fieldLink RX0 76 "LadderBench$State" "armValue" "[I", Cond.methodLink RX0 79 yX2_put, Cond.instanceMethod yX2_put, Cond.selects RX2 yX2_put yX2_put, Cond.initialized RX2, Cond.code yX2_put cX2_put 7 none, Cond.fieldLink RX2 9 "LadderBench$Fraction" "upper" "J", Cond.fieldLink RX2 15 "LadderBench$Fraction" "lower" "J", Cond.methodLink RX2 18 yX2_commonDivisor]
def wsX9_note_r3 : List Cond := [Cond.static yX2_commonDivisor, Cond.code yX2_commonDivisor cX2_commonDivisor 11 (some .long), Cond.methodLink RX0 51 yX0_addUp, Cond.instanceMethod yX0_addUp, Cond.selects RX0 yX0_addUp yX0_addUp, Cond.code yX0_addUp cX0_addUp 5 none, Cond.fieldLink RX0 83 "LadderBench$Network" "around" "[I", Cond.fieldLink RX0 25 "LadderBench$Circuit" "share" "LLadderBench$Fraction;", Cond.methodLink RX0 55 yX2_copy, Cond.instanceMethod yX2_copy, Cond.selects RX2 yX2_copy yX2_copy, Cond.code yX2_copy cX2_copy 2 none, Cond.methodLink RX0 59 yX2_invert, Cond.instanceMethod yX2_invert, Cond.selects RX2 yX2_invert yX2_invert, Cond.code yX2_invert cX2_invert 3 none, Cond.methodLink RX0 86 yX2_add, Cond.instanceMethod yX2_add, Cond.selects RX2 yX2_add yX2_add, Cond.code yX2_add cX2_add 9 none, Cond.methodLink RX2 22 yX2_put, Cond.methodLink RX0 65 yX0_addMeter, Cond.instanceMethod yX0_addMeter, Cond.selects RX0 yX0_addMeter yX0_addMeter]
def wsX9_note_r4 : List Cond := [Cond.code yX0_addMeter cX0_addMeter 3 none, Cond.methodLink RX0 92 yX0_findVolts, Cond.instanceMethod yX0_findVolts, Cond.selects RX0 yX0_findVolts yX0_findVolts, Cond.code yX0_findVolts cX0_findVolts 6 none, Cond.fieldLink RX0 99 "LadderBench$State" "source" "I", Cond.methodLink RX0 95 yX5_hasPart, Cond.methodLink RX0 102 yX0_divideVolts, Cond.instanceMethod yX0_divideVolts, Cond.selects RX0 yX0_divideVolts yX0_divideVolts, Cond.code yX0_divideVolts cX0_divideVolts 5 none, Cond.methodLink RX0 116 Lib.Math.max.name, Cond.static Lib.Math.max.name, Cond.initialized "java/lang/Math", Cond.code Lib.Math.max.name Lib.Math.max.code 2 (some .int), Cond.methodLink RX0 105 yX2_isInfinite, Cond.instanceMethod yX2_isInfinite, Cond.selects RX2 yX2_isInfinite yX2_isInfinite, Cond.code yX2_isInfinite cX2_isInfinite 1 (some .boolean), Cond.methodLink RX0 109 yX2_isZero, Cond.instanceMethod yX2_isZero, Cond.selects RX2 yX2_isZero yX2_isZero, Cond.code yX2_isZero cX2_isZero 1 (some .boolean), Cond.methodLink RX0 112 yX0_countInfinite]
def wsX9_note_r5 : List Cond := [Cond.instanceMethod yX0_countInfinite, Cond.selects RX0 yX0_countInfinite yX0_countInfinite, Cond.code yX0_countInfinite cX0_countInfinite 5 (some .int), Cond.methodLink RX0 122 yX2_multiply, Cond.instanceMethod yX2_multiply, Cond.selects RX2 yX2_multiply yX2_multiply, Cond.code yX2_multiply cX2_multiply 8 none, Cond.methodLink RX9 159 yX7_find, Cond.instanceMethod yX7_find, Cond.selects RX7 yX7_find yX7_find, Cond.initialized RX7, Cond.code yX7_find cX7_find 3 (some .int), Cond.fieldLink RX7 22 "LadderBench$Notes" "size" "I", Cond.fieldLink RX7 9 "LadderBench$Notes" "upper" "[J", Cond.fieldLink RX7 26 "LadderBench$Fraction" "upper" "J", Cond.fieldLink RX7 15 "LadderBench$Notes" "lower" "[J", Cond.fieldLink RX7 31 "LadderBench$Fraction" "lower" "J", Cond.methodLink RX9 80 yX3_record, Cond.instanceMethod yX3_record, Cond.selects RX3 yX3_record yX3_record, Cond.initialized RX3, Cond.code yX3_record cX3_record 2 none, Cond.fieldLink RX3 21 "LadderBench$History" "size" "I", Cond.fieldLink RX3 17 "LadderBench$History" "oldest" "I"]
def wsX9_note_r6 : List Cond := [Cond.fieldLink RX3 11 "LadderBench$History" "states" "[LLadderBench$State;", Cond.methodLink RX3 25 yX8_copy, Cond.instanceMethod yX8_copy, Cond.selects RX8 yX8_copy yX8_copy, Cond.initialized RX8, Cond.code yX8_copy cX8_copy 3 none, Cond.fieldLink RX8 12 "LadderBench$State" "network" "LLadderBench$Network;", Cond.fieldLink RX8 21 "LadderBench$State" "notes" "LLadderBench$Notes;", Cond.fieldLink RX8 25 "LadderBench$State" "armValue" "[I", Cond.fieldLink RX8 29 "LadderBench$State" "armState" "[I", Cond.fieldLink RX8 32 "LadderBench$State" "isFolded" "[Z", Cond.fieldLink RX8 36 "LadderBench$State" "source" "I", Cond.fieldLink RX8 40 "LadderBench$State" "meter" "I", Cond.fieldLink RX8 43 "LadderBench$State" "folds" "I", Cond.methodLink RX8 46 yX5_copy, Cond.instanceMethod yX5_copy, Cond.selects RX5 yX5_copy yX5_copy, Cond.code yX5_copy cX5_copy 3 none, Cond.fieldLink RX5 15 "LadderBench$Network" "around" "[I", Cond.fieldLink RX5 18 "LadderBench$Network" "letter" "[I", Cond.fieldLink RX5 21 "LadderBench$Network" "partOfArm" "[I", Cond.methodLink RX8 50 yX7_copy, Cond.instanceMethod yX7_copy, Cond.selects RX7 yX7_copy yX7_copy]
def wsX9_note_r7 : List Cond := [Cond.code yX7_copy cX7_copy 3 none, Cond.fieldLink RX7 18 "LadderBench$Notes" "times" "[I", Cond.methodLink RX9 166 yX7_put, Cond.instanceMethod yX7_put, Cond.selects RX7 yX7_put yX7_put, Cond.code yX7_put cX7_put 4 (some .int)]
def wsX9_note : List Cond := .code yX9_note cX9_note 4 (some .int) :: ((wsX9_note_r1 ++ (wsX9_note_r2 ++ (wsX9_note_r3 ++ (wsX9_note_r4 ++ (wsX9_note_r5 ++ (wsX9_note_r6 ++ wsX9_note_r7)))))) ++ wsX90 ++ wsX80 ++ wsX70 ++ wsX50 ++ wsX00 ++ wsX20 ++ wsX30)
def wsX9_undo_r1 : List Cond := [Cond.fieldLink RX9 32 "LadderBench" "history" "LLadderBench$History;", Cond.fieldLink RX9 170 "LadderBench$History" "size" "I", Cond.fieldLink RX9 19 "LadderBench" "now" "LLadderBench$State;", Cond.methodLink RX9 171 yX3_giveBack, Cond.instanceMethod yX3_giveBack, Cond.selects RX3 yX3_giveBack yX3_giveBack, Cond.initialized RX3, Cond.code yX3_giveBack cX3_giveBack 2 none, Cond.fieldLink RX3 21 "LadderBench$History" "size" "I", Cond.fieldLink RX3 11 "LadderBench$History" "states" "[LLadderBench$State;", Cond.fieldLink RX3 17 "LadderBench$History" "oldest" "I", Cond.methodLink RX3 25 yX8_copy, Cond.instanceMethod yX8_copy, Cond.selects RX8 yX8_copy yX8_copy, Cond.initialized RX8, Cond.code yX8_copy cX8_copy 3 none, Cond.fieldLink RX8 12 "LadderBench$State" "network" "LLadderBench$Network;", Cond.fieldLink RX8 21 "LadderBench$State" "notes" "LLadderBench$Notes;", Cond.fieldLink RX8 25 "LadderBench$State" "armValue" "[I", Cond.fieldLink RX8 29 "LadderBench$State" "armState" "[I", Cond.fieldLink RX8 32 "LadderBench$State" "isFolded" "[Z", Cond.fieldLink RX8 36 "LadderBench$State" "source" "I", Cond.fieldLink RX8 40 "LadderBench$State" "meter" "I", Cond.fieldLink RX8 43 "LadderBench$State" "folds" "I"]
def wsX9_undo_r2 : List Cond := [Cond.methodLink RX8 46 yX5_copy, Cond.instanceMethod yX5_copy, Cond.selects RX5 yX5_copy yX5_copy, Cond.initialized RX5, Cond.code yX5_copy cX5_copy 3 none, Cond.fieldLink RX5 9 "LadderBench$Network" "kind" "[I", Cond.fieldLink RX5 15 "LadderBench$Network" "around" "[I", Cond.fieldLink RX5 18 "LadderBench$Network" "letter" "[I", Cond.fieldLink RX5 21 "LadderBench$Network" "partOfArm" "[I", Cond.fieldLink RX5 24 "LadderBench$Network" "size" "I", Cond.methodLink RX8 50 yX7_copy, Cond.instanceMethod yX7_copy, Cond.selects RX7 yX7_copy yX7_copy, Cond.initialized RX7, Cond.code yX7_copy cX7_copy 3 none, Cond.fieldLink RX7 9 "LadderBench$Notes" "upper" "[J", Cond.fieldLink RX7 15 "LadderBench$Notes" "lower" "[J", Cond.fieldLink RX7 18 "LadderBench$Notes" "times" "[I", Cond.fieldLink RX7 22 "LadderBench$Notes" "size" "I"]
def wsX9_undo : List Cond := .code yX9_undo cX9_undo 1 (some .int) :: ((wsX9_undo_r1 ++ wsX9_undo_r2) ++ wsX90 ++ wsX30 ++ wsX80 ++ wsX50 ++ wsX70)
def wsX9_keep_r1 : List Cond := [Cond.fieldLink RX9 23 "LadderBench" "snapshot" "LLadderBench$State;", Cond.fieldLink RX9 19 "LadderBench" "now" "LLadderBench$State;", Cond.fieldLink RX9 64 "LadderBench" "hasSnapshot" "Z", Cond.fieldLink RX9 84 "LadderBench$State" "network" "LLadderBench$Network;", Cond.fieldLink RX9 95 "LadderBench$Network" "size" "I", Cond.methodLink RX9 174 yX8_copy, Cond.instanceMethod yX8_copy, Cond.selects RX8 yX8_copy yX8_copy, Cond.initialized RX8, Cond.code yX8_copy cX8_copy 3 none, Cond.fieldLink RX8 12 "LadderBench$State" "network" "LLadderBench$Network;", Cond.fieldLink RX8 21 "LadderBench$State" "notes" "LLadderBench$Notes;", Cond.fieldLink RX8 25 "LadderBench$State" "armValue" "[I", Cond.fieldLink RX8 29 "LadderBench$State" "armState" "[I", Cond.fieldLink RX8 32 "LadderBench$State" "isFolded" "[Z", Cond.fieldLink RX8 36 "LadderBench$State" "source" "I", Cond.fieldLink RX8 40 "LadderBench$State" "meter" "I", Cond.fieldLink RX8 43 "LadderBench$State" "folds" "I", Cond.methodLink RX8 46 yX5_copy, Cond.instanceMethod yX5_copy, Cond.selects RX5 yX5_copy yX5_copy, Cond.initialized RX5, Cond.code yX5_copy cX5_copy 3 none, Cond.fieldLink RX5 9 "LadderBench$Network" "kind" "[I"]
def wsX9_keep_r2 : List Cond := [Cond.fieldLink RX5 15 "LadderBench$Network" "around" "[I", Cond.fieldLink RX5 18 "LadderBench$Network" "letter" "[I", Cond.fieldLink RX5 21 "LadderBench$Network" "partOfArm" "[I", Cond.fieldLink RX5 24 "LadderBench$Network" "size" "I", Cond.methodLink RX8 50 yX7_copy, Cond.instanceMethod yX7_copy, Cond.selects RX7 yX7_copy yX7_copy, Cond.initialized RX7, Cond.code yX7_copy cX7_copy 3 none, Cond.fieldLink RX7 9 "LadderBench$Notes" "upper" "[J", Cond.fieldLink RX7 15 "LadderBench$Notes" "lower" "[J", Cond.fieldLink RX7 18 "LadderBench$Notes" "times" "[I", Cond.fieldLink RX7 22 "LadderBench$Notes" "size" "I"]
def wsX9_keep : List Cond := .code yX9_keep cX9_keep 1 (some .int) :: ((wsX9_keep_r1 ++ wsX9_keep_r2) ++ wsX90 ++ wsX80 ++ wsX50 ++ wsX70)
def wsX9_restore_r1 : List Cond := [Cond.fieldLink RX9 64 "LadderBench" "hasSnapshot" "Z", Cond.fieldLink RX9 32 "LadderBench" "history" "LLadderBench$History;", Cond.fieldLink RX9 19 "LadderBench" "now" "LLadderBench$State;", Cond.fieldLink RX9 23 "LadderBench" "snapshot" "LLadderBench$State;", Cond.fieldLink RX9 84 "LadderBench$State" "network" "LLadderBench$Network;", Cond.fieldLink RX9 95 "LadderBench$Network" "size" "I", Cond.methodLink RX9 80 yX3_record, Cond.instanceMethod yX3_record, Cond.selects RX3 yX3_record yX3_record, Cond.initialized RX3, Cond.code yX3_record cX3_record 2 none, Cond.fieldLink RX3 21 "LadderBench$History" "size" "I", Cond.fieldLink RX3 17 "LadderBench$History" "oldest" "I", Cond.fieldLink RX3 11 "LadderBench$History" "states" "[LLadderBench$State;", Cond.methodLink RX3 25 yX8_copy, Cond.instanceMethod yX8_copy, Cond.selects RX8 yX8_copy yX8_copy, Cond.initialized RX8, Cond.code yX8_copy cX8_copy 3 none, Cond.fieldLink RX8 12 "LadderBench$State" "network" "LLadderBench$Network;", Cond.fieldLink RX8 21 "LadderBench$State" "notes" "LLadderBench$Notes;", Cond.fieldLink RX8 25 "LadderBench$State" "armValue" "[I", Cond.fieldLink RX8 29 "LadderBench$State" "armState" "[I", Cond.fieldLink RX8 32 "LadderBench$State" "isFolded" "[Z"]
def wsX9_restore_r2 : List Cond := [Cond.fieldLink RX8 36 "LadderBench$State" "source" "I", Cond.fieldLink RX8 40 "LadderBench$State" "meter" "I", Cond.fieldLink RX8 43 "LadderBench$State" "folds" "I", Cond.methodLink RX8 46 yX5_copy, Cond.instanceMethod yX5_copy, Cond.selects RX5 yX5_copy yX5_copy, Cond.initialized RX5, Cond.code yX5_copy cX5_copy 3 none, Cond.fieldLink RX5 9 "LadderBench$Network" "kind" "[I", Cond.fieldLink RX5 15 "LadderBench$Network" "around" "[I", Cond.fieldLink RX5 18 "LadderBench$Network" "letter" "[I", Cond.fieldLink RX5 21 "LadderBench$Network" "partOfArm" "[I", Cond.fieldLink RX5 24 "LadderBench$Network" "size" "I", Cond.methodLink RX8 50 yX7_copy, Cond.instanceMethod yX7_copy, Cond.selects RX7 yX7_copy yX7_copy, Cond.initialized RX7, Cond.code yX7_copy cX7_copy 3 none, Cond.fieldLink RX7 9 "LadderBench$Notes" "upper" "[J", Cond.fieldLink RX7 15 "LadderBench$Notes" "lower" "[J", Cond.fieldLink RX7 18 "LadderBench$Notes" "times" "[I", Cond.fieldLink RX7 22 "LadderBench$Notes" "size" "I", Cond.methodLink RX9 174 yX8_copy]
def wsX9_restore : List Cond := .code yX9_restore cX9_restore 1 (some .int) :: ((wsX9_restore_r1 ++ wsX9_restore_r2) ++ wsX90 ++ wsX80 ++ wsX50 ++ wsX30 ++ wsX70)
def wsX9_noneIfNowhere : List Cond := .code yX9_noneIfNowhere cX9_noneIfNowhere 1 (some .int) :: ([])
def wsX9_part_r1 : List Cond := [Cond.fieldLink RX9 19 "LadderBench" "now" "LLadderBench$State;", Cond.fieldLink RX9 84 "LadderBench$State" "network" "LLadderBench$Network;", Cond.fieldLink RX9 143 "LadderBench$Network" "kind" "[I", Cond.fieldLink RX9 127 "LadderBench$State" "isFolded" "[Z", Cond.fieldLink RX9 180 "LadderBench$Network" "around" "[I", Cond.fieldLink RX9 186 "LadderBench$Network" "letter" "[I", Cond.methodLink RX9 121 yX5_hasPart, Cond.instanceMethod yX5_hasPart, Cond.selects RX5 yX5_hasPart yX5_hasPart, Cond.initialized RX5, Cond.code yX5_hasPart cX5_hasPart 2 (some .boolean), Cond.fieldLink RX5 24 "LadderBench$Network" "size" "I", Cond.methodLink RX9 177 yX5_countParts, Cond.instanceMethod yX5_countParts, Cond.selects RX5 yX5_countParts yX5_countParts, Cond.code yX5_countParts cX5_countParts 4 (some .int), Cond.fieldLink RX5 15 "LadderBench$Network" "around" "[I", Cond.methodLink RX9 183 yX9_noneIfNowhere, Cond.static yX9_noneIfNowhere, Cond.initialized RX9, Cond.code yX9_noneIfNowhere cX9_noneIfNowhere 1 (some .int), Cond.methodLink RX9 188 yX5_countArms, Cond.instanceMethod yX5_countArms, Cond.selects RX5 yX5_countArms yX5_countArms]
def wsX9_part_r2 : List Cond := [Cond.code yX5_countArms cX5_countArms 4 (some .int), Cond.fieldLink RX5 21 "LadderBench$Network" "partOfArm" "[I", Cond.methodLink RX5 41 yX5_hasArm, Cond.instanceMethod yX5_hasArm, Cond.selects RX5 yX5_hasArm yX5_hasArm, Cond.code yX5_hasArm cX5_hasArm 2 (some .boolean), Cond.methodLink RX5 44 yX5_findWayUp, Cond.instanceMethod yX5_findWayUp, Cond.selects RX5 yX5_findWayUp yX5_findWayUp, Cond.code yX5_findWayUp cX5_findWayUp 5 (some .int), Cond.methodLink RX5 37 yX5_hasPart, Cond.methodLink RX9 191 yX8_isFoldable, Cond.instanceMethod yX8_isFoldable, Cond.selects RX8 yX8_isFoldable yX8_isFoldable, Cond.initialized RX8, Cond.code yX8_isFoldable cX8_isFoldable 2 (some .boolean), Cond.fieldLink RX8 32 "LadderBench$State" "isFolded" "[Z", Cond.methodLink RX8 69 yX8_hasFoldedParts, Cond.instanceMethod yX8_hasFoldedParts, Cond.selects RX8 yX8_hasFoldedParts yX8_hasFoldedParts, Cond.code yX8_hasFoldedParts cX8_hasFoldedParts 3 (some .boolean), Cond.fieldLink RX8 12 "LadderBench$State" "network" "LLadderBench$Network;", Cond.fieldLink RX8 66 "LadderBench$Network" "around" "[I", Cond.methodLink RX9 194 yX5_findFirst]
def wsX9_part_r3 : List Cond := [Cond.instanceMethod yX5_findFirst, Cond.selects RX5 yX5_findFirst yX5_findFirst, Cond.code yX5_findFirst cX5_findFirst 3 (some .int)]
def wsX9_part : List Cond := .code yX9_part cX9_part 3 (some .int) :: ((wsX9_part_r1 ++ (wsX9_part_r2 ++ wsX9_part_r3)) ++ wsX90 ++ wsX80 ++ wsX50)
def wsX9_arm : List Cond := .code yX9_arm cX9_arm 4 (some .int) :: ([.fieldLink RX9 19 "LadderBench" "now" "LLadderBench$State;", .fieldLink RX9 84 "LadderBench$State" "network" "LLadderBench$Network;", .fieldLink RX9 200 "LadderBench$State" "armValue" "[I", .fieldLink RX9 203 "LadderBench$State" "armState" "[I", .fieldLink RX9 206 "LadderBench$Network" "partOfArm" "[I", .methodLink RX9 197 yX9_indexOfLetter, .static yX9_indexOfLetter, .initialized RX9, .code yX9_indexOfLetter cX9_indexOfLetter 1 (some .int), .methodLink RX9 110 yX5_hasArm, .instanceMethod yX5_hasArm, .selects RX5 yX5_hasArm yX5_hasArm, .initialized RX5, .code yX5_hasArm cX5_hasArm 2 (some .boolean), .fieldLink RX5 21 "LadderBench$Network" "partOfArm" "[I"] ++ wsX90 ++ wsX80 ++ wsX50)
def wsX9_isHalf : List Cond := .code yX9_isHalf cX9_isHalf 1 (some .boolean) :: ([])
def wsX9_resistance_r1 : List Cond := [Cond.fieldLink RX9 19 "LadderBench" "now" "LLadderBench$State;", Cond.fieldLink RX9 84 "LadderBench$State" "network" "LLadderBench$Network;", Cond.constantLong RX9 209 (-1), Cond.constantLong RX9 214 (-2), Cond.fieldLink RX9 53 "LadderBench" "circuit" "LLadderBench$Circuit;", Cond.fieldLink RX9 220 "LadderBench$Circuit" "ohms" "[LLadderBench$Fraction;", Cond.methodLink RX9 121 yX5_hasPart, Cond.instanceMethod yX5_hasPart, Cond.selects RX5 yX5_hasPart yX5_hasPart, Cond.initialized RX5, Cond.code yX5_hasPart cX5_hasPart 2 (some .boolean), Cond.fieldLink RX5 24 "LadderBench$Network" "size" "I", Cond.methodLink RX9 211 yX9_isHalf, Cond.static yX9_isHalf, Cond.initialized RX9, Cond.code yX9_isHalf cX9_isHalf 1 (some .boolean), Cond.methodLink RX9 216 yX0_findOhms, Cond.instanceMethod yX0_findOhms, Cond.selects RX0 yX0_findOhms yX0_findOhms, Cond.initialized RX0, Cond.code yX0_findOhms cX0_findOhms 5 none, Cond.fieldLink RX0 31 "LadderBench$State" "network" "LLadderBench$Network;", Cond.fieldLink RX0 37 "LadderBench$Network" "size" "I", Cond.fieldLink RX0 11 "LadderBench$Circuit" "ohms" "[LLadderBench$Fraction;"]
def wsX9_resistance_r2 : List Cond := [Cond.fieldLink RX0 21 "LadderBench$Circuit" "sum" "LLadderBench$Fraction;", Cond.fieldLink RX0 62 "LadderBench$State" "meter" "I", Cond.methodLink RX0 43 yX5_isKind, Cond.instanceMethod yX5_isKind, Cond.selects RX5 yX5_isKind yX5_isKind, Cond.code yX5_isKind cX5_isKind 3 (some .boolean), Cond.fieldLink RX5 9 "LadderBench$Network" "kind" "[I", Cond.methodLink RX5 37 yX5_hasPart, Cond.methodLink RX0 47 yX0_putArm, Cond.instanceMethod yX0_putArm, Cond.selects RX0 yX0_putArm yX0_putArm, Cond.code yX0_putArm cX0_putArm 4 none, Cond.fieldLink RX0 69 "LadderBench$Network" "letter" "[I", Cond.fieldLink RX0 73 "LadderBench$State" "armState" "[I", Cond.fieldLink RX0 76 "LadderBench$State" "armValue" "[I", Cond.methodLink RX0 79 yX2_put, Cond.instanceMethod yX2_put, Cond.selects RX2 yX2_put yX2_put, Cond.initialized RX2, Cond.code yX2_put cX2_put 7 none, Cond.fieldLink RX2 9 "LadderBench$Fraction" "upper" "J", Cond.fieldLink RX2 15 "LadderBench$Fraction" "lower" "J", Cond.methodLink RX2 18 yX2_commonDivisor, Cond.static yX2_commonDivisor]
def wsX9_resistance_r3 : List Cond := [Cond.code yX2_commonDivisor cX2_commonDivisor 11 (some .long), Cond.methodLink RX0 51 yX0_addUp, Cond.instanceMethod yX0_addUp, Cond.selects RX0 yX0_addUp yX0_addUp, Cond.code yX0_addUp cX0_addUp 5 none, Cond.fieldLink RX0 83 "LadderBench$Network" "around" "[I", Cond.fieldLink RX0 25 "LadderBench$Circuit" "share" "LLadderBench$Fraction;", Cond.methodLink RX0 55 yX2_copy, Cond.instanceMethod yX2_copy, Cond.selects RX2 yX2_copy yX2_copy, Cond.code yX2_copy cX2_copy 2 none, Cond.methodLink RX0 59 yX2_invert, Cond.instanceMethod yX2_invert, Cond.selects RX2 yX2_invert yX2_invert, Cond.code yX2_invert cX2_invert 3 none, Cond.methodLink RX0 86 yX2_add, Cond.instanceMethod yX2_add, Cond.selects RX2 yX2_add yX2_add, Cond.code yX2_add cX2_add 9 none, Cond.methodLink RX2 22 yX2_put, Cond.methodLink RX0 65 yX0_addMeter, Cond.instanceMethod yX0_addMeter, Cond.selects RX0 yX0_addMeter yX0_addMeter, Cond.code yX0_addMeter cX0_addMeter 3 none]
def wsX9_resistance_r4 : List Cond := [Cond.methodLink RX9 224 yX2_half, Cond.instanceMethod yX2_half, Cond.selects RX2 yX2_half yX2_half, Cond.code yX2_half cX2_half 2 (some .long)]
def wsX9_resistance : List Cond := .code yX9_resistance cX9_resistance 3 (some .long) :: ((wsX9_resistance_r1 ++ (wsX9_resistance_r2 ++ (wsX9_resistance_r3 ++ wsX9_resistance_r4))) ++ wsX90 ++ wsX80 ++ wsX00 ++ wsX50 ++ wsX20)
def wsX9_folded_r1 : List Cond := [Cond.fieldLink RX9 19 "LadderBench" "now" "LLadderBench$State;", Cond.fieldLink RX9 84 "LadderBench$State" "network" "LLadderBench$Network;", Cond.constantLong RX9 209 (-1), Cond.constantLong RX9 214 (-2), Cond.fieldLink RX9 127 "LadderBench$State" "isFolded" "[Z", Cond.constantLong RX9 228 (-4), Cond.fieldLink RX9 53 "LadderBench" "circuit" "LLadderBench$Circuit;", Cond.fieldLink RX9 220 "LadderBench$Circuit" "ohms" "[LLadderBench$Fraction;", Cond.methodLink RX9 121 yX5_hasPart, Cond.instanceMethod yX5_hasPart, Cond.selects RX5 yX5_hasPart yX5_hasPart, Cond.initialized RX5, Cond.code yX5_hasPart cX5_hasPart 2 (some .boolean), Cond.fieldLink RX5 24 "LadderBench$Network" "size" "I", Cond.methodLink RX9 211 yX9_isHalf, Cond.static yX9_isHalf, Cond.initialized RX9, Cond.code yX9_isHalf cX9_isHalf 1 (some .boolean), Cond.methodLink RX9 216 yX0_findOhms, Cond.instanceMethod yX0_findOhms, Cond.selects RX0 yX0_findOhms yX0_findOhms, Cond.initialized RX0, Cond.code yX0_findOhms cX0_findOhms 5 none, Cond.fieldLink RX0 31 "LadderBench$State" "network" "LLadderBench$Network;"]
def wsX9_folded_r2 : List Cond := [Cond.fieldLink RX0 37 "LadderBench$Network" "size" "I", Cond.fieldLink RX0 11 "LadderBench$Circuit" "ohms" "[LLadderBench$Fraction;", Cond.fieldLink RX0 21 "LadderBench$Circuit" "sum" "LLadderBench$Fraction;", Cond.fieldLink RX0 62 "LadderBench$State" "meter" "I", Cond.methodLink RX0 43 yX5_isKind, Cond.instanceMethod yX5_isKind, Cond.selects RX5 yX5_isKind yX5_isKind, Cond.code yX5_isKind cX5_isKind 3 (some .boolean), Cond.fieldLink RX5 9 "LadderBench$Network" "kind" "[I", Cond.methodLink RX5 37 yX5_hasPart, Cond.methodLink RX0 47 yX0_putArm, Cond.instanceMethod yX0_putArm, Cond.selects RX0 yX0_putArm yX0_putArm, Cond.code yX0_putArm cX0_putArm 4 none, Cond.fieldLink RX0 69 "LadderBench$Network" "letter" "[I", Cond.fieldLink RX0 73 "LadderBench$State" "armState" "[I", Cond.fieldLink RX0 76 "LadderBench$State" "armValue" "[I", Cond.methodLink RX0 79 yX2_put, Cond.instanceMethod yX2_put, Cond.selects RX2 yX2_put yX2_put, Cond.initialized RX2, Cond.code yX2_put cX2_put 7 none, Cond.fieldLink RX2 9 "LadderBench$Fraction" "upper" "J", Cond.fieldLink RX2 15 "LadderBench$Fraction" "lower" "J"]
def wsX9_folded_r3 : List Cond := [Cond.methodLink RX2 18 yX2_commonDivisor, Cond.static yX2_commonDivisor, Cond.code yX2_commonDivisor cX2_commonDivisor 11 (some .long), Cond.methodLink RX0 51 yX0_addUp, Cond.instanceMethod yX0_addUp, Cond.selects RX0 yX0_addUp yX0_addUp, Cond.code yX0_addUp cX0_addUp 5 none, Cond.fieldLink RX0 83 "LadderBench$Network" "around" "[I", Cond.fieldLink RX0 25 "LadderBench$Circuit" "share" "LLadderBench$Fraction;", Cond.methodLink RX0 55 yX2_copy, Cond.instanceMethod yX2_copy, Cond.selects RX2 yX2_copy yX2_copy, Cond.code yX2_copy cX2_copy 2 none, Cond.methodLink RX0 59 yX2_invert, Cond.instanceMethod yX2_invert, Cond.selects RX2 yX2_invert yX2_invert, Cond.code yX2_invert cX2_invert 3 none, Cond.methodLink RX0 86 yX2_add, Cond.instanceMethod yX2_add, Cond.selects RX2 yX2_add yX2_add, Cond.code yX2_add cX2_add 9 none, Cond.methodLink RX2 22 yX2_put, Cond.methodLink RX0 65 yX0_addMeter, Cond.instanceMethod yX0_addMeter]
def wsX9_folded_r4 : List Cond := [Cond.selects RX0 yX0_addMeter yX0_addMeter, Cond.code yX0_addMeter cX0_addMeter 3 none, Cond.methodLink RX9 224 yX2_half, Cond.instanceMethod yX2_half, Cond.selects RX2 yX2_half yX2_half, Cond.code yX2_half cX2_half 2 (some .long)]
def wsX9_folded : List Cond := .code yX9_folded cX9_folded 3 (some .long) :: ((wsX9_folded_r1 ++ (wsX9_folded_r2 ++ (wsX9_folded_r3 ++ wsX9_folded_r4))) ++ wsX90 ++ wsX80 ++ wsX00 ++ wsX50 ++ wsX20)
def wsX9_voltage_r1 : List Cond := [Cond.fieldLink RX9 19 "LadderBench" "now" "LLadderBench$State;", Cond.fieldLink RX9 84 "LadderBench$State" "network" "LLadderBench$Network;", Cond.constantLong RX9 209 (-1), Cond.constantLong RX9 214 (-2), Cond.fieldLink RX9 53 "LadderBench" "circuit" "LLadderBench$Circuit;", Cond.methodLink RX9 121 yX5_hasPart, Cond.instanceMethod yX5_hasPart, Cond.selects RX5 yX5_hasPart yX5_hasPart, Cond.initialized RX5, Cond.code yX5_hasPart cX5_hasPart 2 (some .boolean), Cond.fieldLink RX5 24 "LadderBench$Network" "size" "I", Cond.methodLink RX9 211 yX9_isHalf, Cond.static yX9_isHalf, Cond.initialized RX9, Cond.code yX9_isHalf cX9_isHalf 1 (some .boolean), Cond.methodLink RX9 230 yX0_findVoltage, Cond.instanceMethod yX0_findVoltage, Cond.selects RX0 yX0_findVoltage yX0_findVoltage, Cond.initialized RX0, Cond.code yX0_findVoltage cX0_findVoltage 3 (some (.object "LadderBench$Fraction")), Cond.fieldLink RX0 17 "LadderBench$Circuit" "volts" "[LLadderBench$Fraction;", Cond.methodLink RX0 89 yX0_findOhms, Cond.instanceMethod yX0_findOhms, Cond.selects RX0 yX0_findOhms yX0_findOhms]
def wsX9_voltage_r2 : List Cond := [Cond.code yX0_findOhms cX0_findOhms 5 none, Cond.fieldLink RX0 31 "LadderBench$State" "network" "LLadderBench$Network;", Cond.fieldLink RX0 37 "LadderBench$Network" "size" "I", Cond.fieldLink RX0 11 "LadderBench$Circuit" "ohms" "[LLadderBench$Fraction;", Cond.fieldLink RX0 21 "LadderBench$Circuit" "sum" "LLadderBench$Fraction;", Cond.fieldLink RX0 62 "LadderBench$State" "meter" "I", Cond.methodLink RX0 43 yX5_isKind, Cond.instanceMethod yX5_isKind, Cond.selects RX5 yX5_isKind yX5_isKind, Cond.code yX5_isKind cX5_isKind 3 (some .boolean), Cond.fieldLink RX5 9 "LadderBench$Network" "kind" "[I", Cond.methodLink RX5 37 yX5_hasPart, Cond.methodLink RX0 47 yX0_putArm, Cond.instanceMethod yX0_putArm, Cond.selects RX0 yX0_putArm yX0_putArm, Cond.code yX0_putArm cX0_putArm 4 none, Cond.fieldLink RX0 69 "LadderBench$Network" "letter" "[I", Cond.fieldLink RX0 73 "LadderBench$State" "armState" "[I", Cond.fieldLink RX0 76 "LadderBench$State" "armValue" "[I", Cond.methodLink RX0 79 yX2_put, Cond.instanceMethod yX2_put, Cond.selects RX2 yX2_put yX2_put, Cond.initialized RX2, Cond.code yX2_put cX2_put 7 none]
def wsX9_voltage_r3 : List Cond := [Cond.fieldLink RX2 9 "LadderBench$Fraction" "upper" "J", Cond.fieldLink RX2 15 "LadderBench$Fraction" "lower" "J", Cond.methodLink RX2 18 yX2_commonDivisor, Cond.static yX2_commonDivisor, Cond.code yX2_commonDivisor cX2_commonDivisor 11 (some .long), Cond.methodLink RX0 51 yX0_addUp, Cond.instanceMethod yX0_addUp, Cond.selects RX0 yX0_addUp yX0_addUp, Cond.code yX0_addUp cX0_addUp 5 none, Cond.fieldLink RX0 83 "LadderBench$Network" "around" "[I", Cond.fieldLink RX0 25 "LadderBench$Circuit" "share" "LLadderBench$Fraction;", Cond.methodLink RX0 55 yX2_copy, Cond.instanceMethod yX2_copy, Cond.selects RX2 yX2_copy yX2_copy, Cond.code yX2_copy cX2_copy 2 none, Cond.methodLink RX0 59 yX2_invert, Cond.instanceMethod yX2_invert, Cond.selects RX2 yX2_invert yX2_invert, Cond.code yX2_invert cX2_invert 3 none, Cond.methodLink RX0 86 yX2_add, Cond.instanceMethod yX2_add, Cond.selects RX2 yX2_add yX2_add, Cond.code yX2_add cX2_add 9 none, Cond.methodLink RX2 22 yX2_put]
def wsX9_voltage_r4 : List Cond := [Cond.methodLink RX0 65 yX0_addMeter, Cond.instanceMethod yX0_addMeter, Cond.selects RX0 yX0_addMeter yX0_addMeter, Cond.code yX0_addMeter cX0_addMeter 3 none, Cond.methodLink RX0 92 yX0_findVolts, Cond.instanceMethod yX0_findVolts, Cond.selects RX0 yX0_findVolts yX0_findVolts, Cond.code yX0_findVolts cX0_findVolts 6 none, Cond.fieldLink RX0 99 "LadderBench$State" "source" "I", Cond.methodLink RX0 95 yX5_hasPart, Cond.methodLink RX0 102 yX0_divideVolts, Cond.instanceMethod yX0_divideVolts, Cond.selects RX0 yX0_divideVolts yX0_divideVolts, Cond.code yX0_divideVolts cX0_divideVolts 5 none, Cond.methodLink RX0 116 Lib.Math.max.name, Cond.static Lib.Math.max.name, Cond.initialized "java/lang/Math", Cond.code Lib.Math.max.name Lib.Math.max.code 2 (some .int), Cond.methodLink RX0 105 yX2_isInfinite, Cond.instanceMethod yX2_isInfinite, Cond.selects RX2 yX2_isInfinite yX2_isInfinite, Cond.code yX2_isInfinite cX2_isInfinite 1 (some .boolean), Cond.methodLink RX0 109 yX2_isZero, Cond.instanceMethod yX2_isZero]
def wsX9_voltage_r5 : List Cond := [Cond.selects RX2 yX2_isZero yX2_isZero, Cond.code yX2_isZero cX2_isZero 1 (some .boolean), Cond.methodLink RX0 112 yX0_countInfinite, Cond.instanceMethod yX0_countInfinite, Cond.selects RX0 yX0_countInfinite yX0_countInfinite, Cond.code yX0_countInfinite cX0_countInfinite 5 (some .int), Cond.methodLink RX0 122 yX2_multiply, Cond.instanceMethod yX2_multiply, Cond.selects RX2 yX2_multiply yX2_multiply, Cond.code yX2_multiply cX2_multiply 8 none, Cond.methodLink RX9 224 yX2_half, Cond.instanceMethod yX2_half, Cond.selects RX2 yX2_half yX2_half, Cond.code yX2_half cX2_half 2 (some .long)]
def wsX9_voltage : List Cond := .code yX9_voltage cX9_voltage 3 (some .long) :: ((wsX9_voltage_r1 ++ (wsX9_voltage_r2 ++ (wsX9_voltage_r3 ++ (wsX9_voltage_r4 ++ wsX9_voltage_r5)))) ++ wsX90 ++ wsX80 ++ wsX50 ++ wsX00 ++ wsX20)
def wsX9_reading_r1 : List Cond := [Cond.fieldLink RX9 19 "LadderBench" "now" "LLadderBench$State;", Cond.fieldLink RX9 84 "LadderBench$State" "network" "LLadderBench$Network;", Cond.constantLong RX9 209 (-1), Cond.constantLong RX9 214 (-2), Cond.fieldLink RX9 53 "LadderBench" "circuit" "LLadderBench$Circuit;", Cond.methodLink RX9 121 yX5_hasPart, Cond.instanceMethod yX5_hasPart, Cond.selects RX5 yX5_hasPart yX5_hasPart, Cond.initialized RX5, Cond.code yX5_hasPart cX5_hasPart 2 (some .boolean), Cond.fieldLink RX5 24 "LadderBench$Network" "size" "I", Cond.methodLink RX9 211 yX9_isHalf, Cond.static yX9_isHalf, Cond.initialized RX9, Cond.code yX9_isHalf cX9_isHalf 1 (some .boolean), Cond.methodLink RX9 151 yX0_findReading, Cond.instanceMethod yX0_findReading, Cond.selects RX0 yX0_findReading yX0_findReading, Cond.initialized RX0, Cond.code yX0_findReading cX0_findReading 3 (some (.object "LadderBench$Fraction")), Cond.fieldLink RX0 17 "LadderBench$Circuit" "volts" "[LLadderBench$Fraction;", Cond.methodLink RX0 89 yX0_findOhms, Cond.instanceMethod yX0_findOhms, Cond.selects RX0 yX0_findOhms yX0_findOhms]
def wsX9_reading_r2 : List Cond := [Cond.code yX0_findOhms cX0_findOhms 5 none, Cond.fieldLink RX0 31 "LadderBench$State" "network" "LLadderBench$Network;", Cond.fieldLink RX0 37 "LadderBench$Network" "size" "I", Cond.fieldLink RX0 11 "LadderBench$Circuit" "ohms" "[LLadderBench$Fraction;", Cond.fieldLink RX0 21 "LadderBench$Circuit" "sum" "LLadderBench$Fraction;", Cond.fieldLink RX0 62 "LadderBench$State" "meter" "I", Cond.methodLink RX0 43 yX5_isKind, Cond.instanceMethod yX5_isKind, Cond.selects RX5 yX5_isKind yX5_isKind, Cond.code yX5_isKind cX5_isKind 3 (some .boolean), Cond.fieldLink RX5 9 "LadderBench$Network" "kind" "[I", Cond.methodLink RX5 37 yX5_hasPart, Cond.methodLink RX0 47 yX0_putArm, Cond.instanceMethod yX0_putArm, Cond.selects RX0 yX0_putArm yX0_putArm, Cond.code yX0_putArm cX0_putArm 4 none, Cond.fieldLink RX0 69 "LadderBench$Network" "letter" "[I", Cond.fieldLink RX0 73 "LadderBench$State" "armState" "[I", Cond.fieldLink RX0 76 "LadderBench$State" "armValue" "[I", Cond.methodLink RX0 79 yX2_put, Cond.instanceMethod yX2_put, Cond.selects RX2 yX2_put yX2_put, Cond.initialized RX2, Cond.code yX2_put cX2_put 7 none]
def wsX9_reading_r3 : List Cond := [Cond.fieldLink RX2 9 "LadderBench$Fraction" "upper" "J", Cond.fieldLink RX2 15 "LadderBench$Fraction" "lower" "J", Cond.methodLink RX2 18 yX2_commonDivisor, Cond.static yX2_commonDivisor, Cond.code yX2_commonDivisor cX2_commonDivisor 11 (some .long), Cond.methodLink RX0 51 yX0_addUp, Cond.instanceMethod yX0_addUp, Cond.selects RX0 yX0_addUp yX0_addUp, Cond.code yX0_addUp cX0_addUp 5 none, Cond.fieldLink RX0 83 "LadderBench$Network" "around" "[I", Cond.fieldLink RX0 25 "LadderBench$Circuit" "share" "LLadderBench$Fraction;", Cond.methodLink RX0 55 yX2_copy, Cond.instanceMethod yX2_copy, Cond.selects RX2 yX2_copy yX2_copy, Cond.code yX2_copy cX2_copy 2 none, Cond.methodLink RX0 59 yX2_invert, Cond.instanceMethod yX2_invert, Cond.selects RX2 yX2_invert yX2_invert, Cond.code yX2_invert cX2_invert 3 none, Cond.methodLink RX0 86 yX2_add, Cond.instanceMethod yX2_add, Cond.selects RX2 yX2_add yX2_add, Cond.code yX2_add cX2_add 9 none, Cond.methodLink RX2 22 yX2_put]
def wsX9_reading_r4 : List Cond := [Cond.methodLink RX0 65 yX0_addMeter, Cond.instanceMethod yX0_addMeter, Cond.selects RX0 yX0_addMeter yX0_addMeter, Cond.code yX0_addMeter cX0_addMeter 3 none, Cond.methodLink RX0 92 yX0_findVolts, Cond.instanceMethod yX0_findVolts, Cond.selects RX0 yX0_findVolts yX0_findVolts, Cond.code yX0_findVolts cX0_findVolts 6 none, Cond.fieldLink RX0 99 "LadderBench$State" "source" "I", Cond.methodLink RX0 95 yX5_hasPart, Cond.methodLink RX0 102 yX0_divideVolts, Cond.instanceMethod yX0_divideVolts, Cond.selects RX0 yX0_divideVolts yX0_divideVolts, Cond.code yX0_divideVolts cX0_divideVolts 5 none, Cond.methodLink RX0 116 Lib.Math.max.name, Cond.static Lib.Math.max.name, Cond.initialized "java/lang/Math", Cond.code Lib.Math.max.name Lib.Math.max.code 2 (some .int), Cond.methodLink RX0 105 yX2_isInfinite, Cond.instanceMethod yX2_isInfinite, Cond.selects RX2 yX2_isInfinite yX2_isInfinite, Cond.code yX2_isInfinite cX2_isInfinite 1 (some .boolean), Cond.methodLink RX0 109 yX2_isZero, Cond.instanceMethod yX2_isZero]
def wsX9_reading_r5 : List Cond := [Cond.selects RX2 yX2_isZero yX2_isZero, Cond.code yX2_isZero cX2_isZero 1 (some .boolean), Cond.methodLink RX0 112 yX0_countInfinite, Cond.instanceMethod yX0_countInfinite, Cond.selects RX0 yX0_countInfinite yX0_countInfinite, Cond.code yX0_countInfinite cX0_countInfinite 5 (some .int), Cond.methodLink RX0 122 yX2_multiply, Cond.instanceMethod yX2_multiply, Cond.selects RX2 yX2_multiply yX2_multiply, Cond.code yX2_multiply cX2_multiply 8 none, Cond.methodLink RX9 224 yX2_half, Cond.instanceMethod yX2_half, Cond.selects RX2 yX2_half yX2_half, Cond.code yX2_half cX2_half 2 (some .long)]
def wsX9_reading : List Cond := .code yX9_reading cX9_reading 3 (some .long) :: ((wsX9_reading_r1 ++ (wsX9_reading_r2 ++ (wsX9_reading_r3 ++ (wsX9_reading_r4 ++ wsX9_reading_r5)))) ++ wsX90 ++ wsX80 ++ wsX50 ++ wsX00 ++ wsX20)
def wsX9_loss_r1 : List Cond := [Cond.fieldLink RX9 19 "LadderBench" "now" "LLadderBench$State;", Cond.fieldLink RX9 84 "LadderBench$State" "network" "LLadderBench$Network;", Cond.fieldLink RX9 53 "LadderBench" "circuit" "LLadderBench$Circuit;", Cond.methodLink RX9 121 yX5_hasPart, Cond.instanceMethod yX5_hasPart, Cond.selects RX5 yX5_hasPart yX5_hasPart, Cond.initialized RX5, Cond.code yX5_hasPart cX5_hasPart 2 (some .boolean), Cond.fieldLink RX5 24 "LadderBench$Network" "size" "I", Cond.methodLink RX9 233 yX0_findLoss, Cond.instanceMethod yX0_findLoss, Cond.selects RX0 yX0_findLoss yX0_findLoss, Cond.initialized RX0, Cond.code yX0_findLoss cX0_findLoss 3 (some .int), Cond.fieldLink RX0 28 "LadderBench$Circuit" "unloaded" "LLadderBench$Fraction;", Cond.fieldLink RX0 17 "LadderBench$Circuit" "volts" "[LLadderBench$Fraction;", Cond.fieldLink RX0 25 "LadderBench$Circuit" "share" "LLadderBench$Fraction;", Cond.fieldLink RX0 125 "LadderBench$Fraction" "lower" "J", Cond.constantLong RX0 129 (1000), Cond.fieldLink RX0 131 "LadderBench$Fraction" "upper" "J", Cond.methodLink RX0 89 yX0_findOhms, Cond.instanceMethod yX0_findOhms, Cond.selects RX0 yX0_findOhms yX0_findOhms, Cond.code yX0_findOhms cX0_findOhms 5 none]
def wsX9_loss_r2 : List Cond := [Cond.fieldLink RX0 31 "LadderBench$State" "network" "LLadderBench$Network;", Cond.fieldLink RX0 37 "LadderBench$Network" "size" "I", Cond.fieldLink RX0 11 "LadderBench$Circuit" "ohms" "[LLadderBench$Fraction;", Cond.fieldLink RX0 21 "LadderBench$Circuit" "sum" "LLadderBench$Fraction;", Cond.fieldLink RX0 62 "LadderBench$State" "meter" "I", Cond.methodLink RX0 43 yX5_isKind, Cond.instanceMethod yX5_isKind, Cond.selects RX5 yX5_isKind yX5_isKind, Cond.code yX5_isKind cX5_isKind 3 (some .boolean), Cond.fieldLink RX5 9 "LadderBench$Network" "kind" "[I", Cond.methodLink RX5 37 yX5_hasPart, Cond.methodLink RX0 47 yX0_putArm, Cond.instanceMethod yX0_putArm, Cond.selects RX0 yX0_putArm yX0_putArm, Cond.code yX0_putArm cX0_putArm 4 none, Cond.fieldLink RX0 69 "LadderBench$Network" "letter" "[I", Cond.fieldLink RX0 73 "LadderBench$State" "armState" "[I", Cond.fieldLink RX0 76 "LadderBench$State" "armValue" "[I", Cond.methodLink RX0 79 yX2_put, Cond.instanceMethod yX2_put, Cond.selects RX2 yX2_put yX2_put, Cond.initialized RX2, Cond.code yX2_put cX2_put 7 none, Cond.fieldLink RX2 9 "LadderBench$Fraction" "upper" "J"]
def wsX9_loss_r3 : List Cond := [Cond.fieldLink RX2 15 "LadderBench$Fraction" "lower" "J", Cond.methodLink RX2 18 yX2_commonDivisor, Cond.static yX2_commonDivisor, Cond.code yX2_commonDivisor cX2_commonDivisor 11 (some .long), Cond.methodLink RX0 51 yX0_addUp, Cond.instanceMethod yX0_addUp, Cond.selects RX0 yX0_addUp yX0_addUp, Cond.code yX0_addUp cX0_addUp 5 none, Cond.fieldLink RX0 83 "LadderBench$Network" "around" "[I", Cond.methodLink RX0 55 yX2_copy, Cond.instanceMethod yX2_copy, Cond.selects RX2 yX2_copy yX2_copy, Cond.code yX2_copy cX2_copy 2 none, Cond.methodLink RX0 59 yX2_invert, Cond.instanceMethod yX2_invert, Cond.selects RX2 yX2_invert yX2_invert, Cond.code yX2_invert cX2_invert 3 none, Cond.methodLink RX0 86 yX2_add, Cond.instanceMethod yX2_add, Cond.selects RX2 yX2_add yX2_add, Cond.code yX2_add cX2_add 9 none, Cond.methodLink RX2 22 yX2_put, Cond.methodLink RX0 65 yX0_addMeter, Cond.instanceMethod yX0_addMeter]
def wsX9_loss_r4 : List Cond := [Cond.selects RX0 yX0_addMeter yX0_addMeter, Cond.code yX0_addMeter cX0_addMeter 3 none, Cond.methodLink RX0 92 yX0_findVolts, Cond.instanceMethod yX0_findVolts, Cond.selects RX0 yX0_findVolts yX0_findVolts, Cond.code yX0_findVolts cX0_findVolts 6 none, Cond.fieldLink RX0 99 "LadderBench$State" "source" "I", Cond.methodLink RX0 95 yX5_hasPart, Cond.methodLink RX0 102 yX0_divideVolts, Cond.instanceMethod yX0_divideVolts, Cond.selects RX0 yX0_divideVolts yX0_divideVolts, Cond.code yX0_divideVolts cX0_divideVolts 5 none, Cond.methodLink RX0 116 Lib.Math.max.name, Cond.static Lib.Math.max.name, Cond.initialized "java/lang/Math", Cond.code Lib.Math.max.name Lib.Math.max.code 2 (some .int), Cond.methodLink RX0 105 yX2_isInfinite, Cond.instanceMethod yX2_isInfinite, Cond.selects RX2 yX2_isInfinite yX2_isInfinite, Cond.code yX2_isInfinite cX2_isInfinite 1 (some .boolean), Cond.methodLink RX0 109 yX2_isZero, Cond.instanceMethod yX2_isZero, Cond.selects RX2 yX2_isZero yX2_isZero, Cond.code yX2_isZero cX2_isZero 1 (some .boolean)]
def wsX9_loss_r5 : List Cond := [Cond.methodLink RX0 112 yX0_countInfinite, Cond.instanceMethod yX0_countInfinite, Cond.selects RX0 yX0_countInfinite yX0_countInfinite, Cond.code yX0_countInfinite cX0_countInfinite 5 (some .int), Cond.methodLink RX0 122 yX2_multiply, Cond.instanceMethod yX2_multiply, Cond.selects RX2 yX2_multiply yX2_multiply, Cond.code yX2_multiply cX2_multiply 8 none, Cond.methodLink RX0 134 yJ9_floorDiv_f86c9, Cond.static yJ9_floorDiv_f86c9, Cond.initialized RJ9, Cond.code yJ9_floorDiv_f86c9 cJ9_floorDiv_f86c9 6 (some .long)]
def wsX9_loss : List Cond := .code yX9_loss cX9_loss 2 (some .int) :: ((wsX9_loss_r1 ++ (wsX9_loss_r2 ++ (wsX9_loss_r3 ++ (wsX9_loss_r4 ++ wsX9_loss_r5)))) ++ wsX90 ++ wsX80 ++ wsX50 ++ wsX00 ++ wsX20)
def wsX9_noted : List Cond := .code yX9_noted cX9_noted 3 (some .long) :: ([.constantLong RX9 214 (-2), .fieldLink RX9 19 "LadderBench" "now" "LLadderBench$State;", .fieldLink RX9 155 "LadderBench$State" "notes" "LLadderBench$Notes;", .fieldLink RX9 165 "LadderBench$Notes" "size" "I", .constantLong RX9 228 (-4), .fieldLink RX9 237 "LadderBench$Notes" "times" "[I", .fieldLink RX9 240 "LadderBench$Notes" "upper" "[J", .fieldLink RX9 244 "LadderBench$Notes" "lower" "[J"] ++ wsX90 ++ wsX80 ++ wsX70)
def wsX9_solve_r1 : List Cond := [Cond.fieldLink RX9 19 "LadderBench" "now" "LLadderBench$State;", Cond.fieldLink RX9 84 "LadderBench$State" "network" "LLadderBench$Network;", Cond.constantLong RX9 209 (-1), Cond.constantLong RX9 214 (-2), Cond.fieldLink RX9 60 "LadderBench" "wanted" "LLadderBench$Fraction;", Cond.fieldLink RX9 53 "LadderBench" "circuit" "LLadderBench$Circuit;", Cond.fieldLink RX9 206 "LadderBench$Network" "partOfArm" "[I", Cond.constantLong RX9 228 (-4), Cond.methodLink RX9 197 yX9_indexOfLetter, Cond.static yX9_indexOfLetter, Cond.initialized RX9, Cond.code yX9_indexOfLetter cX9_indexOfLetter 1 (some .int), Cond.methodLink RX9 110 yX5_hasArm, Cond.instanceMethod yX5_hasArm, Cond.selects RX5 yX5_hasArm yX5_hasArm, Cond.initialized RX5, Cond.code yX5_hasArm cX5_hasArm 2 (some .boolean), Cond.fieldLink RX5 21 "LadderBench$Network" "partOfArm" "[I", Cond.methodLink RX9 247 yX2_put, Cond.instanceMethod yX2_put, Cond.selects RX2 yX2_put yX2_put, Cond.initialized RX2, Cond.code yX2_put cX2_put 7 none, Cond.fieldLink RX2 9 "LadderBench$Fraction" "upper" "J"]
def wsX9_solve_r2 : List Cond := [Cond.fieldLink RX2 15 "LadderBench$Fraction" "lower" "J", Cond.methodLink RX2 18 yX2_commonDivisor, Cond.static yX2_commonDivisor, Cond.code yX2_commonDivisor cX2_commonDivisor 11 (some .long), Cond.methodLink RX9 250 yX0_solveFor, Cond.instanceMethod yX0_solveFor, Cond.selects RX0 yX0_solveFor yX0_solveFor, Cond.initialized RX0, Cond.code yX0_solveFor cX0_solveFor 8 (some .int), Cond.fieldLink RX0 31 "LadderBench$State" "network" "LLadderBench$Network;", Cond.fieldLink RX0 37 "LadderBench$Network" "size" "I", Cond.fieldLink RX0 83 "LadderBench$Network" "around" "[I", Cond.fieldLink RX0 21 "LadderBench$Circuit" "sum" "LLadderBench$Fraction;", Cond.fieldLink RX0 11 "LadderBench$Circuit" "ohms" "[LLadderBench$Fraction;", Cond.methodLink RX0 89 yX0_findOhms, Cond.instanceMethod yX0_findOhms, Cond.selects RX0 yX0_findOhms yX0_findOhms, Cond.code yX0_findOhms cX0_findOhms 5 none, Cond.fieldLink RX0 62 "LadderBench$State" "meter" "I", Cond.methodLink RX0 43 yX5_isKind, Cond.instanceMethod yX5_isKind, Cond.selects RX5 yX5_isKind yX5_isKind, Cond.code yX5_isKind cX5_isKind 3 (some .boolean), Cond.fieldLink RX5 9 "LadderBench$Network" "kind" "[I"]
def wsX9_solve_r3 : List Cond := [Cond.methodLink RX5 37 yX5_hasPart, Cond.instanceMethod yX5_hasPart, Cond.selects RX5 yX5_hasPart yX5_hasPart, Cond.code yX5_hasPart cX5_hasPart 2 (some .boolean), Cond.fieldLink RX5 24 "LadderBench$Network" "size" "I", Cond.methodLink RX0 47 yX0_putArm, Cond.instanceMethod yX0_putArm, Cond.selects RX0 yX0_putArm yX0_putArm, Cond.code yX0_putArm cX0_putArm 4 none, Cond.fieldLink RX0 69 "LadderBench$Network" "letter" "[I", Cond.fieldLink RX0 73 "LadderBench$State" "armState" "[I", Cond.fieldLink RX0 76 "LadderBench$State" "armValue" "[I", Cond.methodLink RX0 79 yX2_put, Cond.methodLink RX0 51 yX0_addUp, Cond.instanceMethod yX0_addUp, Cond.selects RX0 yX0_addUp yX0_addUp, Cond.code yX0_addUp cX0_addUp 5 none, Cond.fieldLink RX0 25 "LadderBench$Circuit" "share" "LLadderBench$Fraction;", Cond.methodLink RX0 55 yX2_copy, Cond.instanceMethod yX2_copy, Cond.selects RX2 yX2_copy yX2_copy, Cond.code yX2_copy cX2_copy 2 none, Cond.methodLink RX0 59 yX2_invert, Cond.instanceMethod yX2_invert]
def wsX9_solve_r4 : List Cond := [Cond.selects RX2 yX2_invert yX2_invert, Cond.code yX2_invert cX2_invert 3 none, Cond.methodLink RX0 86 yX2_add, Cond.instanceMethod yX2_add, Cond.selects RX2 yX2_add yX2_add, Cond.code yX2_add cX2_add 9 none, Cond.methodLink RX2 22 yX2_put, Cond.methodLink RX0 65 yX0_addMeter, Cond.instanceMethod yX0_addMeter, Cond.selects RX0 yX0_addMeter yX0_addMeter, Cond.code yX0_addMeter cX0_addMeter 3 none, Cond.methodLink RX0 138 yX5_findWayUp, Cond.instanceMethod yX5_findWayUp, Cond.selects RX5 yX5_findWayUp yX5_findWayUp, Cond.code yX5_findWayUp cX5_findWayUp 5 (some .int), Cond.fieldLink RX5 15 "LadderBench$Network" "around" "[I", Cond.methodLink RX0 105 yX2_isInfinite, Cond.instanceMethod yX2_isInfinite, Cond.selects RX2 yX2_isInfinite yX2_isInfinite, Cond.code yX2_isInfinite cX2_isInfinite 1 (some .boolean), Cond.methodLink RX0 142 yX2_isSame, Cond.instanceMethod yX2_isSame, Cond.selects RX2 yX2_isSame yX2_isSame, Cond.code yX2_isSame cX2_isSame 2 (some .boolean)]
def wsX9_solve_r5 : List Cond := [Cond.methodLink RX0 146 yX0_takeOthersOff, Cond.instanceMethod yX0_takeOthersOff, Cond.selects RX0 yX0_takeOthersOff yX0_takeOthersOff, Cond.code yX0_takeOthersOff cX0_takeOthersOff 6 (some .boolean), Cond.fieldLink RX0 131 "LadderBench$Fraction" "upper" "J", Cond.methodLink RX9 224 yX2_half, Cond.instanceMethod yX2_half, Cond.selects RX2 yX2_half yX2_half, Cond.code yX2_half cX2_half 2 (some .long)]
def wsX9_solve : List Cond := .code yX9_solve cX9_solve 7 (some .long) :: ((wsX9_solve_r1 ++ (wsX9_solve_r2 ++ (wsX9_solve_r3 ++ (wsX9_solve_r4 ++ wsX9_solve_r5)))) ++ wsX90 ++ wsX80 ++ wsX50 ++ wsX20 ++ wsX00)
def wsX9_couldBe_r1 : List Cond := [Cond.fieldLink RX9 19 "LadderBench" "now" "LLadderBench$State;", Cond.fieldLink RX9 84 "LadderBench$State" "network" "LLadderBench$Network;", Cond.fieldLink RX9 203 "LadderBench$State" "armState" "[I", Cond.fieldLink RX9 26 "LadderBench" "trial" "LLadderBench$State;", Cond.fieldLink RX9 53 "LadderBench" "circuit" "LLadderBench$Circuit;", Cond.fieldLink RX9 220 "LadderBench$Circuit" "ohms" "[LLadderBench$Fraction;", Cond.fieldLink RX9 95 "LadderBench$Network" "size" "I", Cond.fieldLink RX9 60 "LadderBench" "wanted" "LLadderBench$Fraction;", Cond.methodLink RX9 110 yX5_hasArm, Cond.instanceMethod yX5_hasArm, Cond.selects RX5 yX5_hasArm yX5_hasArm, Cond.initialized RX5, Cond.code yX5_hasArm cX5_hasArm 2 (some .boolean), Cond.fieldLink RX5 21 "LadderBench$Network" "partOfArm" "[I", Cond.methodLink RX9 174 yX8_copy, Cond.instanceMethod yX8_copy, Cond.selects RX8 yX8_copy yX8_copy, Cond.initialized RX8, Cond.code yX8_copy cX8_copy 3 none, Cond.fieldLink RX8 12 "LadderBench$State" "network" "LLadderBench$Network;", Cond.fieldLink RX8 21 "LadderBench$State" "notes" "LLadderBench$Notes;", Cond.fieldLink RX8 25 "LadderBench$State" "armValue" "[I", Cond.fieldLink RX8 29 "LadderBench$State" "armState" "[I", Cond.fieldLink RX8 32 "LadderBench$State" "isFolded" "[Z"]
def wsX9_couldBe_r2 : List Cond := [Cond.fieldLink RX8 36 "LadderBench$State" "source" "I", Cond.fieldLink RX8 40 "LadderBench$State" "meter" "I", Cond.fieldLink RX8 43 "LadderBench$State" "folds" "I", Cond.methodLink RX8 46 yX5_copy, Cond.instanceMethod yX5_copy, Cond.selects RX5 yX5_copy yX5_copy, Cond.code yX5_copy cX5_copy 3 none, Cond.fieldLink RX5 9 "LadderBench$Network" "kind" "[I", Cond.fieldLink RX5 15 "LadderBench$Network" "around" "[I", Cond.fieldLink RX5 18 "LadderBench$Network" "letter" "[I", Cond.fieldLink RX5 24 "LadderBench$Network" "size" "I", Cond.methodLink RX8 50 yX7_copy, Cond.instanceMethod yX7_copy, Cond.selects RX7 yX7_copy yX7_copy, Cond.initialized RX7, Cond.code yX7_copy cX7_copy 3 none, Cond.fieldLink RX7 9 "LadderBench$Notes" "upper" "[J", Cond.fieldLink RX7 15 "LadderBench$Notes" "lower" "[J", Cond.fieldLink RX7 18 "LadderBench$Notes" "times" "[I", Cond.fieldLink RX7 22 "LadderBench$Notes" "size" "I", Cond.methodLink RX9 216 yX0_findOhms, Cond.instanceMethod yX0_findOhms, Cond.selects RX0 yX0_findOhms yX0_findOhms, Cond.initialized RX0]
def wsX9_couldBe_r3 : List Cond := [Cond.code yX0_findOhms cX0_findOhms 5 none, Cond.fieldLink RX0 31 "LadderBench$State" "network" "LLadderBench$Network;", Cond.fieldLink RX0 37 "LadderBench$Network" "size" "I", Cond.fieldLink RX0 11 "LadderBench$Circuit" "ohms" "[LLadderBench$Fraction;", Cond.fieldLink RX0 21 "LadderBench$Circuit" "sum" "LLadderBench$Fraction;", Cond.fieldLink RX0 62 "LadderBench$State" "meter" "I", Cond.methodLink RX0 43 yX5_isKind, Cond.instanceMethod yX5_isKind, Cond.selects RX5 yX5_isKind yX5_isKind, Cond.code yX5_isKind cX5_isKind 3 (some .boolean), Cond.methodLink RX5 37 yX5_hasPart, Cond.instanceMethod yX5_hasPart, Cond.selects RX5 yX5_hasPart yX5_hasPart, Cond.code yX5_hasPart cX5_hasPart 2 (some .boolean), Cond.methodLink RX0 47 yX0_putArm, Cond.instanceMethod yX0_putArm, Cond.selects RX0 yX0_putArm yX0_putArm, Cond.code yX0_putArm cX0_putArm 4 none, Cond.fieldLink RX0 69 "LadderBench$Network" "letter" "[I", Cond.fieldLink RX0 73 "LadderBench$State" "armState" "[I", Cond.fieldLink RX0 76 "LadderBench$State" "armValue" "[I", Cond.methodLink RX0 79 yX2_put, Cond.instanceMethod yX2_put, Cond.selects RX2 yX2_put yX2_put]
def wsX9_couldBe_r4 : List Cond := [Cond.initialized RX2, Cond.code yX2_put cX2_put 7 none, Cond.fieldLink RX2 9 "LadderBench$Fraction" "upper" "J", Cond.fieldLink RX2 15 "LadderBench$Fraction" "lower" "J", Cond.methodLink RX2 18 yX2_commonDivisor, Cond.static yX2_commonDivisor, Cond.code yX2_commonDivisor cX2_commonDivisor 11 (some .long), Cond.methodLink RX0 51 yX0_addUp, Cond.instanceMethod yX0_addUp, Cond.selects RX0 yX0_addUp yX0_addUp, Cond.code yX0_addUp cX0_addUp 5 none, Cond.fieldLink RX0 83 "LadderBench$Network" "around" "[I", Cond.fieldLink RX0 25 "LadderBench$Circuit" "share" "LLadderBench$Fraction;", Cond.methodLink RX0 55 yX2_copy, Cond.instanceMethod yX2_copy, Cond.selects RX2 yX2_copy yX2_copy, Cond.code yX2_copy cX2_copy 2 none, Cond.methodLink RX0 59 yX2_invert, Cond.instanceMethod yX2_invert, Cond.selects RX2 yX2_invert yX2_invert, Cond.code yX2_invert cX2_invert 3 none, Cond.methodLink RX0 86 yX2_add, Cond.instanceMethod yX2_add, Cond.selects RX2 yX2_add yX2_add]
def wsX9_couldBe_r5 : List Cond := [Cond.code yX2_add cX2_add 9 none, Cond.methodLink RX2 22 yX2_put, Cond.methodLink RX0 65 yX0_addMeter, Cond.instanceMethod yX0_addMeter, Cond.selects RX0 yX0_addMeter yX0_addMeter, Cond.code yX0_addMeter cX0_addMeter 3 none, Cond.methodLink RX9 276 yX2_isSame, Cond.instanceMethod yX2_isSame, Cond.selects RX2 yX2_isSame yX2_isSame, Cond.code yX2_isSame cX2_isSame 2 (some .boolean)]
def wsX9_couldBe : List Cond := .code yX9_couldBe cX9_couldBe 3 (some .boolean) :: ((wsX9_couldBe_r1 ++ (wsX9_couldBe_r2 ++ (wsX9_couldBe_r3 ++ (wsX9_couldBe_r4 ++ wsX9_couldBe_r5)))) ++ wsX90 ++ wsX80 ++ wsX00 ++ wsX50 ++ wsX70 ++ wsX20)
def wsX9_fault_r1 : List Cond := [Cond.fieldLink RX9 19 "LadderBench" "now" "LLadderBench$State;", Cond.fieldLink RX9 84 "LadderBench$State" "network" "LLadderBench$Network;", Cond.fieldLink RX9 95 "LadderBench$Network" "size" "I", Cond.fieldLink RX9 60 "LadderBench" "wanted" "LLadderBench$Fraction;", Cond.methodLink RX9 247 yX2_put, Cond.instanceMethod yX2_put, Cond.selects RX2 yX2_put yX2_put, Cond.initialized RX2, Cond.code yX2_put cX2_put 7 none, Cond.fieldLink RX2 9 "LadderBench$Fraction" "upper" "J", Cond.fieldLink RX2 15 "LadderBench$Fraction" "lower" "J", Cond.methodLink RX2 18 yX2_commonDivisor, Cond.static yX2_commonDivisor, Cond.code yX2_commonDivisor cX2_commonDivisor 11 (some .long), Cond.methodLink RX9 254 yX9_couldBe, Cond.instanceMethod yX9_couldBe, Cond.selects RX9 yX9_couldBe yX9_couldBe, Cond.initialized RX9, Cond.code yX9_couldBe cX9_couldBe 3 (some .boolean), Cond.fieldLink RX9 203 "LadderBench$State" "armState" "[I", Cond.fieldLink RX9 26 "LadderBench" "trial" "LLadderBench$State;", Cond.fieldLink RX9 53 "LadderBench" "circuit" "LLadderBench$Circuit;", Cond.fieldLink RX9 220 "LadderBench$Circuit" "ohms" "[LLadderBench$Fraction;", Cond.methodLink RX9 110 yX5_hasArm]
def wsX9_fault_r2 : List Cond := [Cond.instanceMethod yX5_hasArm, Cond.selects RX5 yX5_hasArm yX5_hasArm, Cond.initialized RX5, Cond.code yX5_hasArm cX5_hasArm 2 (some .boolean), Cond.fieldLink RX5 21 "LadderBench$Network" "partOfArm" "[I", Cond.methodLink RX9 174 yX8_copy, Cond.instanceMethod yX8_copy, Cond.selects RX8 yX8_copy yX8_copy, Cond.initialized RX8, Cond.code yX8_copy cX8_copy 3 none, Cond.fieldLink RX8 12 "LadderBench$State" "network" "LLadderBench$Network;", Cond.fieldLink RX8 21 "LadderBench$State" "notes" "LLadderBench$Notes;", Cond.fieldLink RX8 25 "LadderBench$State" "armValue" "[I", Cond.fieldLink RX8 29 "LadderBench$State" "armState" "[I", Cond.fieldLink RX8 32 "LadderBench$State" "isFolded" "[Z", Cond.fieldLink RX8 36 "LadderBench$State" "source" "I", Cond.fieldLink RX8 40 "LadderBench$State" "meter" "I", Cond.fieldLink RX8 43 "LadderBench$State" "folds" "I", Cond.methodLink RX8 46 yX5_copy, Cond.instanceMethod yX5_copy, Cond.selects RX5 yX5_copy yX5_copy, Cond.code yX5_copy cX5_copy 3 none, Cond.fieldLink RX5 9 "LadderBench$Network" "kind" "[I", Cond.fieldLink RX5 15 "LadderBench$Network" "around" "[I"]
def wsX9_fault_r3 : List Cond := [Cond.fieldLink RX5 18 "LadderBench$Network" "letter" "[I", Cond.fieldLink RX5 24 "LadderBench$Network" "size" "I", Cond.methodLink RX8 50 yX7_copy, Cond.instanceMethod yX7_copy, Cond.selects RX7 yX7_copy yX7_copy, Cond.initialized RX7, Cond.code yX7_copy cX7_copy 3 none, Cond.fieldLink RX7 9 "LadderBench$Notes" "upper" "[J", Cond.fieldLink RX7 15 "LadderBench$Notes" "lower" "[J", Cond.fieldLink RX7 18 "LadderBench$Notes" "times" "[I", Cond.fieldLink RX7 22 "LadderBench$Notes" "size" "I", Cond.methodLink RX9 216 yX0_findOhms, Cond.instanceMethod yX0_findOhms, Cond.selects RX0 yX0_findOhms yX0_findOhms, Cond.initialized RX0, Cond.code yX0_findOhms cX0_findOhms 5 none, Cond.fieldLink RX0 31 "LadderBench$State" "network" "LLadderBench$Network;", Cond.fieldLink RX0 37 "LadderBench$Network" "size" "I", Cond.fieldLink RX0 11 "LadderBench$Circuit" "ohms" "[LLadderBench$Fraction;", Cond.fieldLink RX0 21 "LadderBench$Circuit" "sum" "LLadderBench$Fraction;", Cond.fieldLink RX0 62 "LadderBench$State" "meter" "I", Cond.methodLink RX0 43 yX5_isKind, Cond.instanceMethod yX5_isKind, Cond.selects RX5 yX5_isKind yX5_isKind]
def wsX9_fault_r4 : List Cond := [Cond.code yX5_isKind cX5_isKind 3 (some .boolean), Cond.methodLink RX5 37 yX5_hasPart, Cond.instanceMethod yX5_hasPart, Cond.selects RX5 yX5_hasPart yX5_hasPart, Cond.code yX5_hasPart cX5_hasPart 2 (some .boolean), Cond.methodLink RX0 47 yX0_putArm, Cond.instanceMethod yX0_putArm, Cond.selects RX0 yX0_putArm yX0_putArm, Cond.code yX0_putArm cX0_putArm 4 none, Cond.fieldLink RX0 69 "LadderBench$Network" "letter" "[I", Cond.fieldLink RX0 73 "LadderBench$State" "armState" "[I", Cond.fieldLink RX0 76 "LadderBench$State" "armValue" "[I", Cond.methodLink RX0 79 yX2_put, Cond.methodLink RX0 51 yX0_addUp, Cond.instanceMethod yX0_addUp, Cond.selects RX0 yX0_addUp yX0_addUp, Cond.code yX0_addUp cX0_addUp 5 none, Cond.fieldLink RX0 83 "LadderBench$Network" "around" "[I", Cond.fieldLink RX0 25 "LadderBench$Circuit" "share" "LLadderBench$Fraction;", Cond.methodLink RX0 55 yX2_copy, Cond.instanceMethod yX2_copy, Cond.selects RX2 yX2_copy yX2_copy, Cond.code yX2_copy cX2_copy 2 none, Cond.methodLink RX0 59 yX2_invert]
def wsX9_fault_r5 : List Cond := [Cond.instanceMethod yX2_invert, Cond.selects RX2 yX2_invert yX2_invert, Cond.code yX2_invert cX2_invert 3 none, Cond.methodLink RX0 86 yX2_add, Cond.instanceMethod yX2_add, Cond.selects RX2 yX2_add yX2_add, Cond.code yX2_add cX2_add 9 none, Cond.methodLink RX2 22 yX2_put, Cond.methodLink RX0 65 yX0_addMeter, Cond.instanceMethod yX0_addMeter, Cond.selects RX0 yX0_addMeter yX0_addMeter, Cond.code yX0_addMeter cX0_addMeter 3 none, Cond.methodLink RX9 276 yX2_isSame, Cond.instanceMethod yX2_isSame, Cond.selects RX2 yX2_isSame yX2_isSame, Cond.code yX2_isSame cX2_isSame 2 (some .boolean)]
def wsX9_fault : List Cond := .code yX9_fault cX9_fault 7 (some .int) :: ((wsX9_fault_r1 ++ (wsX9_fault_r2 ++ (wsX9_fault_r3 ++ (wsX9_fault_r4 ++ wsX9_fault_r5)))) ++ wsX90 ++ wsX80 ++ wsX50 ++ wsX20 ++ wsX00 ++ wsX70)
def wsX9_worst_r1 : List Cond := [Cond.fieldLink RX9 19 "LadderBench" "now" "LLadderBench$State;", Cond.fieldLink RX9 84 "LadderBench$State" "network" "LLadderBench$Network;", Cond.fieldLink RX9 95 "LadderBench$Network" "size" "I", Cond.fieldLink RX9 53 "LadderBench" "circuit" "LLadderBench$Circuit;", Cond.methodLink RX9 233 yX0_findLoss, Cond.instanceMethod yX0_findLoss, Cond.selects RX0 yX0_findLoss yX0_findLoss, Cond.initialized RX0, Cond.code yX0_findLoss cX0_findLoss 3 (some .int), Cond.fieldLink RX0 28 "LadderBench$Circuit" "unloaded" "LLadderBench$Fraction;", Cond.fieldLink RX0 17 "LadderBench$Circuit" "volts" "[LLadderBench$Fraction;", Cond.fieldLink RX0 25 "LadderBench$Circuit" "share" "LLadderBench$Fraction;", Cond.fieldLink RX0 125 "LadderBench$Fraction" "lower" "J", Cond.constantLong RX0 129 (1000), Cond.fieldLink RX0 131 "LadderBench$Fraction" "upper" "J", Cond.methodLink RX0 89 yX0_findOhms, Cond.instanceMethod yX0_findOhms, Cond.selects RX0 yX0_findOhms yX0_findOhms, Cond.code yX0_findOhms cX0_findOhms 5 none, Cond.fieldLink RX0 31 "LadderBench$State" "network" "LLadderBench$Network;", Cond.fieldLink RX0 37 "LadderBench$Network" "size" "I", Cond.fieldLink RX0 11 "LadderBench$Circuit" "ohms" "[LLadderBench$Fraction;", Cond.fieldLink RX0 21 "LadderBench$Circuit" "sum" "LLadderBench$Fraction;", Cond.fieldLink RX0 62 "LadderBench$State" "meter" "I"]
def wsX9_worst_r2 : List Cond := [Cond.methodLink RX0 43 yX5_isKind, Cond.instanceMethod yX5_isKind, Cond.selects RX5 yX5_isKind yX5_isKind, Cond.initialized RX5, Cond.code yX5_isKind cX5_isKind 3 (some .boolean), Cond.fieldLink RX5 9 "LadderBench$Network" "kind" "[I", Cond.methodLink RX5 37 yX5_hasPart, Cond.instanceMethod yX5_hasPart, Cond.selects RX5 yX5_hasPart yX5_hasPart, Cond.code yX5_hasPart cX5_hasPart 2 (some .boolean), Cond.fieldLink RX5 24 "LadderBench$Network" "size" "I", Cond.methodLink RX0 47 yX0_putArm, Cond.instanceMethod yX0_putArm, Cond.selects RX0 yX0_putArm yX0_putArm, Cond.code yX0_putArm cX0_putArm 4 none, Cond.fieldLink RX0 69 "LadderBench$Network" "letter" "[I", Cond.fieldLink RX0 73 "LadderBench$State" "armState" "[I", Cond.fieldLink RX0 76 "LadderBench$State" "armValue" "[I", Cond.methodLink RX0 79 yX2_put, Cond.instanceMethod yX2_put, Cond.selects RX2 yX2_put yX2_put, Cond.initialized RX2, Cond.code yX2_put cX2_put 7 none, Cond.fieldLink RX2 9 "LadderBench$Fraction" "upper" "J"]
def wsX9_worst_r3 : List Cond := [Cond.fieldLink RX2 15 "LadderBench$Fraction" "lower" "J", Cond.methodLink RX2 18 yX2_commonDivisor, Cond.static yX2_commonDivisor, Cond.code yX2_commonDivisor cX2_commonDivisor 11 (some .long), Cond.methodLink RX0 51 yX0_addUp, Cond.instanceMethod yX0_addUp, Cond.selects RX0 yX0_addUp yX0_addUp, Cond.code yX0_addUp cX0_addUp 5 none, Cond.fieldLink RX0 83 "LadderBench$Network" "around" "[I", Cond.methodLink RX0 55 yX2_copy, Cond.instanceMethod yX2_copy, Cond.selects RX2 yX2_copy yX2_copy, Cond.code yX2_copy cX2_copy 2 none, Cond.methodLink RX0 59 yX2_invert, Cond.instanceMethod yX2_invert, Cond.selects RX2 yX2_invert yX2_invert, Cond.code yX2_invert cX2_invert 3 none, Cond.methodLink RX0 86 yX2_add, Cond.instanceMethod yX2_add, Cond.selects RX2 yX2_add yX2_add, Cond.code yX2_add cX2_add 9 none, Cond.methodLink RX2 22 yX2_put, Cond.methodLink RX0 65 yX0_addMeter, Cond.instanceMethod yX0_addMeter]
def wsX9_worst_r4 : List Cond := [Cond.selects RX0 yX0_addMeter yX0_addMeter, Cond.code yX0_addMeter cX0_addMeter 3 none, Cond.methodLink RX0 92 yX0_findVolts, Cond.instanceMethod yX0_findVolts, Cond.selects RX0 yX0_findVolts yX0_findVolts, Cond.code yX0_findVolts cX0_findVolts 6 none, Cond.fieldLink RX0 99 "LadderBench$State" "source" "I", Cond.methodLink RX0 95 yX5_hasPart, Cond.methodLink RX0 102 yX0_divideVolts, Cond.instanceMethod yX0_divideVolts, Cond.selects RX0 yX0_divideVolts yX0_divideVolts, Cond.code yX0_divideVolts cX0_divideVolts 5 none, Cond.methodLink RX0 116 Lib.Math.max.name, Cond.static Lib.Math.max.name, Cond.initialized "java/lang/Math", Cond.code Lib.Math.max.name Lib.Math.max.code 2 (some .int), Cond.methodLink RX0 105 yX2_isInfinite, Cond.instanceMethod yX2_isInfinite, Cond.selects RX2 yX2_isInfinite yX2_isInfinite, Cond.code yX2_isInfinite cX2_isInfinite 1 (some .boolean), Cond.methodLink RX0 109 yX2_isZero, Cond.instanceMethod yX2_isZero, Cond.selects RX2 yX2_isZero yX2_isZero, Cond.code yX2_isZero cX2_isZero 1 (some .boolean)]
def wsX9_worst_r5 : List Cond := [Cond.methodLink RX0 112 yX0_countInfinite, Cond.instanceMethod yX0_countInfinite, Cond.selects RX0 yX0_countInfinite yX0_countInfinite, Cond.code yX0_countInfinite cX0_countInfinite 5 (some .int), Cond.methodLink RX0 122 yX2_multiply, Cond.instanceMethod yX2_multiply, Cond.selects RX2 yX2_multiply yX2_multiply, Cond.code yX2_multiply cX2_multiply 8 none, Cond.methodLink RX0 134 yJ9_floorDiv_f86c9, Cond.static yJ9_floorDiv_f86c9, Cond.initialized RJ9, Cond.code yJ9_floorDiv_f86c9 cJ9_floorDiv_f86c9 6 (some .long)]
def wsX9_worst : List Cond := .code yX9_worst cX9_worst 5 (some .int) :: ((wsX9_worst_r1 ++ (wsX9_worst_r2 ++ (wsX9_worst_r3 ++ (wsX9_worst_r4 ++ wsX9_worst_r5)))) ++ wsX90 ++ wsX80 ++ wsX50 ++ wsX00 ++ wsX20)
def wsX9_count_r1 : List Cond := [Cond.fieldLink RX9 19 "LadderBench" "now" "LLadderBench$State;", Cond.fieldLink RX9 84 "LadderBench$State" "network" "LLadderBench$Network;", Cond.fieldLink RX9 95 "LadderBench$Network" "size" "I", Cond.fieldLink RX9 261 "LadderBench$State" "source" "I", Cond.fieldLink RX9 264 "LadderBench$State" "meter" "I", Cond.fieldLink RX9 155 "LadderBench$State" "notes" "LLadderBench$Notes;", Cond.fieldLink RX9 165 "LadderBench$Notes" "size" "I", Cond.fieldLink RX9 270 "LadderBench$State" "folds" "I", Cond.fieldLink RX9 32 "LadderBench" "history" "LLadderBench$History;", Cond.fieldLink RX9 170 "LadderBench$History" "size" "I", Cond.fieldLink RX9 10 "LadderBench" "text" "LLadderBench$Line;", Cond.fieldLink RX9 68 "LadderBench$Line" "length" "I", Cond.methodLink RX9 258 yX5_countKind, Cond.instanceMethod yX5_countKind, Cond.selects RX5 yX5_countKind yX5_countKind, Cond.initialized RX5, Cond.code yX5_countKind cX5_countKind 4 (some .int), Cond.fieldLink RX5 24 "LadderBench$Network" "size" "I", Cond.fieldLink RX5 9 "LadderBench$Network" "kind" "[I", Cond.methodLink RX9 135 yX8_countUnfolded, Cond.instanceMethod yX8_countUnfolded, Cond.selects RX8 yX8_countUnfolded yX8_countUnfolded, Cond.initialized RX8, Cond.code yX8_countUnfolded cX8_countUnfolded 3 (some .int)]
def wsX9_count_r2 : List Cond := [Cond.fieldLink RX8 12 "LadderBench$State" "network" "LLadderBench$Network;", Cond.fieldLink RX8 56 "LadderBench$Network" "size" "I", Cond.fieldLink RX8 32 "LadderBench$State" "isFolded" "[Z", Cond.methodLink RX9 267 yX7_countTimes, Cond.instanceMethod yX7_countTimes, Cond.selects RX7 yX7_countTimes yX7_countTimes, Cond.initialized RX7, Cond.code yX7_countTimes cX7_countTimes 3 (some .int), Cond.fieldLink RX7 22 "LadderBench$Notes" "size" "I", Cond.fieldLink RX7 18 "LadderBench$Notes" "times" "[I", Cond.methodLink RX9 273 yX8_countNotSound, Cond.instanceMethod yX8_countNotSound, Cond.selects RX8 yX8_countNotSound yX8_countNotSound, Cond.code yX8_countNotSound cX8_countNotSound 3 (some .int), Cond.fieldLink RX8 29 "LadderBench$State" "armState" "[I", Cond.methodLink RX8 76 yX5_hasArm, Cond.instanceMethod yX5_hasArm, Cond.selects RX5 yX5_hasArm yX5_hasArm, Cond.code yX5_hasArm cX5_hasArm 2 (some .boolean), Cond.fieldLink RX5 21 "LadderBench$Network" "partOfArm" "[I"]
def wsX9_count : List Cond := .code yX9_count cX9_count 2 (some .int) :: ((wsX9_count_r1 ++ wsX9_count_r2) ++ wsX90 ++ wsX80 ++ wsX50 ++ wsX70 ++ wsX30 ++ wsX40)
def wsX10_init : List Cond := .code yX10_init cX10_init 1 none :: ([.methodLink RX10 1 objectInit, .instanceMethod objectInit, .code objectInit ⟨#[0xb1]⟩ 1 none, .arrayClass .long, .fieldLink RX10 7 "LadderBenchModel" "now" "[J", .fieldLink RX10 13 "LadderBenchModel" "history" "[J", .fieldLink RX10 16 "LadderBenchModel" "slot" "[J", .arrayClass .char, .fieldLink RX10 19 "LadderBenchModel" "text" "[C", .arrayClass .int, .fieldLink RX10 23 "LadderBenchModel" "read" "[I", .fieldLink RX10 27 "LadderBenchModel" "pile" "[I", .fieldLink RX10 30 "LadderBenchModel" "pieces" "[I", .fieldLink RX10 33 "LadderBenchModel" "links" "[I", .fieldLink RX10 36 "LadderBenchModel" "upper" "[J", .fieldLink RX10 39 "LadderBenchModel" "lower" "[J", .fieldLink RX10 42 "LadderBenchModel" "voltUp" "[J", .fieldLink RX10 45 "LadderBenchModel" "voltLow" "[J", .constantLong RX10 48 (12), .constantLong RX10 50 (100)] ++ wsX100)
def wsX10_in : List Cond := .code yX10_in cX10_in 3 (some .boolean) :: ([])
def wsX10_record : List Cond := .code yX10_record cX10_record 2 none :: ([.fieldLink RX10 52 "LadderBenchModel" "kept" "I", .fieldLink RX10 13 "LadderBenchModel" "history" "[J", .fieldLink RX10 7 "LadderBenchModel" "now" "[J"] ++ wsX100)
def wsX10_parts : List Cond := .code yX10_parts cX10_parts 1 (some .int) :: ([.fieldLink RX10 7 "LadderBenchModel" "now" "[J"] ++ wsX100)
def wsX10_noPart : List Cond := .code yX10_noPart cX10_noPart 2 (some .boolean) :: ([.methodLink RX10 56 yX10_parts, .instanceMethod yX10_parts, .selects RX10 yX10_parts yX10_parts, .initialized RX10, .code yX10_parts cX10_parts 1 (some .int), .fieldLink RX10 7 "LadderBenchModel" "now" "[J", .methodLink RX10 60 yX10_in, .static yX10_in, .code yX10_in cX10_in 3 (some .boolean)] ++ wsX100)
def wsX10_ofPart : List Cond := .code yX10_ofPart cX10_ofPart 3 (some .int) :: ([.fieldLink RX10 7 "LadderBenchModel" "now" "[J"] ++ wsX100)
def wsX10_ofArm : List Cond := .code yX10_ofArm cX10_ofArm 3 (some .int) :: ([.fieldLink RX10 7 "LadderBenchModel" "now" "[J"] ++ wsX100)
def wsX10_hasArm : List Cond := .code yX10_hasArm cX10_hasArm 2 (some .boolean) :: ([.methodLink RX10 60 yX10_in, .static yX10_in, .initialized RX10, .code yX10_in cX10_in 3 (some .boolean), .methodLink RX10 64 yX10_ofArm, .instanceMethod yX10_ofArm, .selects RX10 yX10_ofArm yX10_ofArm, .code yX10_ofArm cX10_ofArm 3 (some .int), .fieldLink RX10 7 "LadderBenchModel" "now" "[J"] ++ wsX100)
def wsX10_type : List Cond := .code yX10_type cX10_type 2 (some .int) :: ([.fieldLink RX10 68 "LadderBenchModel" "typed" "I", .fieldLink RX10 19 "LadderBenchModel" "text" "[C"] ++ wsX100)
def wsX10_clearText : List Cond := .code yX10_clearText cX10_clearText 2 (some .int) :: ([.fieldLink RX10 68 "LadderBenchModel" "typed" "I"] ++ wsX100)
def wsX10_isRead : List Cond := .code yX10_isRead cX10_isRead 3 (some .boolean) :: ([.fieldLink RX10 71 "LadderBenchModel" "readParts" "I", .fieldLink RX10 23 "LadderBenchModel" "read" "[I"] ++ wsX100)
def wsX10_laysPart : List Cond := .code yX10_laysPart cX10_laysPart 6 none :: ([.fieldLink RX10 71 "LadderBenchModel" "readParts" "I", .fieldLink RX10 23 "LadderBenchModel" "read" "[I", .fieldLink RX10 74 "LadderBenchModel" "piled" "I", .fieldLink RX10 27 "LadderBenchModel" "pile" "[I"] ++ wsX100)
def wsX10_endsLink : List Cond := .code yX10_endsLink cX10_endsLink 2 none :: ([.fieldLink RX10 30 "LadderBenchModel" "pieces" "[I", .fieldLink RX10 33 "LadderBenchModel" "links" "[I", .methodLink RX10 77 yX10_laysPart, .instanceMethod yX10_laysPart, .selects RX10 yX10_laysPart yX10_laysPart, .initialized RX10, .code yX10_laysPart cX10_laysPart 6 none, .fieldLink RX10 71 "LadderBenchModel" "readParts" "I", .fieldLink RX10 23 "LadderBenchModel" "read" "[I", .fieldLink RX10 74 "LadderBenchModel" "piled" "I", .fieldLink RX10 27 "LadderBenchModel" "pile" "[I"] ++ wsX100)
def wsX10_endsChain : List Cond := .code yX10_endsChain cX10_endsChain 2 none :: ([.fieldLink RX10 33 "LadderBenchModel" "links" "[I", .methodLink RX10 81 yX10_endsLink, .instanceMethod yX10_endsLink, .selects RX10 yX10_endsLink yX10_endsLink, .initialized RX10, .code yX10_endsLink cX10_endsLink 2 none, .fieldLink RX10 30 "LadderBenchModel" "pieces" "[I", .methodLink RX10 77 yX10_laysPart, .instanceMethod yX10_laysPart, .selects RX10 yX10_laysPart yX10_laysPart, .code yX10_laysPart cX10_laysPart 6 none, .fieldLink RX10 71 "LadderBenchModel" "readParts" "I", .fieldLink RX10 23 "LadderBenchModel" "read" "[I", .fieldLink RX10 74 "LadderBenchModel" "piled" "I", .fieldLink RX10 27 "LadderBenchModel" "pile" "[I"] ++ wsX100)
def wsX10_readsNetwork_r1 : List Cond := [Cond.fieldLink RX10 71 "LadderBenchModel" "readParts" "I", Cond.fieldLink RX10 74 "LadderBenchModel" "piled" "I", Cond.fieldLink RX10 30 "LadderBenchModel" "pieces" "[I", Cond.fieldLink RX10 33 "LadderBenchModel" "links" "[I", Cond.fieldLink RX10 85 "LadderBenchModel" "at" "I", Cond.fieldLink RX10 68 "LadderBenchModel" "typed" "I", Cond.fieldLink RX10 19 "LadderBenchModel" "text" "[C", Cond.methodLink RX10 60 yX10_in, Cond.static yX10_in, Cond.initialized RX10, Cond.code yX10_in cX10_in 3 (some .boolean), Cond.methodLink RX10 88 yX10_isRead, Cond.instanceMethod yX10_isRead, Cond.selects RX10 yX10_isRead yX10_isRead, Cond.code yX10_isRead cX10_isRead 3 (some .boolean), Cond.fieldLink RX10 23 "LadderBenchModel" "read" "[I", Cond.methodLink RX10 77 yX10_laysPart, Cond.instanceMethod yX10_laysPart, Cond.selects RX10 yX10_laysPart yX10_laysPart, Cond.code yX10_laysPart cX10_laysPart 6 none, Cond.fieldLink RX10 27 "LadderBenchModel" "pile" "[I", Cond.methodLink RX10 81 yX10_endsLink, Cond.instanceMethod yX10_endsLink, Cond.selects RX10 yX10_endsLink yX10_endsLink]
def wsX10_readsNetwork_r2 : List Cond := [Cond.code yX10_endsLink cX10_endsLink 2 none, Cond.methodLink RX10 92 yX10_endsChain, Cond.instanceMethod yX10_endsChain, Cond.selects RX10 yX10_endsChain yX10_endsChain, Cond.code yX10_endsChain cX10_endsChain 2 none]
def wsX10_readsNetwork : List Cond := .code yX10_readsNetwork cX10_readsNetwork 4 (some .boolean) :: ((wsX10_readsNetwork_r1 ++ wsX10_readsNetwork_r2) ++ wsX100)
def wsX10_readNetwork_r1 : List Cond := [Cond.fieldLink RX10 85 "LadderBenchModel" "at" "I", Cond.fieldLink RX10 7 "LadderBenchModel" "now" "[J", Cond.fieldLink RX10 71 "LadderBenchModel" "readParts" "I", Cond.fieldLink RX10 23 "LadderBenchModel" "read" "[I", Cond.constantLong RX10 102 (10), Cond.methodLink RX10 95 yX10_readsNetwork, Cond.instanceMethod yX10_readsNetwork, Cond.selects RX10 yX10_readsNetwork yX10_readsNetwork, Cond.initialized RX10, Cond.code yX10_readsNetwork cX10_readsNetwork 4 (some .boolean), Cond.fieldLink RX10 74 "LadderBenchModel" "piled" "I", Cond.fieldLink RX10 30 "LadderBenchModel" "pieces" "[I", Cond.fieldLink RX10 33 "LadderBenchModel" "links" "[I", Cond.fieldLink RX10 68 "LadderBenchModel" "typed" "I", Cond.fieldLink RX10 19 "LadderBenchModel" "text" "[C", Cond.methodLink RX10 60 yX10_in, Cond.static yX10_in, Cond.code yX10_in cX10_in 3 (some .boolean), Cond.methodLink RX10 88 yX10_isRead, Cond.instanceMethod yX10_isRead, Cond.selects RX10 yX10_isRead yX10_isRead, Cond.code yX10_isRead cX10_isRead 3 (some .boolean), Cond.methodLink RX10 77 yX10_laysPart, Cond.instanceMethod yX10_laysPart]
def wsX10_readNetwork_r2 : List Cond := [Cond.selects RX10 yX10_laysPart yX10_laysPart, Cond.code yX10_laysPart cX10_laysPart 6 none, Cond.fieldLink RX10 27 "LadderBenchModel" "pile" "[I", Cond.methodLink RX10 81 yX10_endsLink, Cond.instanceMethod yX10_endsLink, Cond.selects RX10 yX10_endsLink yX10_endsLink, Cond.code yX10_endsLink cX10_endsLink 2 none, Cond.methodLink RX10 92 yX10_endsChain, Cond.instanceMethod yX10_endsChain, Cond.selects RX10 yX10_endsChain yX10_endsChain, Cond.code yX10_endsChain cX10_endsChain 2 none, Cond.methodLink RX10 99 yX10_record, Cond.instanceMethod yX10_record, Cond.selects RX10 yX10_record yX10_record, Cond.code yX10_record cX10_record 2 none, Cond.fieldLink RX10 52 "LadderBenchModel" "kept" "I", Cond.fieldLink RX10 13 "LadderBenchModel" "history" "[J"]
def wsX10_readNetwork : List Cond := .code yX10_readNetwork cX10_readNetwork 3 (some .int) :: ((wsX10_readNetwork_r1 ++ wsX10_readNetwork_r2) ++ wsX100)
def wsX10_end : List Cond := .code yX10_end cX10_end 2 (some .int) :: ([.fieldLink RX10 85 "LadderBenchModel" "at" "I", .fieldLink RX10 68 "LadderBenchModel" "typed" "I", .fieldLink RX10 19 "LadderBenchModel" "text" "[C"] ++ wsX100)
def wsX10_isWord : List Cond := .code yX10_isWord cX10_isWord 7 (some .boolean) :: ([.fieldLink RX10 85 "LadderBenchModel" "at" "I", .fieldLink RX10 19 "LadderBenchModel" "text" "[C"] ++ wsX100)
def wsX10_word : List Cond := .code yX10_word cX10_word 2 (some .int) :: ([.fieldLink RX10 85 "LadderBenchModel" "at" "I", .fieldLink RX10 19 "LadderBenchModel" "text" "[C", .methodLink RX10 104 yX10_isWord, .instanceMethod yX10_isWord, .selects RX10 yX10_isWord yX10_isWord, .initialized RX10, .code yX10_isWord cX10_isWord 7 (some .boolean)] ++ wsX100)
def wsX10_number : List Cond := .code yX10_number cX10_number 5 (some .int) :: ([.fieldLink RX10 85 "LadderBenchModel" "at" "I", .fieldLink RX10 19 "LadderBenchModel" "text" "[C", .methodLink RX10 60 yX10_in, .static yX10_in, .initialized RX10, .code yX10_in cX10_in 3 (some .boolean)] ++ wsX100)
def wsX10_takesBlank : List Cond := .code yX10_takesBlank cX10_takesBlank 1 (some .boolean) :: ([.fieldLink RX10 85 "LadderBenchModel" "at" "I", .fieldLink RX10 68 "LadderBenchModel" "typed" "I", .fieldLink RX10 19 "LadderBenchModel" "text" "[C"] ++ wsX100)
def wsX10_readsCommand_r1 : List Cond := [Cond.fieldLink RX10 85 "LadderBenchModel" "at" "I", Cond.fieldLink RX10 115 "LadderBenchModel" "readWord" "I", Cond.fieldLink RX10 19 "LadderBenchModel" "text" "[C", Cond.fieldLink RX10 121 "LadderBenchModel" "readArm" "I", Cond.fieldLink RX10 127 "LadderBenchModel" "readNumber" "I", Cond.fieldLink RX10 68 "LadderBenchModel" "typed" "I", Cond.methodLink RX10 108 yX10_end, Cond.instanceMethod yX10_end, Cond.selects RX10 yX10_end yX10_end, Cond.initialized RX10, Cond.code yX10_end cX10_end 2 (some .int), Cond.methodLink RX10 111 yX10_word, Cond.instanceMethod yX10_word, Cond.selects RX10 yX10_word yX10_word, Cond.code yX10_word cX10_word 2 (some .int), Cond.methodLink RX10 104 yX10_isWord, Cond.instanceMethod yX10_isWord, Cond.selects RX10 yX10_isWord yX10_isWord, Cond.code yX10_isWord cX10_isWord 7 (some .boolean), Cond.methodLink RX10 118 yX10_takesBlank, Cond.instanceMethod yX10_takesBlank, Cond.selects RX10 yX10_takesBlank yX10_takesBlank, Cond.code yX10_takesBlank cX10_takesBlank 1 (some .boolean), Cond.methodLink RX10 60 yX10_in]
def wsX10_readsCommand_r2 : List Cond := [Cond.static yX10_in, Cond.code yX10_in cX10_in 3 (some .boolean), Cond.methodLink RX10 124 yX10_number, Cond.instanceMethod yX10_number, Cond.selects RX10 yX10_number yX10_number, Cond.code yX10_number cX10_number 5 (some .int)]
def wsX10_readsCommand : List Cond := .code yX10_readsCommand cX10_readsCommand 2 (some .boolean) :: ((wsX10_readsCommand_r1 ++ wsX10_readsCommand_r2) ++ wsX100)
def wsX10_unfoldAll : List Cond := .code yX10_unfoldAll cX10_unfoldAll 2 none :: ([.fieldLink RX10 7 "LadderBenchModel" "now" "[J", .methodLink RX10 56 yX10_parts, .instanceMethod yX10_parts, .selects RX10 yX10_parts yX10_parts, .initialized RX10, .code yX10_parts cX10_parts 1 (some .int), .methodLink RX10 130 yX10_ofPart, .instanceMethod yX10_ofPart, .selects RX10 yX10_ofPart yX10_ofPart, .code yX10_ofPart cX10_ofPart 3 (some .int)] ++ wsX100)
def wsX10_perform_r1 : List Cond := [Cond.fieldLink RX10 85 "LadderBenchModel" "at" "I", Cond.fieldLink RX10 115 "LadderBenchModel" "readWord" "I", Cond.fieldLink RX10 121 "LadderBenchModel" "readArm" "I", Cond.fieldLink RX10 127 "LadderBenchModel" "readNumber" "I", Cond.fieldLink RX10 7 "LadderBenchModel" "now" "[J", Cond.methodLink RX10 133 yX10_readsCommand, Cond.instanceMethod yX10_readsCommand, Cond.selects RX10 yX10_readsCommand yX10_readsCommand, Cond.initialized RX10, Cond.code yX10_readsCommand cX10_readsCommand 2 (some .boolean), Cond.fieldLink RX10 19 "LadderBenchModel" "text" "[C", Cond.fieldLink RX10 68 "LadderBenchModel" "typed" "I", Cond.methodLink RX10 108 yX10_end, Cond.instanceMethod yX10_end, Cond.selects RX10 yX10_end yX10_end, Cond.code yX10_end cX10_end 2 (some .int), Cond.methodLink RX10 111 yX10_word, Cond.instanceMethod yX10_word, Cond.selects RX10 yX10_word yX10_word, Cond.code yX10_word cX10_word 2 (some .int), Cond.methodLink RX10 104 yX10_isWord, Cond.instanceMethod yX10_isWord, Cond.selects RX10 yX10_isWord yX10_isWord, Cond.code yX10_isWord cX10_isWord 7 (some .boolean)]
def wsX10_perform_r2 : List Cond := [Cond.methodLink RX10 118 yX10_takesBlank, Cond.instanceMethod yX10_takesBlank, Cond.selects RX10 yX10_takesBlank yX10_takesBlank, Cond.code yX10_takesBlank cX10_takesBlank 1 (some .boolean), Cond.methodLink RX10 60 yX10_in, Cond.static yX10_in, Cond.code yX10_in cX10_in 3 (some .boolean), Cond.methodLink RX10 124 yX10_number, Cond.instanceMethod yX10_number, Cond.selects RX10 yX10_number yX10_number, Cond.code yX10_number cX10_number 5 (some .int), Cond.methodLink RX10 136 yX10_hasArm, Cond.instanceMethod yX10_hasArm, Cond.selects RX10 yX10_hasArm yX10_hasArm, Cond.code yX10_hasArm cX10_hasArm 2 (some .boolean), Cond.methodLink RX10 64 yX10_ofArm, Cond.instanceMethod yX10_ofArm, Cond.selects RX10 yX10_ofArm yX10_ofArm, Cond.code yX10_ofArm cX10_ofArm 3 (some .int), Cond.methodLink RX10 99 yX10_record, Cond.instanceMethod yX10_record, Cond.selects RX10 yX10_record yX10_record, Cond.code yX10_record cX10_record 2 none, Cond.fieldLink RX10 52 "LadderBenchModel" "kept" "I"]
def wsX10_perform_r3 : List Cond := [Cond.fieldLink RX10 13 "LadderBenchModel" "history" "[J", Cond.methodLink RX10 139 yX10_unfoldAll, Cond.instanceMethod yX10_unfoldAll, Cond.selects RX10 yX10_unfoldAll yX10_unfoldAll, Cond.code yX10_unfoldAll cX10_unfoldAll 2 none, Cond.methodLink RX10 56 yX10_parts, Cond.instanceMethod yX10_parts, Cond.selects RX10 yX10_parts yX10_parts, Cond.code yX10_parts cX10_parts 1 (some .int), Cond.methodLink RX10 130 yX10_ofPart, Cond.instanceMethod yX10_ofPart, Cond.selects RX10 yX10_ofPart yX10_ofPart, Cond.code yX10_ofPart cX10_ofPart 3 (some .int)]
def wsX10_perform : List Cond := .code yX10_perform cX10_perform 3 (some .int) :: ((wsX10_perform_r1 ++ (wsX10_perform_r2 ++ wsX10_perform_r3)) ++ wsX100)
def wsX10_isFolded : List Cond := .code yX10_isFolded cX10_isFolded 2 (some .boolean) :: ([.methodLink RX10 130 yX10_ofPart, .instanceMethod yX10_ofPart, .selects RX10 yX10_ofPart yX10_ofPart, .initialized RX10, .code yX10_ofPart cX10_ofPart 3 (some .int), .fieldLink RX10 7 "LadderBenchModel" "now" "[J"] ++ wsX100)
def wsX10_mayFold : List Cond := .code yX10_mayFold cX10_mayFold 3 (some .boolean) :: ([.methodLink RX10 130 yX10_ofPart, .instanceMethod yX10_ofPart, .selects RX10 yX10_ofPart yX10_ofPart, .initialized RX10, .code yX10_ofPart cX10_ofPart 3 (some .int), .fieldLink RX10 7 "LadderBenchModel" "now" "[J", .methodLink RX10 142 yX10_isFolded, .instanceMethod yX10_isFolded, .selects RX10 yX10_isFolded yX10_isFolded, .code yX10_isFolded cX10_isFolded 2 (some .boolean)] ++ wsX100)
def wsX10_open : List Cond := .code yX10_open cX10_open 3 (some .int) :: ([.methodLink RX10 56 yX10_parts, .instanceMethod yX10_parts, .selects RX10 yX10_parts yX10_parts, .initialized RX10, .code yX10_parts cX10_parts 1 (some .int), .fieldLink RX10 7 "LadderBenchModel" "now" "[J", .methodLink RX10 142 yX10_isFolded, .instanceMethod yX10_isFolded, .selects RX10 yX10_isFolded yX10_isFolded, .code yX10_isFolded cX10_isFolded 2 (some .boolean), .methodLink RX10 130 yX10_ofPart, .instanceMethod yX10_ofPart, .selects RX10 yX10_ofPart yX10_ofPart, .code yX10_ofPart cX10_ofPart 3 (some .int)] ++ wsX100)
def wsX10_folds : List Cond := .code yX10_folds cX10_folds 2 none :: ([.fieldLink RX10 7 "LadderBenchModel" "now" "[J"] ++ wsX100)
def wsX10_fold_r1 : List Cond := [Cond.methodLink RX10 145 yX10_noPart, Cond.instanceMethod yX10_noPart, Cond.selects RX10 yX10_noPart yX10_noPart, Cond.initialized RX10, Cond.code yX10_noPart cX10_noPart 2 (some .boolean), Cond.methodLink RX10 56 yX10_parts, Cond.instanceMethod yX10_parts, Cond.selects RX10 yX10_parts yX10_parts, Cond.code yX10_parts cX10_parts 1 (some .int), Cond.fieldLink RX10 7 "LadderBenchModel" "now" "[J", Cond.methodLink RX10 60 yX10_in, Cond.static yX10_in, Cond.code yX10_in cX10_in 3 (some .boolean), Cond.methodLink RX10 148 yX10_mayFold, Cond.instanceMethod yX10_mayFold, Cond.selects RX10 yX10_mayFold yX10_mayFold, Cond.code yX10_mayFold cX10_mayFold 3 (some .boolean), Cond.methodLink RX10 130 yX10_ofPart, Cond.instanceMethod yX10_ofPart, Cond.selects RX10 yX10_ofPart yX10_ofPart, Cond.code yX10_ofPart cX10_ofPart 3 (some .int), Cond.methodLink RX10 142 yX10_isFolded, Cond.instanceMethod yX10_isFolded, Cond.selects RX10 yX10_isFolded yX10_isFolded]
def wsX10_fold_r2 : List Cond := [Cond.code yX10_isFolded cX10_isFolded 2 (some .boolean), Cond.methodLink RX10 99 yX10_record, Cond.instanceMethod yX10_record, Cond.selects RX10 yX10_record yX10_record, Cond.code yX10_record cX10_record 2 none, Cond.fieldLink RX10 52 "LadderBenchModel" "kept" "I", Cond.fieldLink RX10 13 "LadderBenchModel" "history" "[J", Cond.methodLink RX10 151 yX10_folds, Cond.instanceMethod yX10_folds, Cond.selects RX10 yX10_folds yX10_folds, Cond.code yX10_folds cX10_folds 2 none, Cond.methodLink RX10 154 yX10_open, Cond.instanceMethod yX10_open, Cond.selects RX10 yX10_open yX10_open, Cond.code yX10_open cX10_open 3 (some .int)]
def wsX10_fold : List Cond := .code yX10_fold cX10_fold 2 (some .int) :: ((wsX10_fold_r1 ++ wsX10_fold_r2) ++ wsX100)
def wsX10_nextFold : List Cond := .code yX10_nextFold cX10_nextFold 4 (some .int) :: ([.methodLink RX10 56 yX10_parts, .instanceMethod yX10_parts, .selects RX10 yX10_parts yX10_parts, .initialized RX10, .code yX10_parts cX10_parts 1 (some .int), .fieldLink RX10 7 "LadderBenchModel" "now" "[J", .methodLink RX10 142 yX10_isFolded, .instanceMethod yX10_isFolded, .selects RX10 yX10_isFolded yX10_isFolded, .code yX10_isFolded cX10_isFolded 2 (some .boolean), .methodLink RX10 130 yX10_ofPart, .instanceMethod yX10_ofPart, .selects RX10 yX10_ofPart yX10_ofPart, .code yX10_ofPart cX10_ofPart 3 (some .int), .methodLink RX10 148 yX10_mayFold, .instanceMethod yX10_mayFold, .selects RX10 yX10_mayFold yX10_mayFold, .code yX10_mayFold cX10_mayFold 3 (some .boolean)] ++ wsX100)
def wsX10_foldAll_r1 : List Cond := [Cond.methodLink RX10 154 yX10_open, Cond.instanceMethod yX10_open, Cond.selects RX10 yX10_open yX10_open, Cond.initialized RX10, Cond.code yX10_open cX10_open 3 (some .int), Cond.methodLink RX10 56 yX10_parts, Cond.instanceMethod yX10_parts, Cond.selects RX10 yX10_parts yX10_parts, Cond.code yX10_parts cX10_parts 1 (some .int), Cond.fieldLink RX10 7 "LadderBenchModel" "now" "[J", Cond.methodLink RX10 142 yX10_isFolded, Cond.instanceMethod yX10_isFolded, Cond.selects RX10 yX10_isFolded yX10_isFolded, Cond.code yX10_isFolded cX10_isFolded 2 (some .boolean), Cond.methodLink RX10 130 yX10_ofPart, Cond.instanceMethod yX10_ofPart, Cond.selects RX10 yX10_ofPart yX10_ofPart, Cond.code yX10_ofPart cX10_ofPart 3 (some .int), Cond.methodLink RX10 99 yX10_record, Cond.instanceMethod yX10_record, Cond.selects RX10 yX10_record yX10_record, Cond.code yX10_record cX10_record 2 none, Cond.fieldLink RX10 52 "LadderBenchModel" "kept" "I", Cond.fieldLink RX10 13 "LadderBenchModel" "history" "[J"]
def wsX10_foldAll_r2 : List Cond := [Cond.methodLink RX10 157 yX10_nextFold, Cond.instanceMethod yX10_nextFold, Cond.selects RX10 yX10_nextFold yX10_nextFold, Cond.code yX10_nextFold cX10_nextFold 4 (some .int), Cond.methodLink RX10 148 yX10_mayFold, Cond.instanceMethod yX10_mayFold, Cond.selects RX10 yX10_mayFold yX10_mayFold, Cond.code yX10_mayFold cX10_mayFold 3 (some .boolean), Cond.methodLink RX10 151 yX10_folds, Cond.instanceMethod yX10_folds, Cond.selects RX10 yX10_folds yX10_folds, Cond.code yX10_folds cX10_folds 2 none]
def wsX10_foldAll : List Cond := .code yX10_foldAll cX10_foldAll 4 (some .int) :: ((wsX10_foldAll_r1 ++ wsX10_foldAll_r2) ++ wsX100)
def wsX10_unfold_r1 : List Cond := [Cond.fieldLink RX10 7 "LadderBenchModel" "now" "[J", Cond.methodLink RX10 145 yX10_noPart, Cond.instanceMethod yX10_noPart, Cond.selects RX10 yX10_noPart yX10_noPart, Cond.initialized RX10, Cond.code yX10_noPart cX10_noPart 2 (some .boolean), Cond.methodLink RX10 56 yX10_parts, Cond.instanceMethod yX10_parts, Cond.selects RX10 yX10_parts yX10_parts, Cond.code yX10_parts cX10_parts 1 (some .int), Cond.methodLink RX10 60 yX10_in, Cond.static yX10_in, Cond.code yX10_in cX10_in 3 (some .boolean), Cond.methodLink RX10 130 yX10_ofPart, Cond.instanceMethod yX10_ofPart, Cond.selects RX10 yX10_ofPart yX10_ofPart, Cond.code yX10_ofPart cX10_ofPart 3 (some .int), Cond.methodLink RX10 142 yX10_isFolded, Cond.instanceMethod yX10_isFolded, Cond.selects RX10 yX10_isFolded yX10_isFolded, Cond.code yX10_isFolded cX10_isFolded 2 (some .boolean), Cond.methodLink RX10 99 yX10_record, Cond.instanceMethod yX10_record, Cond.selects RX10 yX10_record yX10_record]
def wsX10_unfold_r2 : List Cond := [Cond.code yX10_record cX10_record 2 none, Cond.fieldLink RX10 52 "LadderBenchModel" "kept" "I", Cond.fieldLink RX10 13 "LadderBenchModel" "history" "[J"]
def wsX10_unfold : List Cond := .code yX10_unfold cX10_unfold 4 (some .int) :: ((wsX10_unfold_r1 ++ wsX10_unfold_r2) ++ wsX100)
def wsX10_divisor : List Cond := .code yX10_divisor cX10_divisor 10 (some .long) :: ([])
def wsX10_becomes : List Cond := .code yX10_becomes cX10_becomes 7 none :: ([.fieldLink RX10 165 "LadderBenchModel" "up" "J", .fieldLink RX10 169 "LadderBenchModel" "low" "J", .methodLink RX10 161 yX10_divisor, .static yX10_divisor, .initialized RX10, .code yX10_divisor cX10_divisor 10 (some .long)] ++ wsX100)
def wsX10_sum : List Cond := .code yX10_sum cX10_sum 11 none :: ([.methodLink RX10 161 yX10_divisor, .static yX10_divisor, .initialized RX10, .code yX10_divisor cX10_divisor 10 (some .long), .methodLink RX10 172 yX10_becomes, .instanceMethod yX10_becomes, .selects RX10 yX10_becomes yX10_becomes, .code yX10_becomes cX10_becomes 7 none, .fieldLink RX10 165 "LadderBenchModel" "up" "J", .fieldLink RX10 169 "LadderBenchModel" "low" "J"] ++ wsX100)
def wsX10_product : List Cond := .code yX10_product cX10_product 13 none :: ([.methodLink RX10 161 yX10_divisor, .static yX10_divisor, .initialized RX10, .code yX10_divisor cX10_divisor 10 (some .long), .methodLink RX10 172 yX10_becomes, .instanceMethod yX10_becomes, .selects RX10 yX10_becomes yX10_becomes, .code yX10_becomes cX10_becomes 7 none, .fieldLink RX10 165 "LadderBenchModel" "up" "J", .fieldLink RX10 169 "LadderBenchModel" "low" "J"] ++ wsX100)
def wsX10_layArm : List Cond := .code yX10_layArm cX10_layArm 6 none :: ([.fieldLink RX10 36 "LadderBenchModel" "upper" "[J", .fieldLink RX10 39 "LadderBenchModel" "lower" "[J", .methodLink RX10 130 yX10_ofPart, .instanceMethod yX10_ofPart, .selects RX10 yX10_ofPart yX10_ofPart, .initialized RX10, .code yX10_ofPart cX10_ofPart 3 (some .int), .fieldLink RX10 7 "LadderBenchModel" "now" "[J", .methodLink RX10 64 yX10_ofArm, .instanceMethod yX10_ofArm, .selects RX10 yX10_ofArm yX10_ofArm, .code yX10_ofArm cX10_ofArm 3 (some .int)] ++ wsX100)
def wsX10_laySeries : List Cond := .code yX10_laySeries cX10_laySeries 7 none :: ([.fieldLink RX10 39 "LadderBenchModel" "lower" "[J", .fieldLink RX10 36 "LadderBenchModel" "upper" "[J", .fieldLink RX10 165 "LadderBenchModel" "up" "J", .fieldLink RX10 169 "LadderBenchModel" "low" "J", .methodLink RX10 130 yX10_ofPart, .instanceMethod yX10_ofPart, .selects RX10 yX10_ofPart yX10_ofPart, .initialized RX10, .code yX10_ofPart cX10_ofPart 3 (some .int), .fieldLink RX10 7 "LadderBenchModel" "now" "[J", .methodLink RX10 176 yX10_sum, .instanceMethod yX10_sum, .selects RX10 yX10_sum yX10_sum, .code yX10_sum cX10_sum 11 none, .methodLink RX10 161 yX10_divisor, .static yX10_divisor, .code yX10_divisor cX10_divisor 10 (some .long), .methodLink RX10 172 yX10_becomes, .instanceMethod yX10_becomes, .selects RX10 yX10_becomes yX10_becomes, .code yX10_becomes cX10_becomes 7 none] ++ wsX100)
def wsX10_lets : List Cond := .code yX10_lets cX10_lets 5 none :: ([.fieldLink RX10 180 "LadderBenchModel" "isShort" "Z", .fieldLink RX10 184 "LadderBenchModel" "letsUp" "J", .fieldLink RX10 187 "LadderBenchModel" "letsLow" "J", .fieldLink RX10 165 "LadderBenchModel" "up" "J", .fieldLink RX10 169 "LadderBenchModel" "low" "J", .methodLink RX10 176 yX10_sum, .instanceMethod yX10_sum, .selects RX10 yX10_sum yX10_sum, .initialized RX10, .code yX10_sum cX10_sum 11 none, .methodLink RX10 161 yX10_divisor, .static yX10_divisor, .code yX10_divisor cX10_divisor 10 (some .long), .methodLink RX10 172 yX10_becomes, .instanceMethod yX10_becomes, .selects RX10 yX10_becomes yX10_becomes, .code yX10_becomes cX10_becomes 7 none] ++ wsX100)
def wsX10_letsOf_r1 : List Cond := [Cond.fieldLink RX10 184 "LadderBenchModel" "letsUp" "J", Cond.fieldLink RX10 187 "LadderBenchModel" "letsLow" "J", Cond.fieldLink RX10 180 "LadderBenchModel" "isShort" "Z", Cond.fieldLink RX10 36 "LadderBenchModel" "upper" "[J", Cond.fieldLink RX10 39 "LadderBenchModel" "lower" "[J", Cond.methodLink RX10 130 yX10_ofPart, Cond.instanceMethod yX10_ofPart, Cond.selects RX10 yX10_ofPart yX10_ofPart, Cond.initialized RX10, Cond.code yX10_ofPart cX10_ofPart 3 (some .int), Cond.fieldLink RX10 7 "LadderBenchModel" "now" "[J", Cond.methodLink RX10 190 yX10_lets, Cond.instanceMethod yX10_lets, Cond.selects RX10 yX10_lets yX10_lets, Cond.code yX10_lets cX10_lets 5 none, Cond.fieldLink RX10 165 "LadderBenchModel" "up" "J", Cond.fieldLink RX10 169 "LadderBenchModel" "low" "J", Cond.methodLink RX10 176 yX10_sum, Cond.instanceMethod yX10_sum, Cond.selects RX10 yX10_sum yX10_sum, Cond.code yX10_sum cX10_sum 11 none, Cond.methodLink RX10 161 yX10_divisor, Cond.static yX10_divisor, Cond.code yX10_divisor cX10_divisor 10 (some .long)]
def wsX10_letsOf_r2 : List Cond := [Cond.methodLink RX10 172 yX10_becomes, Cond.instanceMethod yX10_becomes, Cond.selects RX10 yX10_becomes yX10_becomes, Cond.code yX10_becomes cX10_becomes 7 none]
def wsX10_letsOf : List Cond := .code yX10_letsOf cX10_letsOf 4 none :: ((wsX10_letsOf_r1 ++ wsX10_letsOf_r2) ++ wsX100)
def wsX10_takeLets : List Cond := .code yX10_takeLets cX10_takeLets 2 none :: ([.fieldLink RX10 36 "LadderBenchModel" "upper" "[J", .fieldLink RX10 180 "LadderBenchModel" "isShort" "Z", .fieldLink RX10 184 "LadderBenchModel" "letsUp" "J", .fieldLink RX10 187 "LadderBenchModel" "letsLow" "J", .fieldLink RX10 39 "LadderBenchModel" "lower" "[J"] ++ wsX100)
def wsX10_lay_r1 : List Cond := [Cond.fieldLink RX10 36 "LadderBenchModel" "upper" "[J", Cond.fieldLink RX10 39 "LadderBenchModel" "lower" "[J", Cond.fieldLink RX10 7 "LadderBenchModel" "now" "[J", Cond.methodLink RX10 56 yX10_parts, Cond.instanceMethod yX10_parts, Cond.selects RX10 yX10_parts yX10_parts, Cond.initialized RX10, Cond.code yX10_parts cX10_parts 1 (some .int), Cond.methodLink RX10 130 yX10_ofPart, Cond.instanceMethod yX10_ofPart, Cond.selects RX10 yX10_ofPart yX10_ofPart, Cond.code yX10_ofPart cX10_ofPart 3 (some .int), Cond.methodLink RX10 193 yX10_layArm, Cond.instanceMethod yX10_layArm, Cond.selects RX10 yX10_layArm yX10_layArm, Cond.code yX10_layArm cX10_layArm 6 none, Cond.methodLink RX10 64 yX10_ofArm, Cond.instanceMethod yX10_ofArm, Cond.selects RX10 yX10_ofArm yX10_ofArm, Cond.code yX10_ofArm cX10_ofArm 3 (some .int), Cond.methodLink RX10 196 yX10_laySeries, Cond.instanceMethod yX10_laySeries, Cond.selects RX10 yX10_laySeries yX10_laySeries, Cond.code yX10_laySeries cX10_laySeries 7 none]
def wsX10_lay_r2 : List Cond := [Cond.fieldLink RX10 165 "LadderBenchModel" "up" "J", Cond.fieldLink RX10 169 "LadderBenchModel" "low" "J", Cond.methodLink RX10 176 yX10_sum, Cond.instanceMethod yX10_sum, Cond.selects RX10 yX10_sum yX10_sum, Cond.code yX10_sum cX10_sum 11 none, Cond.methodLink RX10 161 yX10_divisor, Cond.static yX10_divisor, Cond.code yX10_divisor cX10_divisor 10 (some .long), Cond.methodLink RX10 172 yX10_becomes, Cond.instanceMethod yX10_becomes, Cond.selects RX10 yX10_becomes yX10_becomes, Cond.code yX10_becomes cX10_becomes 7 none, Cond.methodLink RX10 199 yX10_letsOf, Cond.instanceMethod yX10_letsOf, Cond.selects RX10 yX10_letsOf yX10_letsOf, Cond.code yX10_letsOf cX10_letsOf 4 none, Cond.fieldLink RX10 184 "LadderBenchModel" "letsUp" "J", Cond.fieldLink RX10 187 "LadderBenchModel" "letsLow" "J", Cond.fieldLink RX10 180 "LadderBenchModel" "isShort" "Z", Cond.methodLink RX10 190 yX10_lets, Cond.instanceMethod yX10_lets, Cond.selects RX10 yX10_lets yX10_lets, Cond.code yX10_lets cX10_lets 5 none]
def wsX10_lay_r3 : List Cond := [Cond.methodLink RX10 203 yX10_takeLets, Cond.instanceMethod yX10_takeLets, Cond.selects RX10 yX10_takeLets yX10_takeLets, Cond.code yX10_takeLets cX10_takeLets 2 none]
def wsX10_lay : List Cond := .code yX10_lay cX10_lay 9 none :: ((wsX10_lay_r1 ++ (wsX10_lay_r2 ++ wsX10_lay_r3)) ++ wsX100)
def wsX10_telling : List Cond := .code yX10_telling cX10_telling 3 (some .int) :: ([.methodLink RX10 145 yX10_noPart, .instanceMethod yX10_noPart, .selects RX10 yX10_noPart yX10_noPart, .initialized RX10, .code yX10_noPart cX10_noPart 2 (some .boolean), .methodLink RX10 56 yX10_parts, .instanceMethod yX10_parts, .selects RX10 yX10_parts yX10_parts, .code yX10_parts cX10_parts 1 (some .int), .fieldLink RX10 7 "LadderBenchModel" "now" "[J", .methodLink RX10 60 yX10_in, .static yX10_in, .code yX10_in cX10_in 3 (some .boolean)] ++ wsX100)
def wsX10_resistance_r1 : List Cond := [Cond.fieldLink RX10 36 "LadderBenchModel" "upper" "[J", Cond.fieldLink RX10 39 "LadderBenchModel" "lower" "[J", Cond.methodLink RX10 206 yX10_telling, Cond.instanceMethod yX10_telling, Cond.selects RX10 yX10_telling yX10_telling, Cond.initialized RX10, Cond.code yX10_telling cX10_telling 3 (some .int), Cond.methodLink RX10 145 yX10_noPart, Cond.instanceMethod yX10_noPart, Cond.selects RX10 yX10_noPart yX10_noPart, Cond.code yX10_noPart cX10_noPart 2 (some .boolean), Cond.methodLink RX10 56 yX10_parts, Cond.instanceMethod yX10_parts, Cond.selects RX10 yX10_parts yX10_parts, Cond.code yX10_parts cX10_parts 1 (some .int), Cond.fieldLink RX10 7 "LadderBenchModel" "now" "[J", Cond.methodLink RX10 60 yX10_in, Cond.static yX10_in, Cond.code yX10_in cX10_in 3 (some .boolean), Cond.methodLink RX10 209 yX10_lay, Cond.instanceMethod yX10_lay, Cond.selects RX10 yX10_lay yX10_lay, Cond.code yX10_lay cX10_lay 9 none, Cond.methodLink RX10 130 yX10_ofPart]
def wsX10_resistance_r2 : List Cond := [Cond.instanceMethod yX10_ofPart, Cond.selects RX10 yX10_ofPart yX10_ofPart, Cond.code yX10_ofPart cX10_ofPart 3 (some .int), Cond.methodLink RX10 193 yX10_layArm, Cond.instanceMethod yX10_layArm, Cond.selects RX10 yX10_layArm yX10_layArm, Cond.code yX10_layArm cX10_layArm 6 none, Cond.methodLink RX10 64 yX10_ofArm, Cond.instanceMethod yX10_ofArm, Cond.selects RX10 yX10_ofArm yX10_ofArm, Cond.code yX10_ofArm cX10_ofArm 3 (some .int), Cond.methodLink RX10 196 yX10_laySeries, Cond.instanceMethod yX10_laySeries, Cond.selects RX10 yX10_laySeries yX10_laySeries, Cond.code yX10_laySeries cX10_laySeries 7 none, Cond.fieldLink RX10 165 "LadderBenchModel" "up" "J", Cond.fieldLink RX10 169 "LadderBenchModel" "low" "J", Cond.methodLink RX10 176 yX10_sum, Cond.instanceMethod yX10_sum, Cond.selects RX10 yX10_sum yX10_sum, Cond.code yX10_sum cX10_sum 11 none, Cond.methodLink RX10 161 yX10_divisor, Cond.static yX10_divisor, Cond.code yX10_divisor cX10_divisor 10 (some .long)]
def wsX10_resistance_r3 : List Cond := [Cond.methodLink RX10 172 yX10_becomes, Cond.instanceMethod yX10_becomes, Cond.selects RX10 yX10_becomes yX10_becomes, Cond.code yX10_becomes cX10_becomes 7 none, Cond.methodLink RX10 199 yX10_letsOf, Cond.instanceMethod yX10_letsOf, Cond.selects RX10 yX10_letsOf yX10_letsOf, Cond.code yX10_letsOf cX10_letsOf 4 none, Cond.fieldLink RX10 184 "LadderBenchModel" "letsUp" "J", Cond.fieldLink RX10 187 "LadderBenchModel" "letsLow" "J", Cond.fieldLink RX10 180 "LadderBenchModel" "isShort" "Z", Cond.methodLink RX10 190 yX10_lets, Cond.instanceMethod yX10_lets, Cond.selects RX10 yX10_lets yX10_lets, Cond.code yX10_lets cX10_lets 5 none, Cond.methodLink RX10 203 yX10_takeLets, Cond.instanceMethod yX10_takeLets, Cond.selects RX10 yX10_takeLets yX10_takeLets, Cond.code yX10_takeLets cX10_takeLets 2 none]
def wsX10_resistance : List Cond := .code yX10_resistance cX10_resistance 4 (some .long) :: ((wsX10_resistance_r1 ++ (wsX10_resistance_r2 ++ wsX10_resistance_r3)) ++ wsX100)
def wsX10_folded_r1 : List Cond := [Cond.constantLong RX10 212 (-4), Cond.fieldLink RX10 36 "LadderBenchModel" "upper" "[J", Cond.fieldLink RX10 39 "LadderBenchModel" "lower" "[J", Cond.methodLink RX10 206 yX10_telling, Cond.instanceMethod yX10_telling, Cond.selects RX10 yX10_telling yX10_telling, Cond.initialized RX10, Cond.code yX10_telling cX10_telling 3 (some .int), Cond.methodLink RX10 145 yX10_noPart, Cond.instanceMethod yX10_noPart, Cond.selects RX10 yX10_noPart yX10_noPart, Cond.code yX10_noPart cX10_noPart 2 (some .boolean), Cond.methodLink RX10 56 yX10_parts, Cond.instanceMethod yX10_parts, Cond.selects RX10 yX10_parts yX10_parts, Cond.code yX10_parts cX10_parts 1 (some .int), Cond.fieldLink RX10 7 "LadderBenchModel" "now" "[J", Cond.methodLink RX10 60 yX10_in, Cond.static yX10_in, Cond.code yX10_in cX10_in 3 (some .boolean), Cond.methodLink RX10 142 yX10_isFolded, Cond.instanceMethod yX10_isFolded, Cond.selects RX10 yX10_isFolded yX10_isFolded, Cond.code yX10_isFolded cX10_isFolded 2 (some .boolean)]
def wsX10_folded_r2 : List Cond := [Cond.methodLink RX10 130 yX10_ofPart, Cond.instanceMethod yX10_ofPart, Cond.selects RX10 yX10_ofPart yX10_ofPart, Cond.code yX10_ofPart cX10_ofPart 3 (some .int), Cond.methodLink RX10 209 yX10_lay, Cond.instanceMethod yX10_lay, Cond.selects RX10 yX10_lay yX10_lay, Cond.code yX10_lay cX10_lay 9 none, Cond.methodLink RX10 193 yX10_layArm, Cond.instanceMethod yX10_layArm, Cond.selects RX10 yX10_layArm yX10_layArm, Cond.code yX10_layArm cX10_layArm 6 none, Cond.methodLink RX10 64 yX10_ofArm, Cond.instanceMethod yX10_ofArm, Cond.selects RX10 yX10_ofArm yX10_ofArm, Cond.code yX10_ofArm cX10_ofArm 3 (some .int), Cond.methodLink RX10 196 yX10_laySeries, Cond.instanceMethod yX10_laySeries, Cond.selects RX10 yX10_laySeries yX10_laySeries, Cond.code yX10_laySeries cX10_laySeries 7 none, Cond.fieldLink RX10 165 "LadderBenchModel" "up" "J", Cond.fieldLink RX10 169 "LadderBenchModel" "low" "J", Cond.methodLink RX10 176 yX10_sum, Cond.instanceMethod yX10_sum]
def wsX10_folded_r3 : List Cond := [Cond.selects RX10 yX10_sum yX10_sum, Cond.code yX10_sum cX10_sum 11 none, Cond.methodLink RX10 161 yX10_divisor, Cond.static yX10_divisor, Cond.code yX10_divisor cX10_divisor 10 (some .long), Cond.methodLink RX10 172 yX10_becomes, Cond.instanceMethod yX10_becomes, Cond.selects RX10 yX10_becomes yX10_becomes, Cond.code yX10_becomes cX10_becomes 7 none, Cond.methodLink RX10 199 yX10_letsOf, Cond.instanceMethod yX10_letsOf, Cond.selects RX10 yX10_letsOf yX10_letsOf, Cond.code yX10_letsOf cX10_letsOf 4 none, Cond.fieldLink RX10 184 "LadderBenchModel" "letsUp" "J", Cond.fieldLink RX10 187 "LadderBenchModel" "letsLow" "J", Cond.fieldLink RX10 180 "LadderBenchModel" "isShort" "Z", Cond.methodLink RX10 190 yX10_lets, Cond.instanceMethod yX10_lets, Cond.selects RX10 yX10_lets yX10_lets, Cond.code yX10_lets cX10_lets 5 none, Cond.methodLink RX10 203 yX10_takeLets, Cond.instanceMethod yX10_takeLets, Cond.selects RX10 yX10_takeLets yX10_takeLets, Cond.code yX10_takeLets cX10_takeLets 2 none]
def wsX10_folded : List Cond := .code yX10_folded cX10_folded 4 (some .long) :: ((wsX10_folded_r1 ++ (wsX10_folded_r2 ++ wsX10_folded_r3)) ++ wsX100)
def wsX10_infinite : List Cond := .code yX10_infinite cX10_infinite 4 (some .int) :: ([.fieldLink RX10 39 "LadderBenchModel" "lower" "[J", .methodLink RX10 130 yX10_ofPart, .instanceMethod yX10_ofPart, .selects RX10 yX10_ofPart yX10_ofPart, .initialized RX10, .code yX10_ofPart cX10_ofPart 3 (some .int), .fieldLink RX10 7 "LadderBenchModel" "now" "[J"] ++ wsX100)
def wsX10_layVoltage_r1 : List Cond := [Cond.fieldLink RX10 42 "LadderBenchModel" "voltUp" "[J", Cond.fieldLink RX10 45 "LadderBenchModel" "voltLow" "[J", Cond.fieldLink RX10 165 "LadderBenchModel" "up" "J", Cond.fieldLink RX10 169 "LadderBenchModel" "low" "J", Cond.fieldLink RX10 39 "LadderBenchModel" "lower" "[J", Cond.fieldLink RX10 36 "LadderBenchModel" "upper" "[J", Cond.methodLink RX10 130 yX10_ofPart, Cond.instanceMethod yX10_ofPart, Cond.selects RX10 yX10_ofPart yX10_ofPart, Cond.initialized RX10, Cond.code yX10_ofPart cX10_ofPart 3 (some .int), Cond.fieldLink RX10 7 "LadderBenchModel" "now" "[J", Cond.methodLink RX10 214 yX10_infinite, Cond.instanceMethod yX10_infinite, Cond.selects RX10 yX10_infinite yX10_infinite, Cond.code yX10_infinite cX10_infinite 4 (some .int), Cond.methodLink RX10 217 yX10_product, Cond.instanceMethod yX10_product, Cond.selects RX10 yX10_product yX10_product, Cond.code yX10_product cX10_product 13 none, Cond.methodLink RX10 161 yX10_divisor, Cond.static yX10_divisor, Cond.code yX10_divisor cX10_divisor 10 (some .long), Cond.methodLink RX10 172 yX10_becomes]
def wsX10_layVoltage_r2 : List Cond := [Cond.instanceMethod yX10_becomes, Cond.selects RX10 yX10_becomes yX10_becomes, Cond.code yX10_becomes cX10_becomes 7 none]
def wsX10_layVoltage : List Cond := .code yX10_layVoltage cX10_layVoltage 3 none :: ((wsX10_layVoltage_r1 ++ wsX10_layVoltage_r2) ++ wsX100)
def wsX10_layVoltages_r1 : List Cond := [Cond.fieldLink RX10 42 "LadderBenchModel" "voltUp" "[J", Cond.fieldLink RX10 7 "LadderBenchModel" "now" "[J", Cond.fieldLink RX10 45 "LadderBenchModel" "voltLow" "[J", Cond.methodLink RX10 56 yX10_parts, Cond.instanceMethod yX10_parts, Cond.selects RX10 yX10_parts yX10_parts, Cond.initialized RX10, Cond.code yX10_parts cX10_parts 1 (some .int), Cond.methodLink RX10 130 yX10_ofPart, Cond.instanceMethod yX10_ofPart, Cond.selects RX10 yX10_ofPart yX10_ofPart, Cond.code yX10_ofPart cX10_ofPart 3 (some .int), Cond.methodLink RX10 220 yX10_layVoltage, Cond.instanceMethod yX10_layVoltage, Cond.selects RX10 yX10_layVoltage yX10_layVoltage, Cond.code yX10_layVoltage cX10_layVoltage 3 none, Cond.fieldLink RX10 165 "LadderBenchModel" "up" "J", Cond.fieldLink RX10 169 "LadderBenchModel" "low" "J", Cond.fieldLink RX10 39 "LadderBenchModel" "lower" "[J", Cond.fieldLink RX10 36 "LadderBenchModel" "upper" "[J", Cond.methodLink RX10 214 yX10_infinite, Cond.instanceMethod yX10_infinite, Cond.selects RX10 yX10_infinite yX10_infinite, Cond.code yX10_infinite cX10_infinite 4 (some .int)]
def wsX10_layVoltages_r2 : List Cond := [Cond.methodLink RX10 217 yX10_product, Cond.instanceMethod yX10_product, Cond.selects RX10 yX10_product yX10_product, Cond.code yX10_product cX10_product 13 none, Cond.methodLink RX10 161 yX10_divisor, Cond.static yX10_divisor, Cond.code yX10_divisor cX10_divisor 10 (some .long), Cond.methodLink RX10 172 yX10_becomes, Cond.instanceMethod yX10_becomes, Cond.selects RX10 yX10_becomes yX10_becomes, Cond.code yX10_becomes cX10_becomes 7 none]
def wsX10_layVoltages : List Cond := .code yX10_layVoltages cX10_layVoltages 4 none :: ((wsX10_layVoltages_r1 ++ wsX10_layVoltages_r2) ++ wsX100)
def wsX10_findVoltage_r1 : List Cond := [Cond.fieldLink RX10 42 "LadderBenchModel" "voltUp" "[J", Cond.fieldLink RX10 165 "LadderBenchModel" "up" "J", Cond.fieldLink RX10 45 "LadderBenchModel" "voltLow" "[J", Cond.fieldLink RX10 169 "LadderBenchModel" "low" "J", Cond.methodLink RX10 209 yX10_lay, Cond.instanceMethod yX10_lay, Cond.selects RX10 yX10_lay yX10_lay, Cond.initialized RX10, Cond.code yX10_lay cX10_lay 9 none, Cond.fieldLink RX10 36 "LadderBenchModel" "upper" "[J", Cond.fieldLink RX10 39 "LadderBenchModel" "lower" "[J", Cond.fieldLink RX10 7 "LadderBenchModel" "now" "[J", Cond.methodLink RX10 56 yX10_parts, Cond.instanceMethod yX10_parts, Cond.selects RX10 yX10_parts yX10_parts, Cond.code yX10_parts cX10_parts 1 (some .int), Cond.methodLink RX10 130 yX10_ofPart, Cond.instanceMethod yX10_ofPart, Cond.selects RX10 yX10_ofPart yX10_ofPart, Cond.code yX10_ofPart cX10_ofPart 3 (some .int), Cond.methodLink RX10 193 yX10_layArm, Cond.instanceMethod yX10_layArm, Cond.selects RX10 yX10_layArm yX10_layArm, Cond.code yX10_layArm cX10_layArm 6 none]
def wsX10_findVoltage_r2 : List Cond := [Cond.methodLink RX10 64 yX10_ofArm, Cond.instanceMethod yX10_ofArm, Cond.selects RX10 yX10_ofArm yX10_ofArm, Cond.code yX10_ofArm cX10_ofArm 3 (some .int), Cond.methodLink RX10 196 yX10_laySeries, Cond.instanceMethod yX10_laySeries, Cond.selects RX10 yX10_laySeries yX10_laySeries, Cond.code yX10_laySeries cX10_laySeries 7 none, Cond.methodLink RX10 176 yX10_sum, Cond.instanceMethod yX10_sum, Cond.selects RX10 yX10_sum yX10_sum, Cond.code yX10_sum cX10_sum 11 none, Cond.methodLink RX10 161 yX10_divisor, Cond.static yX10_divisor, Cond.code yX10_divisor cX10_divisor 10 (some .long), Cond.methodLink RX10 172 yX10_becomes, Cond.instanceMethod yX10_becomes, Cond.selects RX10 yX10_becomes yX10_becomes, Cond.code yX10_becomes cX10_becomes 7 none, Cond.methodLink RX10 199 yX10_letsOf, Cond.instanceMethod yX10_letsOf, Cond.selects RX10 yX10_letsOf yX10_letsOf, Cond.code yX10_letsOf cX10_letsOf 4 none, Cond.fieldLink RX10 184 "LadderBenchModel" "letsUp" "J"]
def wsX10_findVoltage_r3 : List Cond := [Cond.fieldLink RX10 187 "LadderBenchModel" "letsLow" "J", Cond.fieldLink RX10 180 "LadderBenchModel" "isShort" "Z", Cond.methodLink RX10 190 yX10_lets, Cond.instanceMethod yX10_lets, Cond.selects RX10 yX10_lets yX10_lets, Cond.code yX10_lets cX10_lets 5 none, Cond.methodLink RX10 203 yX10_takeLets, Cond.instanceMethod yX10_takeLets, Cond.selects RX10 yX10_takeLets yX10_takeLets, Cond.code yX10_takeLets cX10_takeLets 2 none, Cond.methodLink RX10 223 yX10_layVoltages, Cond.instanceMethod yX10_layVoltages, Cond.selects RX10 yX10_layVoltages yX10_layVoltages, Cond.code yX10_layVoltages cX10_layVoltages 4 none, Cond.methodLink RX10 220 yX10_layVoltage, Cond.instanceMethod yX10_layVoltage, Cond.selects RX10 yX10_layVoltage yX10_layVoltage, Cond.code yX10_layVoltage cX10_layVoltage 3 none, Cond.methodLink RX10 214 yX10_infinite, Cond.instanceMethod yX10_infinite, Cond.selects RX10 yX10_infinite yX10_infinite, Cond.code yX10_infinite cX10_infinite 4 (some .int), Cond.methodLink RX10 217 yX10_product, Cond.instanceMethod yX10_product]
def wsX10_findVoltage_r4 : List Cond := [Cond.selects RX10 yX10_product yX10_product, Cond.code yX10_product cX10_product 13 none]
def wsX10_findVoltage : List Cond := .code yX10_findVoltage cX10_findVoltage 3 none :: ((wsX10_findVoltage_r1 ++ (wsX10_findVoltage_r2 ++ (wsX10_findVoltage_r3 ++ wsX10_findVoltage_r4))) ++ wsX100)
def wsX10_voltage_r1 : List Cond := [Cond.fieldLink RX10 165 "LadderBenchModel" "up" "J", Cond.fieldLink RX10 169 "LadderBenchModel" "low" "J", Cond.methodLink RX10 206 yX10_telling, Cond.instanceMethod yX10_telling, Cond.selects RX10 yX10_telling yX10_telling, Cond.initialized RX10, Cond.code yX10_telling cX10_telling 3 (some .int), Cond.methodLink RX10 145 yX10_noPart, Cond.instanceMethod yX10_noPart, Cond.selects RX10 yX10_noPart yX10_noPart, Cond.code yX10_noPart cX10_noPart 2 (some .boolean), Cond.methodLink RX10 56 yX10_parts, Cond.instanceMethod yX10_parts, Cond.selects RX10 yX10_parts yX10_parts, Cond.code yX10_parts cX10_parts 1 (some .int), Cond.fieldLink RX10 7 "LadderBenchModel" "now" "[J", Cond.methodLink RX10 60 yX10_in, Cond.static yX10_in, Cond.code yX10_in cX10_in 3 (some .boolean), Cond.methodLink RX10 226 yX10_findVoltage, Cond.instanceMethod yX10_findVoltage, Cond.selects RX10 yX10_findVoltage yX10_findVoltage, Cond.code yX10_findVoltage cX10_findVoltage 3 none, Cond.fieldLink RX10 42 "LadderBenchModel" "voltUp" "[J"]
def wsX10_voltage_r2 : List Cond := [Cond.fieldLink RX10 45 "LadderBenchModel" "voltLow" "[J", Cond.methodLink RX10 209 yX10_lay, Cond.instanceMethod yX10_lay, Cond.selects RX10 yX10_lay yX10_lay, Cond.code yX10_lay cX10_lay 9 none, Cond.fieldLink RX10 36 "LadderBenchModel" "upper" "[J", Cond.fieldLink RX10 39 "LadderBenchModel" "lower" "[J", Cond.methodLink RX10 130 yX10_ofPart, Cond.instanceMethod yX10_ofPart, Cond.selects RX10 yX10_ofPart yX10_ofPart, Cond.code yX10_ofPart cX10_ofPart 3 (some .int), Cond.methodLink RX10 193 yX10_layArm, Cond.instanceMethod yX10_layArm, Cond.selects RX10 yX10_layArm yX10_layArm, Cond.code yX10_layArm cX10_layArm 6 none, Cond.methodLink RX10 64 yX10_ofArm, Cond.instanceMethod yX10_ofArm, Cond.selects RX10 yX10_ofArm yX10_ofArm, Cond.code yX10_ofArm cX10_ofArm 3 (some .int), Cond.methodLink RX10 196 yX10_laySeries, Cond.instanceMethod yX10_laySeries, Cond.selects RX10 yX10_laySeries yX10_laySeries, Cond.code yX10_laySeries cX10_laySeries 7 none, Cond.methodLink RX10 176 yX10_sum]
def wsX10_voltage_r3 : List Cond := [Cond.instanceMethod yX10_sum, Cond.selects RX10 yX10_sum yX10_sum, Cond.code yX10_sum cX10_sum 11 none, Cond.methodLink RX10 161 yX10_divisor, Cond.static yX10_divisor, Cond.code yX10_divisor cX10_divisor 10 (some .long), Cond.methodLink RX10 172 yX10_becomes, Cond.instanceMethod yX10_becomes, Cond.selects RX10 yX10_becomes yX10_becomes, Cond.code yX10_becomes cX10_becomes 7 none, Cond.methodLink RX10 199 yX10_letsOf, Cond.instanceMethod yX10_letsOf, Cond.selects RX10 yX10_letsOf yX10_letsOf, Cond.code yX10_letsOf cX10_letsOf 4 none, Cond.fieldLink RX10 184 "LadderBenchModel" "letsUp" "J", Cond.fieldLink RX10 187 "LadderBenchModel" "letsLow" "J", Cond.fieldLink RX10 180 "LadderBenchModel" "isShort" "Z", Cond.methodLink RX10 190 yX10_lets, Cond.instanceMethod yX10_lets, Cond.selects RX10 yX10_lets yX10_lets, Cond.code yX10_lets cX10_lets 5 none, Cond.methodLink RX10 203 yX10_takeLets, Cond.instanceMethod yX10_takeLets, Cond.selects RX10 yX10_takeLets yX10_takeLets]
def wsX10_voltage_r4 : List Cond := [Cond.code yX10_takeLets cX10_takeLets 2 none, Cond.methodLink RX10 223 yX10_layVoltages, Cond.instanceMethod yX10_layVoltages, Cond.selects RX10 yX10_layVoltages yX10_layVoltages, Cond.code yX10_layVoltages cX10_layVoltages 4 none, Cond.methodLink RX10 220 yX10_layVoltage, Cond.instanceMethod yX10_layVoltage, Cond.selects RX10 yX10_layVoltage yX10_layVoltage, Cond.code yX10_layVoltage cX10_layVoltage 3 none, Cond.methodLink RX10 214 yX10_infinite, Cond.instanceMethod yX10_infinite, Cond.selects RX10 yX10_infinite yX10_infinite, Cond.code yX10_infinite cX10_infinite 4 (some .int), Cond.methodLink RX10 217 yX10_product, Cond.instanceMethod yX10_product, Cond.selects RX10 yX10_product yX10_product, Cond.code yX10_product cX10_product 13 none]
def wsX10_voltage : List Cond := .code yX10_voltage cX10_voltage 4 (some .long) :: ((wsX10_voltage_r1 ++ (wsX10_voltage_r2 ++ (wsX10_voltage_r3 ++ wsX10_voltage_r4))) ++ wsX100)
def wsX10_reading_r1 : List Cond := [Cond.fieldLink RX10 165 "LadderBenchModel" "up" "J", Cond.fieldLink RX10 169 "LadderBenchModel" "low" "J", Cond.methodLink RX10 206 yX10_telling, Cond.instanceMethod yX10_telling, Cond.selects RX10 yX10_telling yX10_telling, Cond.initialized RX10, Cond.code yX10_telling cX10_telling 3 (some .int), Cond.methodLink RX10 145 yX10_noPart, Cond.instanceMethod yX10_noPart, Cond.selects RX10 yX10_noPart yX10_noPart, Cond.code yX10_noPart cX10_noPart 2 (some .boolean), Cond.methodLink RX10 56 yX10_parts, Cond.instanceMethod yX10_parts, Cond.selects RX10 yX10_parts yX10_parts, Cond.code yX10_parts cX10_parts 1 (some .int), Cond.fieldLink RX10 7 "LadderBenchModel" "now" "[J", Cond.methodLink RX10 60 yX10_in, Cond.static yX10_in, Cond.code yX10_in cX10_in 3 (some .boolean), Cond.methodLink RX10 226 yX10_findVoltage, Cond.instanceMethod yX10_findVoltage, Cond.selects RX10 yX10_findVoltage yX10_findVoltage, Cond.code yX10_findVoltage cX10_findVoltage 3 none, Cond.fieldLink RX10 42 "LadderBenchModel" "voltUp" "[J"]
def wsX10_reading_r2 : List Cond := [Cond.fieldLink RX10 45 "LadderBenchModel" "voltLow" "[J", Cond.methodLink RX10 209 yX10_lay, Cond.instanceMethod yX10_lay, Cond.selects RX10 yX10_lay yX10_lay, Cond.code yX10_lay cX10_lay 9 none, Cond.fieldLink RX10 36 "LadderBenchModel" "upper" "[J", Cond.fieldLink RX10 39 "LadderBenchModel" "lower" "[J", Cond.methodLink RX10 130 yX10_ofPart, Cond.instanceMethod yX10_ofPart, Cond.selects RX10 yX10_ofPart yX10_ofPart, Cond.code yX10_ofPart cX10_ofPart 3 (some .int), Cond.methodLink RX10 193 yX10_layArm, Cond.instanceMethod yX10_layArm, Cond.selects RX10 yX10_layArm yX10_layArm, Cond.code yX10_layArm cX10_layArm 6 none, Cond.methodLink RX10 64 yX10_ofArm, Cond.instanceMethod yX10_ofArm, Cond.selects RX10 yX10_ofArm yX10_ofArm, Cond.code yX10_ofArm cX10_ofArm 3 (some .int), Cond.methodLink RX10 196 yX10_laySeries, Cond.instanceMethod yX10_laySeries, Cond.selects RX10 yX10_laySeries yX10_laySeries, Cond.code yX10_laySeries cX10_laySeries 7 none, Cond.methodLink RX10 176 yX10_sum]
def wsX10_reading_r3 : List Cond := [Cond.instanceMethod yX10_sum, Cond.selects RX10 yX10_sum yX10_sum, Cond.code yX10_sum cX10_sum 11 none, Cond.methodLink RX10 161 yX10_divisor, Cond.static yX10_divisor, Cond.code yX10_divisor cX10_divisor 10 (some .long), Cond.methodLink RX10 172 yX10_becomes, Cond.instanceMethod yX10_becomes, Cond.selects RX10 yX10_becomes yX10_becomes, Cond.code yX10_becomes cX10_becomes 7 none, Cond.methodLink RX10 199 yX10_letsOf, Cond.instanceMethod yX10_letsOf, Cond.selects RX10 yX10_letsOf yX10_letsOf, Cond.code yX10_letsOf cX10_letsOf 4 none, Cond.fieldLink RX10 184 "LadderBenchModel" "letsUp" "J", Cond.fieldLink RX10 187 "LadderBenchModel" "letsLow" "J", Cond.fieldLink RX10 180 "LadderBenchModel" "isShort" "Z", Cond.methodLink RX10 190 yX10_lets, Cond.instanceMethod yX10_lets, Cond.selects RX10 yX10_lets yX10_lets, Cond.code yX10_lets cX10_lets 5 none, Cond.methodLink RX10 203 yX10_takeLets, Cond.instanceMethod yX10_takeLets, Cond.selects RX10 yX10_takeLets yX10_takeLets]
def wsX10_reading_r4 : List Cond := [Cond.code yX10_takeLets cX10_takeLets 2 none, Cond.methodLink RX10 223 yX10_layVoltages, Cond.instanceMethod yX10_layVoltages, Cond.selects RX10 yX10_layVoltages yX10_layVoltages, Cond.code yX10_layVoltages cX10_layVoltages 4 none, Cond.methodLink RX10 220 yX10_layVoltage, Cond.instanceMethod yX10_layVoltage, Cond.selects RX10 yX10_layVoltage yX10_layVoltage, Cond.code yX10_layVoltage cX10_layVoltage 3 none, Cond.methodLink RX10 214 yX10_infinite, Cond.instanceMethod yX10_infinite, Cond.selects RX10 yX10_infinite yX10_infinite, Cond.code yX10_infinite cX10_infinite 4 (some .int), Cond.methodLink RX10 217 yX10_product, Cond.instanceMethod yX10_product, Cond.selects RX10 yX10_product yX10_product, Cond.code yX10_product cX10_product 13 none]
def wsX10_reading : List Cond := .code yX10_reading cX10_reading 4 (some .long) :: ((wsX10_reading_r1 ++ (wsX10_reading_r2 ++ (wsX10_reading_r3 ++ wsX10_reading_r4))) ++ wsX100)
def wsX10_lossOf_r1 : List Cond := [Cond.fieldLink RX10 165 "LadderBenchModel" "up" "J", Cond.fieldLink RX10 169 "LadderBenchModel" "low" "J", Cond.constantLong RX10 229 (1000), Cond.methodLink RX10 226 yX10_findVoltage, Cond.instanceMethod yX10_findVoltage, Cond.selects RX10 yX10_findVoltage yX10_findVoltage, Cond.initialized RX10, Cond.code yX10_findVoltage cX10_findVoltage 3 none, Cond.fieldLink RX10 42 "LadderBenchModel" "voltUp" "[J", Cond.fieldLink RX10 45 "LadderBenchModel" "voltLow" "[J", Cond.methodLink RX10 209 yX10_lay, Cond.instanceMethod yX10_lay, Cond.selects RX10 yX10_lay yX10_lay, Cond.code yX10_lay cX10_lay 9 none, Cond.fieldLink RX10 36 "LadderBenchModel" "upper" "[J", Cond.fieldLink RX10 39 "LadderBenchModel" "lower" "[J", Cond.fieldLink RX10 7 "LadderBenchModel" "now" "[J", Cond.methodLink RX10 56 yX10_parts, Cond.instanceMethod yX10_parts, Cond.selects RX10 yX10_parts yX10_parts, Cond.code yX10_parts cX10_parts 1 (some .int), Cond.methodLink RX10 130 yX10_ofPart, Cond.instanceMethod yX10_ofPart, Cond.selects RX10 yX10_ofPart yX10_ofPart]
def wsX10_lossOf_r2 : List Cond := [Cond.code yX10_ofPart cX10_ofPart 3 (some .int), Cond.methodLink RX10 193 yX10_layArm, Cond.instanceMethod yX10_layArm, Cond.selects RX10 yX10_layArm yX10_layArm, Cond.code yX10_layArm cX10_layArm 6 none, Cond.methodLink RX10 64 yX10_ofArm, Cond.instanceMethod yX10_ofArm, Cond.selects RX10 yX10_ofArm yX10_ofArm, Cond.code yX10_ofArm cX10_ofArm 3 (some .int), Cond.methodLink RX10 196 yX10_laySeries, Cond.instanceMethod yX10_laySeries, Cond.selects RX10 yX10_laySeries yX10_laySeries, Cond.code yX10_laySeries cX10_laySeries 7 none, Cond.methodLink RX10 176 yX10_sum, Cond.instanceMethod yX10_sum, Cond.selects RX10 yX10_sum yX10_sum, Cond.code yX10_sum cX10_sum 11 none, Cond.methodLink RX10 161 yX10_divisor, Cond.static yX10_divisor, Cond.code yX10_divisor cX10_divisor 10 (some .long), Cond.methodLink RX10 172 yX10_becomes, Cond.instanceMethod yX10_becomes, Cond.selects RX10 yX10_becomes yX10_becomes, Cond.code yX10_becomes cX10_becomes 7 none]
def wsX10_lossOf_r3 : List Cond := [Cond.methodLink RX10 199 yX10_letsOf, Cond.instanceMethod yX10_letsOf, Cond.selects RX10 yX10_letsOf yX10_letsOf, Cond.code yX10_letsOf cX10_letsOf 4 none, Cond.fieldLink RX10 184 "LadderBenchModel" "letsUp" "J", Cond.fieldLink RX10 187 "LadderBenchModel" "letsLow" "J", Cond.fieldLink RX10 180 "LadderBenchModel" "isShort" "Z", Cond.methodLink RX10 190 yX10_lets, Cond.instanceMethod yX10_lets, Cond.selects RX10 yX10_lets yX10_lets, Cond.code yX10_lets cX10_lets 5 none, Cond.methodLink RX10 203 yX10_takeLets, Cond.instanceMethod yX10_takeLets, Cond.selects RX10 yX10_takeLets yX10_takeLets, Cond.code yX10_takeLets cX10_takeLets 2 none, Cond.methodLink RX10 223 yX10_layVoltages, Cond.instanceMethod yX10_layVoltages, Cond.selects RX10 yX10_layVoltages yX10_layVoltages, Cond.code yX10_layVoltages cX10_layVoltages 4 none, Cond.methodLink RX10 220 yX10_layVoltage, Cond.instanceMethod yX10_layVoltage, Cond.selects RX10 yX10_layVoltage yX10_layVoltage, Cond.code yX10_layVoltage cX10_layVoltage 3 none, Cond.methodLink RX10 214 yX10_infinite]
def wsX10_lossOf_r4 : List Cond := [Cond.instanceMethod yX10_infinite, Cond.selects RX10 yX10_infinite yX10_infinite, Cond.code yX10_infinite cX10_infinite 4 (some .int), Cond.methodLink RX10 217 yX10_product, Cond.instanceMethod yX10_product, Cond.selects RX10 yX10_product yX10_product, Cond.code yX10_product cX10_product 13 none]
def wsX10_lossOf : List Cond := .code yX10_lossOf cX10_lossOf 6 (some .int) :: ((wsX10_lossOf_r1 ++ (wsX10_lossOf_r2 ++ (wsX10_lossOf_r3 ++ wsX10_lossOf_r4))) ++ wsX100)
def wsX10_loss_r1 : List Cond := [Cond.methodLink RX10 145 yX10_noPart, Cond.instanceMethod yX10_noPart, Cond.selects RX10 yX10_noPart yX10_noPart, Cond.initialized RX10, Cond.code yX10_noPart cX10_noPart 2 (some .boolean), Cond.methodLink RX10 56 yX10_parts, Cond.instanceMethod yX10_parts, Cond.selects RX10 yX10_parts yX10_parts, Cond.code yX10_parts cX10_parts 1 (some .int), Cond.fieldLink RX10 7 "LadderBenchModel" "now" "[J", Cond.methodLink RX10 60 yX10_in, Cond.static yX10_in, Cond.code yX10_in cX10_in 3 (some .boolean), Cond.methodLink RX10 231 yX10_lossOf, Cond.instanceMethod yX10_lossOf, Cond.selects RX10 yX10_lossOf yX10_lossOf, Cond.code yX10_lossOf cX10_lossOf 6 (some .int), Cond.fieldLink RX10 165 "LadderBenchModel" "up" "J", Cond.fieldLink RX10 169 "LadderBenchModel" "low" "J", Cond.constantLong RX10 229 (1000), Cond.methodLink RX10 226 yX10_findVoltage, Cond.instanceMethod yX10_findVoltage, Cond.selects RX10 yX10_findVoltage yX10_findVoltage, Cond.code yX10_findVoltage cX10_findVoltage 3 none]
def wsX10_loss_r2 : List Cond := [Cond.fieldLink RX10 42 "LadderBenchModel" "voltUp" "[J", Cond.fieldLink RX10 45 "LadderBenchModel" "voltLow" "[J", Cond.methodLink RX10 209 yX10_lay, Cond.instanceMethod yX10_lay, Cond.selects RX10 yX10_lay yX10_lay, Cond.code yX10_lay cX10_lay 9 none, Cond.fieldLink RX10 36 "LadderBenchModel" "upper" "[J", Cond.fieldLink RX10 39 "LadderBenchModel" "lower" "[J", Cond.methodLink RX10 130 yX10_ofPart, Cond.instanceMethod yX10_ofPart, Cond.selects RX10 yX10_ofPart yX10_ofPart, Cond.code yX10_ofPart cX10_ofPart 3 (some .int), Cond.methodLink RX10 193 yX10_layArm, Cond.instanceMethod yX10_layArm, Cond.selects RX10 yX10_layArm yX10_layArm, Cond.code yX10_layArm cX10_layArm 6 none, Cond.methodLink RX10 64 yX10_ofArm, Cond.instanceMethod yX10_ofArm, Cond.selects RX10 yX10_ofArm yX10_ofArm, Cond.code yX10_ofArm cX10_ofArm 3 (some .int), Cond.methodLink RX10 196 yX10_laySeries, Cond.instanceMethod yX10_laySeries, Cond.selects RX10 yX10_laySeries yX10_laySeries, Cond.code yX10_laySeries cX10_laySeries 7 none]
def wsX10_loss_r3 : List Cond := [Cond.methodLink RX10 176 yX10_sum, Cond.instanceMethod yX10_sum, Cond.selects RX10 yX10_sum yX10_sum, Cond.code yX10_sum cX10_sum 11 none, Cond.methodLink RX10 161 yX10_divisor, Cond.static yX10_divisor, Cond.code yX10_divisor cX10_divisor 10 (some .long), Cond.methodLink RX10 172 yX10_becomes, Cond.instanceMethod yX10_becomes, Cond.selects RX10 yX10_becomes yX10_becomes, Cond.code yX10_becomes cX10_becomes 7 none, Cond.methodLink RX10 199 yX10_letsOf, Cond.instanceMethod yX10_letsOf, Cond.selects RX10 yX10_letsOf yX10_letsOf, Cond.code yX10_letsOf cX10_letsOf 4 none, Cond.fieldLink RX10 184 "LadderBenchModel" "letsUp" "J", Cond.fieldLink RX10 187 "LadderBenchModel" "letsLow" "J", Cond.fieldLink RX10 180 "LadderBenchModel" "isShort" "Z", Cond.methodLink RX10 190 yX10_lets, Cond.instanceMethod yX10_lets, Cond.selects RX10 yX10_lets yX10_lets, Cond.code yX10_lets cX10_lets 5 none, Cond.methodLink RX10 203 yX10_takeLets, Cond.instanceMethod yX10_takeLets]
def wsX10_loss_r4 : List Cond := [Cond.selects RX10 yX10_takeLets yX10_takeLets, Cond.code yX10_takeLets cX10_takeLets 2 none, Cond.methodLink RX10 223 yX10_layVoltages, Cond.instanceMethod yX10_layVoltages, Cond.selects RX10 yX10_layVoltages yX10_layVoltages, Cond.code yX10_layVoltages cX10_layVoltages 4 none, Cond.methodLink RX10 220 yX10_layVoltage, Cond.instanceMethod yX10_layVoltage, Cond.selects RX10 yX10_layVoltage yX10_layVoltage, Cond.code yX10_layVoltage cX10_layVoltage 3 none, Cond.methodLink RX10 214 yX10_infinite, Cond.instanceMethod yX10_infinite, Cond.selects RX10 yX10_infinite yX10_infinite, Cond.code yX10_infinite cX10_infinite 4 (some .int), Cond.methodLink RX10 217 yX10_product, Cond.instanceMethod yX10_product, Cond.selects RX10 yX10_product yX10_product, Cond.code yX10_product cX10_product 13 none]
def wsX10_loss : List Cond := .code yX10_loss cX10_loss 2 (some .int) :: ((wsX10_loss_r1 ++ (wsX10_loss_r2 ++ (wsX10_loss_r3 ++ wsX10_loss_r4))) ++ wsX100)
def wsX10_worst_r1 : List Cond := [Cond.methodLink RX10 56 yX10_parts, Cond.instanceMethod yX10_parts, Cond.selects RX10 yX10_parts yX10_parts, Cond.initialized RX10, Cond.code yX10_parts cX10_parts 1 (some .int), Cond.fieldLink RX10 7 "LadderBenchModel" "now" "[J", Cond.methodLink RX10 231 yX10_lossOf, Cond.instanceMethod yX10_lossOf, Cond.selects RX10 yX10_lossOf yX10_lossOf, Cond.code yX10_lossOf cX10_lossOf 6 (some .int), Cond.fieldLink RX10 165 "LadderBenchModel" "up" "J", Cond.fieldLink RX10 169 "LadderBenchModel" "low" "J", Cond.constantLong RX10 229 (1000), Cond.methodLink RX10 226 yX10_findVoltage, Cond.instanceMethod yX10_findVoltage, Cond.selects RX10 yX10_findVoltage yX10_findVoltage, Cond.code yX10_findVoltage cX10_findVoltage 3 none, Cond.fieldLink RX10 42 "LadderBenchModel" "voltUp" "[J", Cond.fieldLink RX10 45 "LadderBenchModel" "voltLow" "[J", Cond.methodLink RX10 209 yX10_lay, Cond.instanceMethod yX10_lay, Cond.selects RX10 yX10_lay yX10_lay, Cond.code yX10_lay cX10_lay 9 none, Cond.fieldLink RX10 36 "LadderBenchModel" "upper" "[J"]
def wsX10_worst_r2 : List Cond := [Cond.fieldLink RX10 39 "LadderBenchModel" "lower" "[J", Cond.methodLink RX10 130 yX10_ofPart, Cond.instanceMethod yX10_ofPart, Cond.selects RX10 yX10_ofPart yX10_ofPart, Cond.code yX10_ofPart cX10_ofPart 3 (some .int), Cond.methodLink RX10 193 yX10_layArm, Cond.instanceMethod yX10_layArm, Cond.selects RX10 yX10_layArm yX10_layArm, Cond.code yX10_layArm cX10_layArm 6 none, Cond.methodLink RX10 64 yX10_ofArm, Cond.instanceMethod yX10_ofArm, Cond.selects RX10 yX10_ofArm yX10_ofArm, Cond.code yX10_ofArm cX10_ofArm 3 (some .int), Cond.methodLink RX10 196 yX10_laySeries, Cond.instanceMethod yX10_laySeries, Cond.selects RX10 yX10_laySeries yX10_laySeries, Cond.code yX10_laySeries cX10_laySeries 7 none, Cond.methodLink RX10 176 yX10_sum, Cond.instanceMethod yX10_sum, Cond.selects RX10 yX10_sum yX10_sum, Cond.code yX10_sum cX10_sum 11 none, Cond.methodLink RX10 161 yX10_divisor, Cond.static yX10_divisor, Cond.code yX10_divisor cX10_divisor 10 (some .long)]
def wsX10_worst_r3 : List Cond := [Cond.methodLink RX10 172 yX10_becomes, Cond.instanceMethod yX10_becomes, Cond.selects RX10 yX10_becomes yX10_becomes, Cond.code yX10_becomes cX10_becomes 7 none, Cond.methodLink RX10 199 yX10_letsOf, Cond.instanceMethod yX10_letsOf, Cond.selects RX10 yX10_letsOf yX10_letsOf, Cond.code yX10_letsOf cX10_letsOf 4 none, Cond.fieldLink RX10 184 "LadderBenchModel" "letsUp" "J", Cond.fieldLink RX10 187 "LadderBenchModel" "letsLow" "J", Cond.fieldLink RX10 180 "LadderBenchModel" "isShort" "Z", Cond.methodLink RX10 190 yX10_lets, Cond.instanceMethod yX10_lets, Cond.selects RX10 yX10_lets yX10_lets, Cond.code yX10_lets cX10_lets 5 none, Cond.methodLink RX10 203 yX10_takeLets, Cond.instanceMethod yX10_takeLets, Cond.selects RX10 yX10_takeLets yX10_takeLets, Cond.code yX10_takeLets cX10_takeLets 2 none, Cond.methodLink RX10 223 yX10_layVoltages, Cond.instanceMethod yX10_layVoltages, Cond.selects RX10 yX10_layVoltages yX10_layVoltages, Cond.code yX10_layVoltages cX10_layVoltages 4 none, Cond.methodLink RX10 220 yX10_layVoltage]
def wsX10_worst_r4 : List Cond := [Cond.instanceMethod yX10_layVoltage, Cond.selects RX10 yX10_layVoltage yX10_layVoltage, Cond.code yX10_layVoltage cX10_layVoltage 3 none, Cond.methodLink RX10 214 yX10_infinite, Cond.instanceMethod yX10_infinite, Cond.selects RX10 yX10_infinite yX10_infinite, Cond.code yX10_infinite cX10_infinite 4 (some .int), Cond.methodLink RX10 217 yX10_product, Cond.instanceMethod yX10_product, Cond.selects RX10 yX10_product yX10_product, Cond.code yX10_product cX10_product 13 none]
def wsX10_worst : List Cond := .code yX10_worst cX10_worst 5 (some .int) :: ((wsX10_worst_r1 ++ (wsX10_worst_r2 ++ (wsX10_worst_r3 ++ wsX10_worst_r4))) ++ wsX100)
def wsX10_note_r1 : List Cond := [Cond.fieldLink RX10 7 "LadderBenchModel" "now" "[J", Cond.fieldLink RX10 165 "LadderBenchModel" "up" "J", Cond.fieldLink RX10 169 "LadderBenchModel" "low" "J", Cond.methodLink RX10 145 yX10_noPart, Cond.instanceMethod yX10_noPart, Cond.selects RX10 yX10_noPart yX10_noPart, Cond.initialized RX10, Cond.code yX10_noPart cX10_noPart 2 (some .boolean), Cond.methodLink RX10 56 yX10_parts, Cond.instanceMethod yX10_parts, Cond.selects RX10 yX10_parts yX10_parts, Cond.code yX10_parts cX10_parts 1 (some .int), Cond.methodLink RX10 60 yX10_in, Cond.static yX10_in, Cond.code yX10_in cX10_in 3 (some .boolean), Cond.methodLink RX10 226 yX10_findVoltage, Cond.instanceMethod yX10_findVoltage, Cond.selects RX10 yX10_findVoltage yX10_findVoltage, Cond.code yX10_findVoltage cX10_findVoltage 3 none, Cond.fieldLink RX10 42 "LadderBenchModel" "voltUp" "[J", Cond.fieldLink RX10 45 "LadderBenchModel" "voltLow" "[J", Cond.methodLink RX10 209 yX10_lay, Cond.instanceMethod yX10_lay, Cond.selects RX10 yX10_lay yX10_lay]
def wsX10_note_r2 : List Cond := [Cond.code yX10_lay cX10_lay 9 none, Cond.fieldLink RX10 36 "LadderBenchModel" "upper" "[J", Cond.fieldLink RX10 39 "LadderBenchModel" "lower" "[J", Cond.methodLink RX10 130 yX10_ofPart, Cond.instanceMethod yX10_ofPart, Cond.selects RX10 yX10_ofPart yX10_ofPart, Cond.code yX10_ofPart cX10_ofPart 3 (some .int), Cond.methodLink RX10 193 yX10_layArm, Cond.instanceMethod yX10_layArm, Cond.selects RX10 yX10_layArm yX10_layArm, Cond.code yX10_layArm cX10_layArm 6 none, Cond.methodLink RX10 64 yX10_ofArm, Cond.instanceMethod yX10_ofArm, Cond.selects RX10 yX10_ofArm yX10_ofArm, Cond.code yX10_ofArm cX10_ofArm 3 (some .int), Cond.methodLink RX10 196 yX10_laySeries, Cond.instanceMethod yX10_laySeries, Cond.selects RX10 yX10_laySeries yX10_laySeries, Cond.code yX10_laySeries cX10_laySeries 7 none, Cond.methodLink RX10 176 yX10_sum, Cond.instanceMethod yX10_sum, Cond.selects RX10 yX10_sum yX10_sum, Cond.code yX10_sum cX10_sum 11 none, Cond.methodLink RX10 161 yX10_divisor]
def wsX10_note_r3 : List Cond := [Cond.static yX10_divisor, Cond.code yX10_divisor cX10_divisor 10 (some .long), Cond.methodLink RX10 172 yX10_becomes, Cond.instanceMethod yX10_becomes, Cond.selects RX10 yX10_becomes yX10_becomes, Cond.code yX10_becomes cX10_becomes 7 none, Cond.methodLink RX10 199 yX10_letsOf, Cond.instanceMethod yX10_letsOf, Cond.selects RX10 yX10_letsOf yX10_letsOf, Cond.code yX10_letsOf cX10_letsOf 4 none, Cond.fieldLink RX10 184 "LadderBenchModel" "letsUp" "J", Cond.fieldLink RX10 187 "LadderBenchModel" "letsLow" "J", Cond.fieldLink RX10 180 "LadderBenchModel" "isShort" "Z", Cond.methodLink RX10 190 yX10_lets, Cond.instanceMethod yX10_lets, Cond.selects RX10 yX10_lets yX10_lets, Cond.code yX10_lets cX10_lets 5 none, Cond.methodLink RX10 203 yX10_takeLets, Cond.instanceMethod yX10_takeLets, Cond.selects RX10 yX10_takeLets yX10_takeLets, Cond.code yX10_takeLets cX10_takeLets 2 none, Cond.methodLink RX10 223 yX10_layVoltages, Cond.instanceMethod yX10_layVoltages, Cond.selects RX10 yX10_layVoltages yX10_layVoltages]
def wsX10_note_r4 : List Cond := [Cond.code yX10_layVoltages cX10_layVoltages 4 none, Cond.methodLink RX10 220 yX10_layVoltage, Cond.instanceMethod yX10_layVoltage, Cond.selects RX10 yX10_layVoltage yX10_layVoltage, Cond.code yX10_layVoltage cX10_layVoltage 3 none, Cond.methodLink RX10 214 yX10_infinite, Cond.instanceMethod yX10_infinite, Cond.selects RX10 yX10_infinite yX10_infinite, Cond.code yX10_infinite cX10_infinite 4 (some .int), Cond.methodLink RX10 217 yX10_product, Cond.instanceMethod yX10_product, Cond.selects RX10 yX10_product yX10_product, Cond.code yX10_product cX10_product 13 none, Cond.methodLink RX10 99 yX10_record, Cond.instanceMethod yX10_record, Cond.selects RX10 yX10_record yX10_record, Cond.code yX10_record cX10_record 2 none, Cond.fieldLink RX10 52 "LadderBenchModel" "kept" "I", Cond.fieldLink RX10 13 "LadderBenchModel" "history" "[J"]
def wsX10_note : List Cond := .code yX10_note cX10_note 4 (some .int) :: ((wsX10_note_r1 ++ (wsX10_note_r2 ++ (wsX10_note_r3 ++ wsX10_note_r4))) ++ wsX100)
def wsX10_noted : List Cond := .code yX10_noted cX10_noted 3 (some .long) :: ([.constantLong RX10 234 (-2), .fieldLink RX10 7 "LadderBenchModel" "now" "[J", .constantLong RX10 212 (-4), .methodLink RX10 60 yX10_in, .static yX10_in, .initialized RX10, .code yX10_in cX10_in 3 (some .boolean)] ++ wsX100)
def wsX10_undo : List Cond := .code yX10_undo cX10_undo 2 (some .int) :: ([.fieldLink RX10 52 "LadderBenchModel" "kept" "I", .fieldLink RX10 7 "LadderBenchModel" "now" "[J", .fieldLink RX10 13 "LadderBenchModel" "history" "[J"] ++ wsX100)
def wsX10_keep : List Cond := .code yX10_keep cX10_keep 2 (some .int) :: ([.fieldLink RX10 16 "LadderBenchModel" "slot" "[J", .fieldLink RX10 7 "LadderBenchModel" "now" "[J", .fieldLink RX10 236 "LadderBenchModel" "isFilled" "Z", .methodLink RX10 56 yX10_parts, .instanceMethod yX10_parts, .selects RX10 yX10_parts yX10_parts, .initialized RX10, .code yX10_parts cX10_parts 1 (some .int)] ++ wsX100)
def wsX10_restore : List Cond := .code yX10_restore cX10_restore 2 (some .int) :: ([.fieldLink RX10 236 "LadderBenchModel" "isFilled" "Z", .fieldLink RX10 7 "LadderBenchModel" "now" "[J", .fieldLink RX10 16 "LadderBenchModel" "slot" "[J", .methodLink RX10 99 yX10_record, .instanceMethod yX10_record, .selects RX10 yX10_record yX10_record, .initialized RX10, .code yX10_record cX10_record 2 none, .fieldLink RX10 52 "LadderBenchModel" "kept" "I", .fieldLink RX10 13 "LadderBenchModel" "history" "[J", .methodLink RX10 56 yX10_parts, .instanceMethod yX10_parts, .selects RX10 yX10_parts yX10_parts, .code yX10_parts cX10_parts 1 (some .int)] ++ wsX100)
def wsX10_armsIn : List Cond := .code yX10_armsIn cX10_armsIn 5 (some .int) :: ([.methodLink RX10 130 yX10_ofPart, .instanceMethod yX10_ofPart, .selects RX10 yX10_ofPart yX10_ofPart, .initialized RX10, .code yX10_ofPart cX10_ofPart 3 (some .int), .fieldLink RX10 7 "LadderBenchModel" "now" "[J"] ++ wsX100)
def wsX10_firstIn : List Cond := .code yX10_firstIn cX10_firstIn 3 (some .int) :: ([.methodLink RX10 130 yX10_ofPart, .instanceMethod yX10_ofPart, .selects RX10 yX10_ofPart yX10_ofPart, .initialized RX10, .code yX10_ofPart cX10_ofPart 3 (some .int), .fieldLink RX10 7 "LadderBenchModel" "now" "[J"] ++ wsX100)
def wsX10_part_r1 : List Cond := [Cond.methodLink RX10 145 yX10_noPart, Cond.instanceMethod yX10_noPart, Cond.selects RX10 yX10_noPart yX10_noPart, Cond.initialized RX10, Cond.code yX10_noPart cX10_noPart 2 (some .boolean), Cond.methodLink RX10 56 yX10_parts, Cond.instanceMethod yX10_parts, Cond.selects RX10 yX10_parts yX10_parts, Cond.code yX10_parts cX10_parts 1 (some .int), Cond.fieldLink RX10 7 "LadderBenchModel" "now" "[J", Cond.methodLink RX10 60 yX10_in, Cond.static yX10_in, Cond.code yX10_in cX10_in 3 (some .boolean), Cond.methodLink RX10 130 yX10_ofPart, Cond.instanceMethod yX10_ofPart, Cond.selects RX10 yX10_ofPart yX10_ofPart, Cond.code yX10_ofPart cX10_ofPart 3 (some .int), Cond.methodLink RX10 239 yX10_armsIn, Cond.instanceMethod yX10_armsIn, Cond.selects RX10 yX10_armsIn yX10_armsIn, Cond.code yX10_armsIn cX10_armsIn 5 (some .int), Cond.methodLink RX10 142 yX10_isFolded, Cond.instanceMethod yX10_isFolded, Cond.selects RX10 yX10_isFolded yX10_isFolded]
def wsX10_part_r2 : List Cond := [Cond.code yX10_isFolded cX10_isFolded 2 (some .boolean), Cond.methodLink RX10 148 yX10_mayFold, Cond.instanceMethod yX10_mayFold, Cond.selects RX10 yX10_mayFold yX10_mayFold, Cond.code yX10_mayFold cX10_mayFold 3 (some .boolean), Cond.methodLink RX10 242 yX10_firstIn, Cond.instanceMethod yX10_firstIn, Cond.selects RX10 yX10_firstIn yX10_firstIn, Cond.code yX10_firstIn cX10_firstIn 3 (some .int)]
def wsX10_part : List Cond := .code yX10_part cX10_part 3 (some .int) :: ((wsX10_part_r1 ++ wsX10_part_r2) ++ wsX100)
def wsX10_armBy : List Cond := .code yX10_armBy cX10_armBy 2 (some .int) :: ([.methodLink RX10 60 yX10_in, .static yX10_in, .initialized RX10, .code yX10_in cX10_in 3 (some .boolean), .methodLink RX10 136 yX10_hasArm, .instanceMethod yX10_hasArm, .selects RX10 yX10_hasArm yX10_hasArm, .code yX10_hasArm cX10_hasArm 2 (some .boolean), .methodLink RX10 64 yX10_ofArm, .instanceMethod yX10_ofArm, .selects RX10 yX10_ofArm yX10_ofArm, .code yX10_ofArm cX10_ofArm 3 (some .int), .fieldLink RX10 7 "LadderBenchModel" "now" "[J"] ++ wsX100)
def wsX10_arm : List Cond := .code yX10_arm cX10_arm 4 (some .int) :: ([.methodLink RX10 245 yX10_armBy, .instanceMethod yX10_armBy, .selects RX10 yX10_armBy yX10_armBy, .initialized RX10, .code yX10_armBy cX10_armBy 2 (some .int), .methodLink RX10 60 yX10_in, .static yX10_in, .code yX10_in cX10_in 3 (some .boolean), .methodLink RX10 136 yX10_hasArm, .instanceMethod yX10_hasArm, .selects RX10 yX10_hasArm yX10_hasArm, .code yX10_hasArm cX10_hasArm 2 (some .boolean), .methodLink RX10 64 yX10_ofArm, .instanceMethod yX10_ofArm, .selects RX10 yX10_ofArm yX10_ofArm, .code yX10_ofArm cX10_ofArm 3 (some .int), .fieldLink RX10 7 "LadderBenchModel" "now" "[J"] ++ wsX100)
def wsX10_goesIn_r1 : List Cond := [Cond.fieldLink RX10 165 "LadderBenchModel" "up" "J", Cond.fieldLink RX10 169 "LadderBenchModel" "low" "J", Cond.fieldLink RX10 39 "LadderBenchModel" "lower" "[J", Cond.fieldLink RX10 36 "LadderBenchModel" "upper" "[J", Cond.fieldLink RX10 180 "LadderBenchModel" "isShort" "Z", Cond.fieldLink RX10 184 "LadderBenchModel" "letsUp" "J", Cond.fieldLink RX10 187 "LadderBenchModel" "letsLow" "J", Cond.methodLink RX10 130 yX10_ofPart, Cond.instanceMethod yX10_ofPart, Cond.selects RX10 yX10_ofPart yX10_ofPart, Cond.initialized RX10, Cond.code yX10_ofPart cX10_ofPart 3 (some .int), Cond.fieldLink RX10 7 "LadderBenchModel" "now" "[J", Cond.methodLink RX10 176 yX10_sum, Cond.instanceMethod yX10_sum, Cond.selects RX10 yX10_sum yX10_sum, Cond.code yX10_sum cX10_sum 11 none, Cond.methodLink RX10 161 yX10_divisor, Cond.static yX10_divisor, Cond.code yX10_divisor cX10_divisor 10 (some .long), Cond.methodLink RX10 172 yX10_becomes, Cond.instanceMethod yX10_becomes, Cond.selects RX10 yX10_becomes yX10_becomes, Cond.code yX10_becomes cX10_becomes 7 none]
def wsX10_goesIn_r2 : List Cond := [Cond.methodLink RX10 199 yX10_letsOf, Cond.instanceMethod yX10_letsOf, Cond.selects RX10 yX10_letsOf yX10_letsOf, Cond.code yX10_letsOf cX10_letsOf 4 none, Cond.methodLink RX10 190 yX10_lets, Cond.instanceMethod yX10_lets, Cond.selects RX10 yX10_lets yX10_lets, Cond.code yX10_lets cX10_lets 5 none]
def wsX10_goesIn : List Cond := .code yX10_goesIn cX10_goesIn 12 (some .int) :: ((wsX10_goesIn_r1 ++ wsX10_goesIn_r2) ++ wsX100)
def wsX10_find_r1 : List Cond := [Cond.fieldLink RX10 169 "LadderBenchModel" "low" "J", Cond.methodLink RX10 209 yX10_lay, Cond.instanceMethod yX10_lay, Cond.selects RX10 yX10_lay yX10_lay, Cond.initialized RX10, Cond.code yX10_lay cX10_lay 9 none, Cond.fieldLink RX10 36 "LadderBenchModel" "upper" "[J", Cond.fieldLink RX10 39 "LadderBenchModel" "lower" "[J", Cond.fieldLink RX10 7 "LadderBenchModel" "now" "[J", Cond.methodLink RX10 56 yX10_parts, Cond.instanceMethod yX10_parts, Cond.selects RX10 yX10_parts yX10_parts, Cond.code yX10_parts cX10_parts 1 (some .int), Cond.methodLink RX10 130 yX10_ofPart, Cond.instanceMethod yX10_ofPart, Cond.selects RX10 yX10_ofPart yX10_ofPart, Cond.code yX10_ofPart cX10_ofPart 3 (some .int), Cond.methodLink RX10 193 yX10_layArm, Cond.instanceMethod yX10_layArm, Cond.selects RX10 yX10_layArm yX10_layArm, Cond.code yX10_layArm cX10_layArm 6 none, Cond.methodLink RX10 64 yX10_ofArm, Cond.instanceMethod yX10_ofArm, Cond.selects RX10 yX10_ofArm yX10_ofArm]
def wsX10_find_r2 : List Cond := [Cond.code yX10_ofArm cX10_ofArm 3 (some .int), Cond.methodLink RX10 196 yX10_laySeries, Cond.instanceMethod yX10_laySeries, Cond.selects RX10 yX10_laySeries yX10_laySeries, Cond.code yX10_laySeries cX10_laySeries 7 none, Cond.fieldLink RX10 165 "LadderBenchModel" "up" "J", Cond.methodLink RX10 176 yX10_sum, Cond.instanceMethod yX10_sum, Cond.selects RX10 yX10_sum yX10_sum, Cond.code yX10_sum cX10_sum 11 none, Cond.methodLink RX10 161 yX10_divisor, Cond.static yX10_divisor, Cond.code yX10_divisor cX10_divisor 10 (some .long), Cond.methodLink RX10 172 yX10_becomes, Cond.instanceMethod yX10_becomes, Cond.selects RX10 yX10_becomes yX10_becomes, Cond.code yX10_becomes cX10_becomes 7 none, Cond.methodLink RX10 199 yX10_letsOf, Cond.instanceMethod yX10_letsOf, Cond.selects RX10 yX10_letsOf yX10_letsOf, Cond.code yX10_letsOf cX10_letsOf 4 none, Cond.fieldLink RX10 184 "LadderBenchModel" "letsUp" "J", Cond.fieldLink RX10 187 "LadderBenchModel" "letsLow" "J", Cond.fieldLink RX10 180 "LadderBenchModel" "isShort" "Z"]
def wsX10_find_r3 : List Cond := [Cond.methodLink RX10 190 yX10_lets, Cond.instanceMethod yX10_lets, Cond.selects RX10 yX10_lets yX10_lets, Cond.code yX10_lets cX10_lets 5 none, Cond.methodLink RX10 203 yX10_takeLets, Cond.instanceMethod yX10_takeLets, Cond.selects RX10 yX10_takeLets yX10_takeLets, Cond.code yX10_takeLets cX10_takeLets 2 none, Cond.methodLink RX10 248 yX10_goesIn, Cond.instanceMethod yX10_goesIn, Cond.selects RX10 yX10_goesIn yX10_goesIn, Cond.code yX10_goesIn cX10_goesIn 12 (some .int)]
def wsX10_find : List Cond := .code yX10_find cX10_find 8 (some .int) :: ((wsX10_find_r1 ++ (wsX10_find_r2 ++ wsX10_find_r3)) ++ wsX100)
def wsX10_solve_r1 : List Cond := [Cond.constantLong RX10 251 (-1), Cond.constantLong RX10 234 (-2), Cond.constantLong RX10 212 (-4), Cond.fieldLink RX10 165 "LadderBenchModel" "up" "J", Cond.fieldLink RX10 169 "LadderBenchModel" "low" "J", Cond.methodLink RX10 245 yX10_armBy, Cond.instanceMethod yX10_armBy, Cond.selects RX10 yX10_armBy yX10_armBy, Cond.initialized RX10, Cond.code yX10_armBy cX10_armBy 2 (some .int), Cond.methodLink RX10 60 yX10_in, Cond.static yX10_in, Cond.code yX10_in cX10_in 3 (some .boolean), Cond.methodLink RX10 136 yX10_hasArm, Cond.instanceMethod yX10_hasArm, Cond.selects RX10 yX10_hasArm yX10_hasArm, Cond.code yX10_hasArm cX10_hasArm 2 (some .boolean), Cond.methodLink RX10 64 yX10_ofArm, Cond.instanceMethod yX10_ofArm, Cond.selects RX10 yX10_ofArm yX10_ofArm, Cond.code yX10_ofArm cX10_ofArm 3 (some .int), Cond.fieldLink RX10 7 "LadderBenchModel" "now" "[J", Cond.methodLink RX10 253 yX10_find, Cond.instanceMethod yX10_find]
def wsX10_solve_r2 : List Cond := [Cond.selects RX10 yX10_find yX10_find, Cond.code yX10_find cX10_find 8 (some .int), Cond.methodLink RX10 209 yX10_lay, Cond.instanceMethod yX10_lay, Cond.selects RX10 yX10_lay yX10_lay, Cond.code yX10_lay cX10_lay 9 none, Cond.fieldLink RX10 36 "LadderBenchModel" "upper" "[J", Cond.fieldLink RX10 39 "LadderBenchModel" "lower" "[J", Cond.methodLink RX10 56 yX10_parts, Cond.instanceMethod yX10_parts, Cond.selects RX10 yX10_parts yX10_parts, Cond.code yX10_parts cX10_parts 1 (some .int), Cond.methodLink RX10 130 yX10_ofPart, Cond.instanceMethod yX10_ofPart, Cond.selects RX10 yX10_ofPart yX10_ofPart, Cond.code yX10_ofPart cX10_ofPart 3 (some .int), Cond.methodLink RX10 193 yX10_layArm, Cond.instanceMethod yX10_layArm, Cond.selects RX10 yX10_layArm yX10_layArm, Cond.code yX10_layArm cX10_layArm 6 none, Cond.methodLink RX10 196 yX10_laySeries, Cond.instanceMethod yX10_laySeries, Cond.selects RX10 yX10_laySeries yX10_laySeries, Cond.code yX10_laySeries cX10_laySeries 7 none]
def wsX10_solve_r3 : List Cond := [Cond.methodLink RX10 176 yX10_sum, Cond.instanceMethod yX10_sum, Cond.selects RX10 yX10_sum yX10_sum, Cond.code yX10_sum cX10_sum 11 none, Cond.methodLink RX10 161 yX10_divisor, Cond.static yX10_divisor, Cond.code yX10_divisor cX10_divisor 10 (some .long), Cond.methodLink RX10 172 yX10_becomes, Cond.instanceMethod yX10_becomes, Cond.selects RX10 yX10_becomes yX10_becomes, Cond.code yX10_becomes cX10_becomes 7 none, Cond.methodLink RX10 199 yX10_letsOf, Cond.instanceMethod yX10_letsOf, Cond.selects RX10 yX10_letsOf yX10_letsOf, Cond.code yX10_letsOf cX10_letsOf 4 none, Cond.fieldLink RX10 184 "LadderBenchModel" "letsUp" "J", Cond.fieldLink RX10 187 "LadderBenchModel" "letsLow" "J", Cond.fieldLink RX10 180 "LadderBenchModel" "isShort" "Z", Cond.methodLink RX10 190 yX10_lets, Cond.instanceMethod yX10_lets, Cond.selects RX10 yX10_lets yX10_lets, Cond.code yX10_lets cX10_lets 5 none, Cond.methodLink RX10 203 yX10_takeLets, Cond.instanceMethod yX10_takeLets]
def wsX10_solve_r4 : List Cond := [Cond.selects RX10 yX10_takeLets yX10_takeLets, Cond.code yX10_takeLets cX10_takeLets 2 none, Cond.methodLink RX10 248 yX10_goesIn, Cond.instanceMethod yX10_goesIn, Cond.selects RX10 yX10_goesIn yX10_goesIn, Cond.code yX10_goesIn cX10_goesIn 12 (some .int)]
def wsX10_solve : List Cond := .code yX10_solve cX10_solve 7 (some .long) :: ((wsX10_solve_r1 ++ (wsX10_solve_r2 ++ (wsX10_solve_r3 ++ wsX10_solve_r4))) ++ wsX100)
def wsX10_fault_r1 : List Cond := [Cond.fieldLink RX10 165 "LadderBenchModel" "up" "J", Cond.fieldLink RX10 169 "LadderBenchModel" "low" "J", Cond.fieldLink RX10 36 "LadderBenchModel" "upper" "[J", Cond.fieldLink RX10 39 "LadderBenchModel" "lower" "[J", Cond.methodLink RX10 60 yX10_in, Cond.static yX10_in, Cond.initialized RX10, Cond.code yX10_in cX10_in 3 (some .boolean), Cond.methodLink RX10 56 yX10_parts, Cond.instanceMethod yX10_parts, Cond.selects RX10 yX10_parts yX10_parts, Cond.code yX10_parts cX10_parts 1 (some .int), Cond.fieldLink RX10 7 "LadderBenchModel" "now" "[J", Cond.methodLink RX10 172 yX10_becomes, Cond.instanceMethod yX10_becomes, Cond.selects RX10 yX10_becomes yX10_becomes, Cond.code yX10_becomes cX10_becomes 7 none, Cond.methodLink RX10 161 yX10_divisor, Cond.static yX10_divisor, Cond.code yX10_divisor cX10_divisor 10 (some .long), Cond.methodLink RX10 136 yX10_hasArm, Cond.instanceMethod yX10_hasArm, Cond.selects RX10 yX10_hasArm yX10_hasArm, Cond.code yX10_hasArm cX10_hasArm 2 (some .boolean)]
def wsX10_fault_r2 : List Cond := [Cond.methodLink RX10 64 yX10_ofArm, Cond.instanceMethod yX10_ofArm, Cond.selects RX10 yX10_ofArm yX10_ofArm, Cond.code yX10_ofArm cX10_ofArm 3 (some .int), Cond.methodLink RX10 209 yX10_lay, Cond.instanceMethod yX10_lay, Cond.selects RX10 yX10_lay yX10_lay, Cond.code yX10_lay cX10_lay 9 none, Cond.methodLink RX10 130 yX10_ofPart, Cond.instanceMethod yX10_ofPart, Cond.selects RX10 yX10_ofPart yX10_ofPart, Cond.code yX10_ofPart cX10_ofPart 3 (some .int), Cond.methodLink RX10 193 yX10_layArm, Cond.instanceMethod yX10_layArm, Cond.selects RX10 yX10_layArm yX10_layArm, Cond.code yX10_layArm cX10_layArm 6 none, Cond.methodLink RX10 196 yX10_laySeries, Cond.instanceMethod yX10_laySeries, Cond.selects RX10 yX10_laySeries yX10_laySeries, Cond.code yX10_laySeries cX10_laySeries 7 none, Cond.methodLink RX10 176 yX10_sum, Cond.instanceMethod yX10_sum, Cond.selects RX10 yX10_sum yX10_sum, Cond.code yX10_sum cX10_sum 11 none]
def wsX10_fault_r3 : List Cond := [Cond.methodLink RX10 199 yX10_letsOf, Cond.instanceMethod yX10_letsOf, Cond.selects RX10 yX10_letsOf yX10_letsOf, Cond.code yX10_letsOf cX10_letsOf 4 none, Cond.fieldLink RX10 184 "LadderBenchModel" "letsUp" "J", Cond.fieldLink RX10 187 "LadderBenchModel" "letsLow" "J", Cond.fieldLink RX10 180 "LadderBenchModel" "isShort" "Z", Cond.methodLink RX10 190 yX10_lets, Cond.instanceMethod yX10_lets, Cond.selects RX10 yX10_lets yX10_lets, Cond.code yX10_lets cX10_lets 5 none, Cond.methodLink RX10 203 yX10_takeLets, Cond.instanceMethod yX10_takeLets, Cond.selects RX10 yX10_takeLets yX10_takeLets, Cond.code yX10_takeLets cX10_takeLets 2 none]
def wsX10_fault : List Cond := .code yX10_fault cX10_fault 11 (some .int) :: ((wsX10_fault_r1 ++ (wsX10_fault_r2 ++ wsX10_fault_r3)) ++ wsX100)
def wsX10_count_r1 : List Cond := [Cond.fieldLink RX10 7 "LadderBenchModel" "now" "[J", Cond.fieldLink RX10 52 "LadderBenchModel" "kept" "I", Cond.fieldLink RX10 68 "LadderBenchModel" "typed" "I", Cond.methodLink RX10 136 yX10_hasArm, Cond.instanceMethod yX10_hasArm, Cond.selects RX10 yX10_hasArm yX10_hasArm, Cond.initialized RX10, Cond.code yX10_hasArm cX10_hasArm 2 (some .boolean), Cond.methodLink RX10 60 yX10_in, Cond.static yX10_in, Cond.code yX10_in cX10_in 3 (some .boolean), Cond.methodLink RX10 64 yX10_ofArm, Cond.instanceMethod yX10_ofArm, Cond.selects RX10 yX10_ofArm yX10_ofArm, Cond.code yX10_ofArm cX10_ofArm 3 (some .int), Cond.methodLink RX10 56 yX10_parts, Cond.instanceMethod yX10_parts, Cond.selects RX10 yX10_parts yX10_parts, Cond.code yX10_parts cX10_parts 1 (some .int), Cond.methodLink RX10 154 yX10_open, Cond.instanceMethod yX10_open, Cond.selects RX10 yX10_open yX10_open, Cond.code yX10_open cX10_open 3 (some .int), Cond.methodLink RX10 142 yX10_isFolded]
def wsX10_count_r2 : List Cond := [Cond.instanceMethod yX10_isFolded, Cond.selects RX10 yX10_isFolded yX10_isFolded, Cond.code yX10_isFolded cX10_isFolded 2 (some .boolean), Cond.methodLink RX10 130 yX10_ofPart, Cond.instanceMethod yX10_ofPart, Cond.selects RX10 yX10_ofPart yX10_ofPart, Cond.code yX10_ofPart cX10_ofPart 3 (some .int)]
def wsX10_count : List Cond := .code yX10_count cX10_count 6 (some .int) :: ((wsX10_count_r1 ++ wsX10_count_r2) ++ wsX100)
def wsJ9_max_7cf53 : List Cond := .code yJ9_max_7cf53 cJ9_max_7cf53 2 (some .int) :: ([])
def wsJ9_min_7cf53 : List Cond := .code yJ9_min_7cf53 cJ9_min_7cf53 2 (some .int) :: ([])
def wsL_law_r1 : List Cond := [Cond.classLink RL 7 RX9, Cond.instantiable RX9 10, Cond.initialized RX9, Cond.classLink RL 10 RX10, Cond.instantiable RX10 26, Cond.initialized RX10, Cond.methodLink RL 9 yX9_init, Cond.instanceMethod yX9_init, Cond.code yX9_init cX9_init 1 none, Cond.methodLink RX9 1 objectInit, Cond.instanceMethod objectInit, Cond.code objectInit ⟨#[0xb1]⟩ 1 none, Cond.classLink RX9 7 RX4, Cond.instantiable RX4 2, Cond.initialized RX4, Cond.fieldLink RX9 10 "LadderBench" "text" "LLadderBench$Line;", Cond.classLink RX9 16 RX8, Cond.instantiable RX8 8, Cond.initialized RX8, Cond.fieldLink RX9 19 "LadderBench" "now" "LLadderBench$State;", Cond.fieldLink RX9 23 "LadderBench" "snapshot" "LLadderBench$State;", Cond.fieldLink RX9 26 "LadderBench" "trial" "LLadderBench$State;", Cond.classLink RX9 29 RX3, Cond.instantiable RX3 3]
def wsL_law_r2 : List Cond := [Cond.initialized RX3, Cond.fieldLink RX9 32 "LadderBench" "history" "LLadderBench$History;", Cond.classLink RX9 36 RX6, Cond.instantiable RX6 3, Cond.initialized RX6, Cond.fieldLink RX9 39 "LadderBench" "reader" "LLadderBench$NetworkReader;", Cond.classLink RX9 43 RX1, Cond.instantiable RX1 3, Cond.initialized RX1, Cond.fieldLink RX9 46 "LadderBench" "command" "LLadderBench$Command;", Cond.classLink RX9 50 RX0, Cond.instantiable RX0 5, Cond.initialized RX0, Cond.fieldLink RX9 53 "LadderBench" "circuit" "LLadderBench$Circuit;", Cond.classLink RX9 57 RX2, Cond.instantiable RX2 2, Cond.initialized RX2, Cond.fieldLink RX9 60 "LadderBench" "wanted" "LLadderBench$Fraction;", Cond.fieldLink RX9 64 "LadderBench" "hasSnapshot" "Z", Cond.instanceMethod yX4_init, Cond.code yX4_init cX4_init 1 none, Cond.methodLink RX4 3 objectInit, Cond.arrayClass .char, Cond.fieldLink RX4 9 "LadderBench$Line" "characters" "[C"]
def wsL_law_r3 : List Cond := [Cond.fieldLink RX4 15 "LadderBench$Line" "length" "I", Cond.instanceMethod yX8_init, Cond.code yX8_init cX8_init 1 none, Cond.methodLink RX8 3 objectInit, Cond.classLink RX8 9 RX5, Cond.instantiable RX5 5, Cond.initialized RX5, Cond.fieldLink RX8 12 "LadderBench$State" "network" "LLadderBench$Network;", Cond.classLink RX8 18 RX7, Cond.instantiable RX7 4, Cond.initialized RX7, Cond.fieldLink RX8 21 "LadderBench$State" "notes" "LLadderBench$Notes;", Cond.arrayClass .int, Cond.fieldLink RX8 25 "LadderBench$State" "armValue" "[I", Cond.fieldLink RX8 29 "LadderBench$State" "armState" "[I", Cond.arrayClass .boolean, Cond.fieldLink RX8 32 "LadderBench$State" "isFolded" "[Z", Cond.fieldLink RX8 36 "LadderBench$State" "source" "I", Cond.fieldLink RX8 40 "LadderBench$State" "meter" "I", Cond.fieldLink RX8 43 "LadderBench$State" "folds" "I", Cond.methodLink RX8 11 yX5_init, Cond.instanceMethod yX5_init, Cond.code yX5_init cX5_init 2 none, Cond.methodLink RX5 3 objectInit]
def wsL_law_r4 : List Cond := [Cond.fieldLink RX5 9 "LadderBench$Network" "kind" "[I", Cond.fieldLink RX5 15 "LadderBench$Network" "around" "[I", Cond.fieldLink RX5 18 "LadderBench$Network" "letter" "[I", Cond.fieldLink RX5 21 "LadderBench$Network" "partOfArm" "[I", Cond.fieldLink RX5 24 "LadderBench$Network" "size" "I", Cond.instanceMethod yX7_init, Cond.code yX7_init cX7_init 1 none, Cond.methodLink RX7 3 objectInit, Cond.arrayClass .long, Cond.fieldLink RX7 9 "LadderBench$Notes" "upper" "[J", Cond.fieldLink RX7 15 "LadderBench$Notes" "lower" "[J", Cond.fieldLink RX7 18 "LadderBench$Notes" "times" "[I", Cond.fieldLink RX7 22 "LadderBench$Notes" "size" "I", Cond.methodLink RX9 31 yX3_init, Cond.instanceMethod yX3_init, Cond.code yX3_init cX3_init 2 none, Cond.methodLink RX3 3 objectInit, Cond.classLink RX3 9 RX8, Cond.fieldLink RX3 11 "LadderBench$History" "states" "[LLadderBench$State;", Cond.fieldLink RX3 17 "LadderBench$History" "oldest" "I", Cond.fieldLink RX3 21 "LadderBench$History" "size" "I", Cond.instanceMethod yX6_init, Cond.code yX6_init cX6_init 1 none, Cond.methodLink RX6 3 objectInit]
def wsL_law_r5 : List Cond := [Cond.fieldLink RX6 9 "LadderBench$NetworkReader" "pieces" "[I", Cond.fieldLink RX6 15 "LadderBench$NetworkReader" "links" "[I", Cond.fieldLink RX6 18 "LadderBench$NetworkReader" "depth" "I", Cond.instanceMethod yX1_init, Cond.code yX1_init cX1_init 1 none, Cond.methodLink RX1 3 objectInit, Cond.fieldLink RX1 9 "LadderBench$Command" "action" "I", Cond.fieldLink RX1 15 "LadderBench$Command" "number" "I", Cond.fieldLink RX1 18 "LadderBench$Command" "letter" "I", Cond.methodLink RX9 52 yX0_init, Cond.instanceMethod yX0_init, Cond.code yX0_init cX0_init 2 none, Cond.methodLink RX0 3 objectInit, Cond.classLink RX0 9 RX2, Cond.fieldLink RX0 11 "LadderBench$Circuit" "ohms" "[LLadderBench$Fraction;", Cond.fieldLink RX0 17 "LadderBench$Circuit" "volts" "[LLadderBench$Fraction;", Cond.fieldLink RX0 21 "LadderBench$Circuit" "sum" "LLadderBench$Fraction;", Cond.fieldLink RX0 25 "LadderBench$Circuit" "share" "LLadderBench$Fraction;", Cond.fieldLink RX0 28 "LadderBench$Circuit" "unloaded" "LLadderBench$Fraction;", Cond.instanceMethod yX2_init, Cond.code yX2_init cX2_init 1 none, Cond.methodLink RX2 3 objectInit, Cond.fieldLink RX2 9 "LadderBench$Fraction" "upper" "J", Cond.fieldLink RX2 15 "LadderBench$Fraction" "lower" "J"]
def wsL_law_r6 : List Cond := [Cond.methodLink RL 12 yX10_init, Cond.instanceMethod yX10_init, Cond.code yX10_init cX10_init 1 none, Cond.methodLink RX10 1 objectInit, Cond.fieldLink RX10 7 "LadderBenchModel" "now" "[J", Cond.fieldLink RX10 13 "LadderBenchModel" "history" "[J", Cond.fieldLink RX10 16 "LadderBenchModel" "slot" "[J", Cond.fieldLink RX10 19 "LadderBenchModel" "text" "[C", Cond.fieldLink RX10 23 "LadderBenchModel" "read" "[I", Cond.fieldLink RX10 27 "LadderBenchModel" "pile" "[I", Cond.fieldLink RX10 30 "LadderBenchModel" "pieces" "[I", Cond.fieldLink RX10 33 "LadderBenchModel" "links" "[I", Cond.fieldLink RX10 36 "LadderBenchModel" "upper" "[J", Cond.fieldLink RX10 39 "LadderBenchModel" "lower" "[J", Cond.fieldLink RX10 42 "LadderBenchModel" "voltUp" "[J", Cond.fieldLink RX10 45 "LadderBenchModel" "voltLow" "[J", Cond.constantLong RX10 48 (12), Cond.constantLong RX10 50 (100), Cond.methodLink RL 13 yX9_type, Cond.instanceMethod yX9_type, Cond.selects RX9 yX9_type yX9_type, Cond.code yX9_type cX9_type 2 (some .int), Cond.fieldLink RX9 68 "LadderBench$Line" "length" "I", Cond.methodLink RX9 72 yX4_append]
def wsL_law_r7 : List Cond := [Cond.instanceMethod yX4_append, Cond.selects RX4 yX4_append yX4_append, Cond.code yX4_append cX4_append 2 none, Cond.methodLink RL 17 yX10_type, Cond.instanceMethod yX10_type, Cond.selects RX10 yX10_type yX10_type, Cond.code yX10_type cX10_type 2 (some .int), Cond.fieldLink RX10 68 "LadderBenchModel" "typed" "I", Cond.methodLink RL 18 yX9_clearText, Cond.instanceMethod yX9_clearText, Cond.selects RX9 yX9_clearText yX9_clearText, Cond.code yX9_clearText cX9_clearText 2 (some .int), Cond.methodLink RL 22 yX10_clearText, Cond.instanceMethod yX10_clearText, Cond.selects RX10 yX10_clearText yX10_clearText, Cond.code yX10_clearText cX10_clearText 2 (some .int), Cond.methodLink RL 23 yX9_readNetwork, Cond.instanceMethod yX9_readNetwork, Cond.selects RX9 yX9_readNetwork yX9_readNetwork, Cond.code yX9_readNetwork cX9_readNetwork 2 (some .int), Cond.fieldLink RX9 84 "LadderBench$State" "network" "LLadderBench$Network;", Cond.fieldLink RX9 95 "LadderBench$Network" "size" "I", Cond.methodLink RX9 76 yX6_findFault, Cond.instanceMethod yX6_findFault]
def wsL_law_r8 : List Cond := [Cond.selects RX6 yX6_findFault yX6_findFault, Cond.code yX6_findFault cX6_findFault 8 (some .int), Cond.fieldLink RX6 22 "LadderBench$Line" "length" "I", Cond.fieldLink RX6 27 "LadderBench$Line" "characters" "[C", Cond.static yX9_indexOfLetter, Cond.code yX9_indexOfLetter cX9_indexOfLetter 1 (some .int), Cond.methodLink RX9 80 yX3_record, Cond.instanceMethod yX3_record, Cond.selects RX3 yX3_record yX3_record, Cond.code yX3_record cX3_record 2 none, Cond.methodLink RX3 25 yX8_copy, Cond.instanceMethod yX8_copy, Cond.selects RX8 yX8_copy yX8_copy, Cond.code yX8_copy cX8_copy 3 none, Cond.methodLink RX8 46 yX5_copy, Cond.instanceMethod yX5_copy, Cond.selects RX5 yX5_copy yX5_copy, Cond.code yX5_copy cX5_copy 3 none, Cond.methodLink RX8 50 yX7_copy, Cond.instanceMethod yX7_copy, Cond.selects RX7 yX7_copy yX7_copy, Cond.code yX7_copy cX7_copy 3 none, Cond.methodLink RX9 88 yX6_build, Cond.instanceMethod yX6_build]
def wsL_law_r9 : List Cond := [Cond.selects RX6 yX6_build yX6_build, Cond.code yX6_build cX6_build 4 none, Cond.methodLink RX6 35 yX5_clear, Cond.instanceMethod yX5_clear, Cond.selects RX5 yX5_clear yX5_clear, Cond.code yX5_clear cX5_clear 2 none, Cond.methodLink RX6 40 yX6_clearDepth, Cond.instanceMethod yX6_clearDepth, Cond.selects RX6 yX6_clearDepth yX6_clearDepth, Cond.code yX6_clearDepth cX6_clearDepth 1 none, Cond.methodLink RX6 43 yX6_take, Cond.instanceMethod yX6_take, Cond.selects RX6 yX6_take yX6_take, Cond.code yX6_take cX6_take 4 none, Cond.methodLink RX6 47 yX6_endChain, Cond.instanceMethod yX6_endChain, Cond.selects RX6 yX6_endChain yX6_endChain, Cond.code yX6_endChain cX6_endChain 2 (some .int), Cond.methodLink RX6 51 yX6_endLink, Cond.instanceMethod yX6_endLink, Cond.selects RX6 yX6_endLink yX6_endLink, Cond.code yX6_endLink cX6_endLink 2 none, Cond.methodLink RX6 58 yX5_join, Cond.instanceMethod yX5_join]
def wsL_law_r10 : List Cond := [Cond.selects RX5 yX5_join yX5_join, Cond.code yX5_join cX5_join 5 (some .int), Cond.methodLink RX5 32 yJ6_bitCount_0f7a4, Cond.static yJ6_bitCount_0f7a4, Cond.initialized RJ6, Cond.code yJ6_bitCount_0f7a4 cJ6_bitCount_0f7a4 1 (some .int), Cond.constant RJ6 265 (1431655765), Cond.constant RJ6 266 (858993459), Cond.constant RJ6 267 (252645135), Cond.methodLink RX5 28 yX5_addPart, Cond.instanceMethod yX5_addPart, Cond.selects RX5 yX5_addPart yX5_addPart, Cond.code yX5_addPart cX5_addPart 2 (some .int), Cond.methodLink RX6 55 yX5_addArm, Cond.instanceMethod yX5_addArm, Cond.selects RX5 yX5_addArm yX5_addArm, Cond.code yX5_addArm cX5_addArm 3 (some .int), Cond.methodLink RX9 92 yX8_resetArms, Cond.instanceMethod yX8_resetArms, Cond.selects RX8 yX8_resetArms yX8_resetArms, Cond.code yX8_resetArms cX8_resetArms 2 none, Cond.methodLink RX8 53 yX8_unfoldEach, Cond.instanceMethod yX8_unfoldEach, Cond.selects RX8 yX8_unfoldEach yX8_unfoldEach]
def wsL_law_r11 : List Cond := [Cond.code yX8_unfoldEach cX8_unfoldEach 2 none, Cond.fieldLink RX8 56 "LadderBench$Network" "size" "I", Cond.fieldLink RX8 59 "LadderBench$Network" "kind" "[I", Cond.methodLink RL 26 yX10_readNetwork, Cond.instanceMethod yX10_readNetwork, Cond.selects RX10 yX10_readNetwork yX10_readNetwork, Cond.code yX10_readNetwork cX10_readNetwork 3 (some .int), Cond.fieldLink RX10 85 "LadderBenchModel" "at" "I", Cond.fieldLink RX10 71 "LadderBenchModel" "readParts" "I", Cond.constantLong RX10 102 (10), Cond.methodLink RX10 95 yX10_readsNetwork, Cond.instanceMethod yX10_readsNetwork, Cond.selects RX10 yX10_readsNetwork yX10_readsNetwork, Cond.code yX10_readsNetwork cX10_readsNetwork 4 (some .boolean), Cond.fieldLink RX10 74 "LadderBenchModel" "piled" "I", Cond.methodLink RX10 60 yX10_in, Cond.static yX10_in, Cond.code yX10_in cX10_in 3 (some .boolean), Cond.methodLink RX10 88 yX10_isRead, Cond.instanceMethod yX10_isRead, Cond.selects RX10 yX10_isRead yX10_isRead, Cond.code yX10_isRead cX10_isRead 3 (some .boolean), Cond.methodLink RX10 77 yX10_laysPart, Cond.instanceMethod yX10_laysPart]
def wsL_law_r12 : List Cond := [Cond.selects RX10 yX10_laysPart yX10_laysPart, Cond.code yX10_laysPart cX10_laysPart 6 none, Cond.methodLink RX10 81 yX10_endsLink, Cond.instanceMethod yX10_endsLink, Cond.selects RX10 yX10_endsLink yX10_endsLink, Cond.code yX10_endsLink cX10_endsLink 2 none, Cond.methodLink RX10 92 yX10_endsChain, Cond.instanceMethod yX10_endsChain, Cond.selects RX10 yX10_endsChain yX10_endsChain, Cond.code yX10_endsChain cX10_endsChain 2 none, Cond.methodLink RX10 99 yX10_record, Cond.instanceMethod yX10_record, Cond.selects RX10 yX10_record yX10_record, Cond.code yX10_record cX10_record 2 none, Cond.fieldLink RX10 52 "LadderBenchModel" "kept" "I", Cond.methodLink RL 27 yX9_perform, Cond.instanceMethod yX9_perform, Cond.selects RX9 yX9_perform yX9_perform, Cond.code yX9_perform cX9_perform 2 (some .int), Cond.fieldLink RX9 107 "LadderBench$Command" "letter" "I", Cond.methodLink RX9 100 yX1_read, Cond.instanceMethod yX1_read, Cond.selects RX1 yX1_read yX1_read, Cond.code yX1_read cX1_read 4 (some .int)]
def wsL_law_r13 : List Cond := [Cond.fieldLink RX1 35 "LadderBench$Line" "length" "I", Cond.methodLink RX1 38 Lib.Math.min.name, Cond.static Lib.Math.min.name, Cond.initialized "java/lang/Math", Cond.code Lib.Math.min.name Lib.Math.min.code 2 (some .int), Cond.fieldLink RX1 44 "LadderBench$Line" "characters" "[C", Cond.methodLink RX1 21 yX4_findBlank, Cond.instanceMethod yX4_findBlank, Cond.selects RX4 yX4_findBlank yX4_findBlank, Cond.code yX4_findBlank cX4_findBlank 3 (some .int), Cond.methodLink RX1 27 yX1_findAction, Cond.static yX1_findAction, Cond.code yX1_findAction cX1_findAction 2 (some .int), Cond.methodLink RX1 60 yX4_spells, Cond.instanceMethod yX4_spells, Cond.selects RX4 yX4_spells yX4_spells, Cond.code yX4_spells cX4_spells 5 (some .boolean), Cond.methodLink RX4 19 yJ0_length_8abf5, Cond.instanceMethod yJ0_length_8abf5, Cond.selects RJ0 yJ0_length_8abf5 yJ0_length_8abf5, Cond.initialized RJ0, Cond.code yJ0_length_8abf5 cJ0_length_8abf5 1 (some .int), Cond.fieldLink RJ0 9 "java/lang/String" "value" "[B", Cond.methodLink RJ0 335 yJ0_coder_7d493]
def wsL_law_r14 : List Cond := [Cond.instanceMethod yJ0_coder_7d493, Cond.selects RJ0 yJ0_coder_7d493 yJ0_coder_7d493, Cond.code yJ0_coder_7d493 cJ0_coder_7d493 1 (some .byte), Cond.fieldLink RJ0 38 "java/lang/String" "COMPACT_STRINGS" "Z", Cond.fieldLink RJ0 15 "java/lang/String" "coder" "B", Cond.methodLink RX4 24 yJ0_charAt_5068e, Cond.instanceMethod yJ0_charAt_5068e, Cond.selects RJ0 yJ0_charAt_5068e yJ0_charAt_5068e, Cond.code yJ0_charAt_5068e cJ0_charAt_5068e 2 (some .char), Cond.methodLink RJ0 492 yJ0_isLatin1_aae02, Cond.instanceMethod yJ0_isLatin1_aae02, Cond.selects RJ0 yJ0_isLatin1_aae02 yJ0_isLatin1_aae02, Cond.code yJ0_isLatin1_aae02 cJ0_isLatin1_aae02 1 (some .boolean), Cond.methodLink RJ0 495 yJ1_charAt_3b067, Cond.static yJ1_charAt_3b067, Cond.initialized RJ1, Cond.code yJ1_charAt_3b067 cJ1_charAt_3b067 2 (some .char), Cond.methodLink RJ1 9 yJ0_checkIndex_df160, Cond.static yJ0_checkIndex_df160, Cond.code yJ0_checkIndex_df160 cJ0_checkIndex_df160 2 none, Cond.fieldLink RJ0 1053 "jdk/internal/util/Preconditions" "SIOOBE_FORMATTER" "Ljava/util/function/BiFunction;", Cond.methodLink RJ0 1059 yJ3_checkIndex_8e157, Cond.static yJ3_checkIndex_8e157, Cond.initialized RJ3]
def wsL_law_r15 : List Cond := [Cond.code yJ3_checkIndex_8e157 cJ3_checkIndex_8e157 3 (some .int), Cond.methodLink RJ0 498 yJ2_charAt_3b067, Cond.static yJ2_charAt_3b067, Cond.initialized RJ2, Cond.code yJ2_charAt_3b067 cJ2_charAt_3b067 2 (some .char), Cond.methodLink RJ2 67 yJ2_checkIndex_2214a, Cond.static yJ2_checkIndex_2214a, Cond.code yJ2_checkIndex_2214a cJ2_checkIndex_2214a 2 none, Cond.methodLink RJ2 48 yJ2_length_9d52b, Cond.static yJ2_length_9d52b, Cond.code yJ2_length_9d52b cJ2_length_9d52b 1 (some .int), Cond.methodLink RJ2 414 yJ0_checkIndex_df160, Cond.methodLink RJ2 71 yJ2_getChar_3b067, Cond.static yJ2_getChar_3b067, Cond.code yJ2_getChar_3b067 cJ2_getChar_3b067 2 (some .char), Cond.fieldLink RJ2 44 "java/lang/StringUTF16" "$assertionsDisabled" "Z", Cond.fieldLink RJ2 59 "java/lang/StringUTF16" "HI_BYTE_SHIFT" "I", Cond.fieldLink RJ2 63 "java/lang/StringUTF16" "LO_BYTE_SHIFT" "I", Cond.methodLink RX1 31 yX1_takesLetter, Cond.instanceMethod yX1_takesLetter, Cond.selects RX1 yX1_takesLetter yX1_takesLetter, Cond.code yX1_takesLetter cX1_takesLetter 1 (some .boolean), Cond.methodLink RX1 51 yX1_takesNumber, Cond.instanceMethod yX1_takesNumber]
def wsL_law_r16 : List Cond := [Cond.selects RX1 yX1_takesNumber yX1_takesNumber, Cond.code yX1_takesNumber cX1_takesNumber 1 (some .boolean), Cond.methodLink RX1 54 yX1_readNumber, Cond.static yX1_readNumber, Cond.code yX1_readNumber cX1_readNumber 6 (some .int), Cond.methodLink RX9 103 yX1_takesLetter, Cond.methodLink RX9 110 yX5_hasArm, Cond.instanceMethod yX5_hasArm, Cond.selects RX5 yX5_hasArm yX5_hasArm, Cond.code yX5_hasArm cX5_hasArm 2 (some .boolean), Cond.methodLink RX9 114 yX1_isDoneIn, Cond.instanceMethod yX1_isDoneIn, Cond.selects RX1 yX1_isDoneIn yX1_isDoneIn, Cond.code yX1_isDoneIn cX1_isDoneIn 2 (some .boolean), Cond.fieldLink RX1 74 "LadderBench$State" "armValue" "[I", Cond.fieldLink RX1 80 "LadderBench$State" "armState" "[I", Cond.fieldLink RX1 83 "LadderBench$State" "source" "I", Cond.fieldLink RX1 85 "LadderBench$State" "meter" "I", Cond.methodLink RX9 118 yX1_changeIn, Cond.instanceMethod yX1_changeIn, Cond.selects RX1 yX1_changeIn yX1_changeIn, Cond.code yX1_changeIn cX1_changeIn 2 none, Cond.methodLink RX1 87 yX8_setArm, Cond.instanceMethod yX8_setArm]
def wsL_law_r17 : List Cond := [Cond.selects RX8 yX8_setArm yX8_setArm, Cond.code yX8_setArm cX8_setArm 4 none, Cond.methodLink RL 30 yX10_perform, Cond.instanceMethod yX10_perform, Cond.selects RX10 yX10_perform yX10_perform, Cond.code yX10_perform cX10_perform 3 (some .int), Cond.fieldLink RX10 115 "LadderBenchModel" "readWord" "I", Cond.fieldLink RX10 121 "LadderBenchModel" "readArm" "I", Cond.fieldLink RX10 127 "LadderBenchModel" "readNumber" "I", Cond.methodLink RX10 133 yX10_readsCommand, Cond.instanceMethod yX10_readsCommand, Cond.selects RX10 yX10_readsCommand yX10_readsCommand, Cond.code yX10_readsCommand cX10_readsCommand 2 (some .boolean), Cond.methodLink RX10 108 yX10_end, Cond.instanceMethod yX10_end, Cond.selects RX10 yX10_end yX10_end, Cond.code yX10_end cX10_end 2 (some .int), Cond.methodLink RX10 111 yX10_word, Cond.instanceMethod yX10_word, Cond.selects RX10 yX10_word yX10_word, Cond.code yX10_word cX10_word 2 (some .int), Cond.methodLink RX10 104 yX10_isWord, Cond.instanceMethod yX10_isWord, Cond.selects RX10 yX10_isWord yX10_isWord]
def wsL_law_r18 : List Cond := [Cond.code yX10_isWord cX10_isWord 7 (some .boolean), Cond.methodLink RX10 118 yX10_takesBlank, Cond.instanceMethod yX10_takesBlank, Cond.selects RX10 yX10_takesBlank yX10_takesBlank, Cond.code yX10_takesBlank cX10_takesBlank 1 (some .boolean), Cond.methodLink RX10 124 yX10_number, Cond.instanceMethod yX10_number, Cond.selects RX10 yX10_number yX10_number, Cond.code yX10_number cX10_number 5 (some .int), Cond.methodLink RX10 136 yX10_hasArm, Cond.instanceMethod yX10_hasArm, Cond.selects RX10 yX10_hasArm yX10_hasArm, Cond.code yX10_hasArm cX10_hasArm 2 (some .boolean), Cond.methodLink RX10 64 yX10_ofArm, Cond.instanceMethod yX10_ofArm, Cond.selects RX10 yX10_ofArm yX10_ofArm, Cond.code yX10_ofArm cX10_ofArm 3 (some .int), Cond.methodLink RX10 139 yX10_unfoldAll, Cond.instanceMethod yX10_unfoldAll, Cond.selects RX10 yX10_unfoldAll yX10_unfoldAll, Cond.code yX10_unfoldAll cX10_unfoldAll 2 none, Cond.methodLink RX10 56 yX10_parts, Cond.instanceMethod yX10_parts, Cond.selects RX10 yX10_parts yX10_parts]
def wsL_law_r19 : List Cond := [Cond.code yX10_parts cX10_parts 1 (some .int), Cond.methodLink RX10 130 yX10_ofPart, Cond.instanceMethod yX10_ofPart, Cond.selects RX10 yX10_ofPart yX10_ofPart, Cond.code yX10_ofPart cX10_ofPart 3 (some .int), Cond.methodLink RL 31 yX9_fold, Cond.instanceMethod yX9_fold, Cond.selects RX9 yX9_fold yX9_fold, Cond.code yX9_fold cX9_fold 2 (some .int), Cond.fieldLink RX9 127 "LadderBench$State" "isFolded" "[Z", Cond.methodLink RX9 121 yX5_hasPart, Cond.instanceMethod yX5_hasPart, Cond.selects RX5 yX5_hasPart yX5_hasPart, Cond.code yX5_hasPart cX5_hasPart 2 (some .boolean), Cond.methodLink RX9 124 yX8_hasFoldedParts, Cond.instanceMethod yX8_hasFoldedParts, Cond.selects RX8 yX8_hasFoldedParts yX8_hasFoldedParts, Cond.code yX8_hasFoldedParts cX8_hasFoldedParts 3 (some .boolean), Cond.fieldLink RX8 66 "LadderBench$Network" "around" "[I", Cond.methodLink RX9 131 yX8_foldOne, Cond.instanceMethod yX8_foldOne, Cond.selects RX8 yX8_foldOne yX8_foldOne, Cond.code yX8_foldOne cX8_foldOne 2 none, Cond.methodLink RX9 135 yX8_countUnfolded]
def wsL_law_r20 : List Cond := [Cond.instanceMethod yX8_countUnfolded, Cond.selects RX8 yX8_countUnfolded yX8_countUnfolded, Cond.code yX8_countUnfolded cX8_countUnfolded 3 (some .int), Cond.methodLink RL 35 yX10_fold, Cond.instanceMethod yX10_fold, Cond.selects RX10 yX10_fold yX10_fold, Cond.code yX10_fold cX10_fold 2 (some .int), Cond.methodLink RX10 145 yX10_noPart, Cond.instanceMethod yX10_noPart, Cond.selects RX10 yX10_noPart yX10_noPart, Cond.code yX10_noPart cX10_noPart 2 (some .boolean), Cond.methodLink RX10 148 yX10_mayFold, Cond.instanceMethod yX10_mayFold, Cond.selects RX10 yX10_mayFold yX10_mayFold, Cond.code yX10_mayFold cX10_mayFold 3 (some .boolean), Cond.methodLink RX10 142 yX10_isFolded, Cond.instanceMethod yX10_isFolded, Cond.selects RX10 yX10_isFolded yX10_isFolded, Cond.code yX10_isFolded cX10_isFolded 2 (some .boolean), Cond.methodLink RX10 151 yX10_folds, Cond.instanceMethod yX10_folds, Cond.selects RX10 yX10_folds yX10_folds, Cond.code yX10_folds cX10_folds 2 none, Cond.methodLink RX10 154 yX10_open]
def wsL_law_r21 : List Cond := [Cond.instanceMethod yX10_open, Cond.selects RX10 yX10_open yX10_open, Cond.code yX10_open cX10_open 3 (some .int), Cond.methodLink RL 36 yX9_foldAll, Cond.instanceMethod yX9_foldAll, Cond.selects RX9 yX9_foldAll yX9_foldAll, Cond.code yX9_foldAll cX9_foldAll 5 (some .int), Cond.methodLink RX9 139 yX8_findFoldable, Cond.instanceMethod yX8_findFoldable, Cond.selects RX8 yX8_findFoldable yX8_findFoldable, Cond.code yX8_findFoldable cX8_findFoldable 4 (some .int), Cond.methodLink RX8 73 yX8_isFoldable, Cond.instanceMethod yX8_isFoldable, Cond.selects RX8 yX8_isFoldable yX8_isFoldable, Cond.code yX8_isFoldable cX8_isFoldable 2 (some .boolean), Cond.methodLink RX8 69 yX8_hasFoldedParts, Cond.methodLink RL 40 yX10_foldAll, Cond.instanceMethod yX10_foldAll, Cond.selects RX10 yX10_foldAll yX10_foldAll, Cond.code yX10_foldAll cX10_foldAll 4 (some .int), Cond.methodLink RX10 157 yX10_nextFold, Cond.instanceMethod yX10_nextFold, Cond.selects RX10 yX10_nextFold yX10_nextFold, Cond.code yX10_nextFold cX10_nextFold 4 (some .int)]
def wsL_law_r22 : List Cond := [Cond.methodLink RL 41 yX9_unfold, Cond.instanceMethod yX9_unfold, Cond.selects RX9 yX9_unfold yX9_unfold, Cond.code yX9_unfold cX9_unfold 2 (some .int), Cond.fieldLink RX9 143 "LadderBench$Network" "kind" "[I", Cond.methodLink RX9 147 yX8_unfoldFrom, Cond.instanceMethod yX8_unfoldFrom, Cond.selects RX8 yX8_unfoldFrom yX8_unfoldFrom, Cond.code yX8_unfoldFrom cX8_unfoldFrom 5 (some .int), Cond.methodLink RX8 62 yX5_findWayUp, Cond.instanceMethod yX5_findWayUp, Cond.selects RX5 yX5_findWayUp yX5_findWayUp, Cond.code yX5_findWayUp cX5_findWayUp 5 (some .int), Cond.methodLink RX5 37 yX5_hasPart, Cond.methodLink RL 44 yX10_unfold, Cond.instanceMethod yX10_unfold, Cond.selects RX10 yX10_unfold yX10_unfold, Cond.code yX10_unfold cX10_unfold 4 (some .int), Cond.methodLink RL 45 yX9_note, Cond.instanceMethod yX9_note, Cond.selects RX9 yX9_note yX9_note, Cond.code yX9_note cX9_note 4 (some .int), Cond.fieldLink RX9 155 "LadderBench$State" "notes" "LLadderBench$Notes;", Cond.fieldLink RX9 165 "LadderBench$Notes" "size" "I"]
def wsL_law_r23 : List Cond := [Cond.methodLink RX9 151 yX0_findReading, Cond.instanceMethod yX0_findReading, Cond.selects RX0 yX0_findReading yX0_findReading, Cond.code yX0_findReading cX0_findReading 3 (some (.object "LadderBench$Fraction")), Cond.methodLink RX0 89 yX0_findOhms, Cond.instanceMethod yX0_findOhms, Cond.selects RX0 yX0_findOhms yX0_findOhms, Cond.code yX0_findOhms cX0_findOhms 5 none, Cond.fieldLink RX0 31 "LadderBench$State" "network" "LLadderBench$Network;", Cond.fieldLink RX0 37 "LadderBench$Network" "size" "I", Cond.fieldLink RX0 62 "LadderBench$State" "meter" "I", Cond.methodLink RX0 43 yX5_isKind, Cond.instanceMethod yX5_isKind, Cond.selects RX5 yX5_isKind yX5_isKind, Cond.code yX5_isKind cX5_isKind 3 (some .boolean), Cond.methodLink RX0 47 yX0_putArm, Cond.instanceMethod yX0_putArm, Cond.selects RX0 yX0_putArm yX0_putArm, Cond.code yX0_putArm cX0_putArm 4 none, Cond.fieldLink RX0 69 "LadderBench$Network" "letter" "[I", Cond.fieldLink RX0 73 "LadderBench$State" "armState" "[I", Cond.fieldLink RX0 76 "LadderBench$State" "armValue" "[I", Cond.methodLink RX0 79 yX2_put, Cond.instanceMethod yX2_put]
def wsL_law_r24 : List Cond := [Cond.selects RX2 yX2_put yX2_put, Cond.code yX2_put cX2_put 7 none, Cond.methodLink RX2 18 yX2_commonDivisor, Cond.static yX2_commonDivisor, Cond.code yX2_commonDivisor cX2_commonDivisor 11 (some .long), Cond.methodLink RX0 51 yX0_addUp, Cond.instanceMethod yX0_addUp, Cond.selects RX0 yX0_addUp yX0_addUp, Cond.code yX0_addUp cX0_addUp 5 none, Cond.fieldLink RX0 83 "LadderBench$Network" "around" "[I", Cond.methodLink RX0 55 yX2_copy, Cond.instanceMethod yX2_copy, Cond.selects RX2 yX2_copy yX2_copy, Cond.code yX2_copy cX2_copy 2 none, Cond.methodLink RX0 59 yX2_invert, Cond.instanceMethod yX2_invert, Cond.selects RX2 yX2_invert yX2_invert, Cond.code yX2_invert cX2_invert 3 none, Cond.methodLink RX0 86 yX2_add, Cond.instanceMethod yX2_add, Cond.selects RX2 yX2_add yX2_add, Cond.code yX2_add cX2_add 9 none, Cond.methodLink RX2 22 yX2_put, Cond.methodLink RX0 65 yX0_addMeter]
def wsL_law_r25 : List Cond := [Cond.instanceMethod yX0_addMeter, Cond.selects RX0 yX0_addMeter yX0_addMeter, Cond.code yX0_addMeter cX0_addMeter 3 none, Cond.methodLink RX0 92 yX0_findVolts, Cond.instanceMethod yX0_findVolts, Cond.selects RX0 yX0_findVolts yX0_findVolts, Cond.code yX0_findVolts cX0_findVolts 6 none, Cond.fieldLink RX0 99 "LadderBench$State" "source" "I", Cond.methodLink RX0 95 yX5_hasPart, Cond.methodLink RX0 102 yX0_divideVolts, Cond.instanceMethod yX0_divideVolts, Cond.selects RX0 yX0_divideVolts yX0_divideVolts, Cond.code yX0_divideVolts cX0_divideVolts 5 none, Cond.methodLink RX0 116 Lib.Math.max.name, Cond.static Lib.Math.max.name, Cond.code Lib.Math.max.name Lib.Math.max.code 2 (some .int), Cond.methodLink RX0 105 yX2_isInfinite, Cond.instanceMethod yX2_isInfinite, Cond.selects RX2 yX2_isInfinite yX2_isInfinite, Cond.code yX2_isInfinite cX2_isInfinite 1 (some .boolean), Cond.methodLink RX0 109 yX2_isZero, Cond.instanceMethod yX2_isZero, Cond.selects RX2 yX2_isZero yX2_isZero, Cond.code yX2_isZero cX2_isZero 1 (some .boolean)]
def wsL_law_r26 : List Cond := [Cond.methodLink RX0 112 yX0_countInfinite, Cond.instanceMethod yX0_countInfinite, Cond.selects RX0 yX0_countInfinite yX0_countInfinite, Cond.code yX0_countInfinite cX0_countInfinite 5 (some .int), Cond.methodLink RX0 122 yX2_multiply, Cond.instanceMethod yX2_multiply, Cond.selects RX2 yX2_multiply yX2_multiply, Cond.code yX2_multiply cX2_multiply 8 none, Cond.methodLink RX9 159 yX7_find, Cond.instanceMethod yX7_find, Cond.selects RX7 yX7_find yX7_find, Cond.code yX7_find cX7_find 3 (some .int), Cond.fieldLink RX7 26 "LadderBench$Fraction" "upper" "J", Cond.fieldLink RX7 31 "LadderBench$Fraction" "lower" "J", Cond.methodLink RX9 166 yX7_put, Cond.instanceMethod yX7_put, Cond.selects RX7 yX7_put yX7_put, Cond.code yX7_put cX7_put 4 (some .int), Cond.methodLink RL 48 yX10_note, Cond.instanceMethod yX10_note, Cond.selects RX10 yX10_note yX10_note, Cond.code yX10_note cX10_note 4 (some .int), Cond.fieldLink RX10 165 "LadderBenchModel" "up" "J", Cond.fieldLink RX10 169 "LadderBenchModel" "low" "J"]
def wsL_law_r27 : List Cond := [Cond.methodLink RX10 226 yX10_findVoltage, Cond.instanceMethod yX10_findVoltage, Cond.selects RX10 yX10_findVoltage yX10_findVoltage, Cond.code yX10_findVoltage cX10_findVoltage 3 none, Cond.methodLink RX10 209 yX10_lay, Cond.instanceMethod yX10_lay, Cond.selects RX10 yX10_lay yX10_lay, Cond.code yX10_lay cX10_lay 9 none, Cond.methodLink RX10 193 yX10_layArm, Cond.instanceMethod yX10_layArm, Cond.selects RX10 yX10_layArm yX10_layArm, Cond.code yX10_layArm cX10_layArm 6 none, Cond.methodLink RX10 196 yX10_laySeries, Cond.instanceMethod yX10_laySeries, Cond.selects RX10 yX10_laySeries yX10_laySeries, Cond.code yX10_laySeries cX10_laySeries 7 none, Cond.methodLink RX10 176 yX10_sum, Cond.instanceMethod yX10_sum, Cond.selects RX10 yX10_sum yX10_sum, Cond.code yX10_sum cX10_sum 11 none, Cond.methodLink RX10 161 yX10_divisor, Cond.static yX10_divisor, Cond.code yX10_divisor cX10_divisor 10 (some .long), Cond.methodLink RX10 172 yX10_becomes]
def wsL_law_r28 : List Cond := [Cond.instanceMethod yX10_becomes, Cond.selects RX10 yX10_becomes yX10_becomes, Cond.code yX10_becomes cX10_becomes 7 none, Cond.methodLink RX10 199 yX10_letsOf, Cond.instanceMethod yX10_letsOf, Cond.selects RX10 yX10_letsOf yX10_letsOf, Cond.code yX10_letsOf cX10_letsOf 4 none, Cond.fieldLink RX10 184 "LadderBenchModel" "letsUp" "J", Cond.fieldLink RX10 187 "LadderBenchModel" "letsLow" "J", Cond.fieldLink RX10 180 "LadderBenchModel" "isShort" "Z", Cond.methodLink RX10 190 yX10_lets, Cond.instanceMethod yX10_lets, Cond.selects RX10 yX10_lets yX10_lets, Cond.code yX10_lets cX10_lets 5 none, Cond.methodLink RX10 203 yX10_takeLets, Cond.instanceMethod yX10_takeLets, Cond.selects RX10 yX10_takeLets yX10_takeLets, Cond.code yX10_takeLets cX10_takeLets 2 none, Cond.methodLink RX10 223 yX10_layVoltages, Cond.instanceMethod yX10_layVoltages, Cond.selects RX10 yX10_layVoltages yX10_layVoltages, Cond.code yX10_layVoltages cX10_layVoltages 4 none, Cond.methodLink RX10 220 yX10_layVoltage, Cond.instanceMethod yX10_layVoltage]
def wsL_law_r29 : List Cond := [Cond.selects RX10 yX10_layVoltage yX10_layVoltage, Cond.code yX10_layVoltage cX10_layVoltage 3 none, Cond.methodLink RX10 214 yX10_infinite, Cond.instanceMethod yX10_infinite, Cond.selects RX10 yX10_infinite yX10_infinite, Cond.code yX10_infinite cX10_infinite 4 (some .int), Cond.methodLink RX10 217 yX10_product, Cond.instanceMethod yX10_product, Cond.selects RX10 yX10_product yX10_product, Cond.code yX10_product cX10_product 13 none, Cond.methodLink RL 49 yX9_undo, Cond.instanceMethod yX9_undo, Cond.selects RX9 yX9_undo yX9_undo, Cond.code yX9_undo cX9_undo 1 (some .int), Cond.fieldLink RX9 170 "LadderBench$History" "size" "I", Cond.methodLink RX9 171 yX3_giveBack, Cond.instanceMethod yX3_giveBack, Cond.selects RX3 yX3_giveBack yX3_giveBack, Cond.code yX3_giveBack cX3_giveBack 2 none, Cond.methodLink RL 52 yX10_undo, Cond.instanceMethod yX10_undo, Cond.selects RX10 yX10_undo yX10_undo, Cond.code yX10_undo cX10_undo 2 (some .int), Cond.methodLink RL 53 yX9_keep]
def wsL_law_r30 : List Cond := [Cond.instanceMethod yX9_keep, Cond.selects RX9 yX9_keep yX9_keep, Cond.code yX9_keep cX9_keep 1 (some .int), Cond.methodLink RX9 174 yX8_copy, Cond.methodLink RL 56 yX10_keep, Cond.instanceMethod yX10_keep, Cond.selects RX10 yX10_keep yX10_keep, Cond.code yX10_keep cX10_keep 2 (some .int), Cond.fieldLink RX10 236 "LadderBenchModel" "isFilled" "Z", Cond.methodLink RL 57 yX9_restore, Cond.instanceMethod yX9_restore, Cond.selects RX9 yX9_restore yX9_restore, Cond.code yX9_restore cX9_restore 1 (some .int), Cond.methodLink RL 60 yX10_restore, Cond.instanceMethod yX10_restore, Cond.selects RX10 yX10_restore yX10_restore, Cond.code yX10_restore cX10_restore 2 (some .int), Cond.methodLink RL 61 yX9_part, Cond.instanceMethod yX9_part, Cond.selects RX9 yX9_part yX9_part, Cond.code yX9_part cX9_part 3 (some .int), Cond.fieldLink RX9 180 "LadderBench$Network" "around" "[I", Cond.fieldLink RX9 186 "LadderBench$Network" "letter" "[I", Cond.methodLink RX9 177 yX5_countParts]
def wsL_law_r31 : List Cond := [Cond.instanceMethod yX5_countParts, Cond.selects RX5 yX5_countParts yX5_countParts, Cond.code yX5_countParts cX5_countParts 4 (some .int), Cond.methodLink RX9 183 yX9_noneIfNowhere, Cond.static yX9_noneIfNowhere, Cond.code yX9_noneIfNowhere cX9_noneIfNowhere 1 (some .int), Cond.methodLink RX9 188 yX5_countArms, Cond.instanceMethod yX5_countArms, Cond.selects RX5 yX5_countArms yX5_countArms, Cond.code yX5_countArms cX5_countArms 4 (some .int), Cond.methodLink RX5 41 yX5_hasArm, Cond.methodLink RX5 44 yX5_findWayUp, Cond.methodLink RX9 191 yX8_isFoldable, Cond.methodLink RX9 194 yX5_findFirst, Cond.instanceMethod yX5_findFirst, Cond.selects RX5 yX5_findFirst yX5_findFirst, Cond.code yX5_findFirst cX5_findFirst 3 (some .int), Cond.methodLink RL 65 yX10_part, Cond.instanceMethod yX10_part, Cond.selects RX10 yX10_part yX10_part, Cond.code yX10_part cX10_part 3 (some .int), Cond.methodLink RX10 239 yX10_armsIn, Cond.instanceMethod yX10_armsIn, Cond.selects RX10 yX10_armsIn yX10_armsIn]
def wsL_law_r32 : List Cond := [Cond.code yX10_armsIn cX10_armsIn 5 (some .int), Cond.methodLink RX10 242 yX10_firstIn, Cond.instanceMethod yX10_firstIn, Cond.selects RX10 yX10_firstIn yX10_firstIn, Cond.code yX10_firstIn cX10_firstIn 3 (some .int), Cond.methodLink RL 66 yX9_arm, Cond.instanceMethod yX9_arm, Cond.selects RX9 yX9_arm yX9_arm, Cond.code yX9_arm cX9_arm 4 (some .int), Cond.fieldLink RX9 200 "LadderBench$State" "armValue" "[I", Cond.fieldLink RX9 203 "LadderBench$State" "armState" "[I", Cond.fieldLink RX9 206 "LadderBench$Network" "partOfArm" "[I", Cond.methodLink RX9 197 yX9_indexOfLetter, Cond.methodLink RL 69 yX10_arm, Cond.instanceMethod yX10_arm, Cond.selects RX10 yX10_arm yX10_arm, Cond.code yX10_arm cX10_arm 4 (some .int), Cond.methodLink RX10 245 yX10_armBy, Cond.instanceMethod yX10_armBy, Cond.selects RX10 yX10_armBy yX10_armBy, Cond.code yX10_armBy cX10_armBy 2 (some .int), Cond.methodLink RL 70 yX9_resistance, Cond.instanceMethod yX9_resistance, Cond.selects RX9 yX9_resistance yX9_resistance]
def wsL_law_r33 : List Cond := [Cond.code yX9_resistance cX9_resistance 3 (some .long), Cond.constantLong RX9 209 (-1), Cond.constantLong RX9 214 (-2), Cond.fieldLink RX9 220 "LadderBench$Circuit" "ohms" "[LLadderBench$Fraction;", Cond.methodLink RX9 211 yX9_isHalf, Cond.static yX9_isHalf, Cond.code yX9_isHalf cX9_isHalf 1 (some .boolean), Cond.methodLink RX9 216 yX0_findOhms, Cond.methodLink RX9 224 yX2_half, Cond.instanceMethod yX2_half, Cond.selects RX2 yX2_half yX2_half, Cond.code yX2_half cX2_half 2 (some .long), Cond.methodLink RL 74 yX10_resistance, Cond.instanceMethod yX10_resistance, Cond.selects RX10 yX10_resistance yX10_resistance, Cond.code yX10_resistance cX10_resistance 4 (some .long), Cond.methodLink RX10 206 yX10_telling, Cond.instanceMethod yX10_telling, Cond.selects RX10 yX10_telling yX10_telling, Cond.code yX10_telling cX10_telling 3 (some .int), Cond.methodLink RL 75 yX9_folded, Cond.instanceMethod yX9_folded, Cond.selects RX9 yX9_folded yX9_folded, Cond.code yX9_folded cX9_folded 3 (some .long)]
def wsL_law_r34 : List Cond := [Cond.constantLong RX9 228 (-4), Cond.methodLink RL 78 yX10_folded, Cond.instanceMethod yX10_folded, Cond.selects RX10 yX10_folded yX10_folded, Cond.code yX10_folded cX10_folded 4 (some .long), Cond.constantLong RX10 212 (-4), Cond.methodLink RL 79 yX9_voltage, Cond.instanceMethod yX9_voltage, Cond.selects RX9 yX9_voltage yX9_voltage, Cond.code yX9_voltage cX9_voltage 3 (some .long), Cond.methodLink RX9 230 yX0_findVoltage, Cond.instanceMethod yX0_findVoltage, Cond.selects RX0 yX0_findVoltage yX0_findVoltage, Cond.code yX0_findVoltage cX0_findVoltage 3 (some (.object "LadderBench$Fraction")), Cond.methodLink RL 82 yX10_voltage, Cond.instanceMethod yX10_voltage, Cond.selects RX10 yX10_voltage yX10_voltage, Cond.code yX10_voltage cX10_voltage 4 (some .long), Cond.methodLink RL 83 yX9_reading, Cond.instanceMethod yX9_reading, Cond.selects RX9 yX9_reading yX9_reading, Cond.code yX9_reading cX9_reading 3 (some .long), Cond.methodLink RL 86 yX10_reading, Cond.instanceMethod yX10_reading]
def wsL_law_r35 : List Cond := [Cond.selects RX10 yX10_reading yX10_reading, Cond.code yX10_reading cX10_reading 4 (some .long), Cond.methodLink RL 87 yX9_loss, Cond.instanceMethod yX9_loss, Cond.selects RX9 yX9_loss yX9_loss, Cond.code yX9_loss cX9_loss 2 (some .int), Cond.methodLink RX9 233 yX0_findLoss, Cond.instanceMethod yX0_findLoss, Cond.selects RX0 yX0_findLoss yX0_findLoss, Cond.code yX0_findLoss cX0_findLoss 3 (some .int), Cond.fieldLink RX0 125 "LadderBench$Fraction" "lower" "J", Cond.constantLong RX0 129 (1000), Cond.fieldLink RX0 131 "LadderBench$Fraction" "upper" "J", Cond.methodLink RX0 134 yJ9_floorDiv_f86c9, Cond.static yJ9_floorDiv_f86c9, Cond.initialized RJ9, Cond.code yJ9_floorDiv_f86c9 cJ9_floorDiv_f86c9 6 (some .long), Cond.methodLink RL 90 yX10_loss, Cond.instanceMethod yX10_loss, Cond.selects RX10 yX10_loss yX10_loss, Cond.code yX10_loss cX10_loss 2 (some .int), Cond.methodLink RX10 231 yX10_lossOf, Cond.instanceMethod yX10_lossOf, Cond.selects RX10 yX10_lossOf yX10_lossOf]
def wsL_law_r36 : List Cond := [Cond.code yX10_lossOf cX10_lossOf 6 (some .int), Cond.constantLong RX10 229 (1000), Cond.methodLink RL 91 yX9_noted, Cond.instanceMethod yX9_noted, Cond.selects RX9 yX9_noted yX9_noted, Cond.code yX9_noted cX9_noted 3 (some .long), Cond.fieldLink RX9 237 "LadderBench$Notes" "times" "[I", Cond.fieldLink RX9 240 "LadderBench$Notes" "upper" "[J", Cond.fieldLink RX9 244 "LadderBench$Notes" "lower" "[J", Cond.methodLink RL 94 yX10_noted, Cond.instanceMethod yX10_noted, Cond.selects RX10 yX10_noted yX10_noted, Cond.code yX10_noted cX10_noted 3 (some .long), Cond.constantLong RX10 234 (-2), Cond.methodLink RL 95 yX9_solve, Cond.instanceMethod yX9_solve, Cond.selects RX9 yX9_solve yX9_solve, Cond.code yX9_solve cX9_solve 7 (some .long), Cond.methodLink RX9 247 yX2_put, Cond.methodLink RX9 250 yX0_solveFor, Cond.instanceMethod yX0_solveFor, Cond.selects RX0 yX0_solveFor yX0_solveFor, Cond.code yX0_solveFor cX0_solveFor 8 (some .int), Cond.methodLink RX0 138 yX5_findWayUp]
def wsL_law_r37 : List Cond := [Cond.methodLink RX0 142 yX2_isSame, Cond.instanceMethod yX2_isSame, Cond.selects RX2 yX2_isSame yX2_isSame, Cond.code yX2_isSame cX2_isSame 2 (some .boolean), Cond.methodLink RX0 146 yX0_takeOthersOff, Cond.instanceMethod yX0_takeOthersOff, Cond.selects RX0 yX0_takeOthersOff yX0_takeOthersOff, Cond.code yX0_takeOthersOff cX0_takeOthersOff 6 (some .boolean), Cond.methodLink RL 99 yX10_solve, Cond.instanceMethod yX10_solve, Cond.selects RX10 yX10_solve yX10_solve, Cond.code yX10_solve cX10_solve 7 (some .long), Cond.constantLong RX10 251 (-1), Cond.methodLink RX10 253 yX10_find, Cond.instanceMethod yX10_find, Cond.selects RX10 yX10_find yX10_find, Cond.code yX10_find cX10_find 8 (some .int), Cond.methodLink RX10 248 yX10_goesIn, Cond.instanceMethod yX10_goesIn, Cond.selects RX10 yX10_goesIn yX10_goesIn, Cond.code yX10_goesIn cX10_goesIn 12 (some .int), Cond.methodLink RL 100 yX9_fault, Cond.instanceMethod yX9_fault, Cond.selects RX9 yX9_fault yX9_fault]
def wsL_law_r38 : List Cond := [Cond.code yX9_fault cX9_fault 7 (some .int), Cond.methodLink RX9 254 yX9_couldBe, Cond.instanceMethod yX9_couldBe, Cond.selects RX9 yX9_couldBe yX9_couldBe, Cond.code yX9_couldBe cX9_couldBe 3 (some .boolean), Cond.methodLink RX9 276 yX2_isSame, Cond.methodLink RL 104 yX10_fault, Cond.instanceMethod yX10_fault, Cond.selects RX10 yX10_fault yX10_fault, Cond.code yX10_fault cX10_fault 11 (some .int), Cond.methodLink RL 105 yX9_worst, Cond.instanceMethod yX9_worst, Cond.selects RX9 yX9_worst yX9_worst, Cond.code yX9_worst cX9_worst 5 (some .int), Cond.methodLink RL 108 yX10_worst, Cond.instanceMethod yX10_worst, Cond.selects RX10 yX10_worst yX10_worst, Cond.code yX10_worst cX10_worst 5 (some .int), Cond.methodLink RL 109 yX9_count, Cond.instanceMethod yX9_count, Cond.selects RX9 yX9_count yX9_count, Cond.code yX9_count cX9_count 2 (some .int), Cond.fieldLink RX9 261 "LadderBench$State" "source" "I", Cond.fieldLink RX9 264 "LadderBench$State" "meter" "I"]
def wsL_law_r39 : List Cond := [Cond.fieldLink RX9 270 "LadderBench$State" "folds" "I", Cond.methodLink RX9 258 yX5_countKind, Cond.instanceMethod yX5_countKind, Cond.selects RX5 yX5_countKind yX5_countKind, Cond.code yX5_countKind cX5_countKind 4 (some .int), Cond.methodLink RX9 267 yX7_countTimes, Cond.instanceMethod yX7_countTimes, Cond.selects RX7 yX7_countTimes yX7_countTimes, Cond.code yX7_countTimes cX7_countTimes 3 (some .int), Cond.methodLink RX9 273 yX8_countNotSound, Cond.instanceMethod yX8_countNotSound, Cond.selects RX8 yX8_countNotSound yX8_countNotSound, Cond.code yX8_countNotSound cX8_countNotSound 3 (some .int), Cond.methodLink RX8 76 yX5_hasArm, Cond.methodLink RL 112 yX10_count, Cond.instanceMethod yX10_count, Cond.selects RX10 yX10_count yX10_count, Cond.code yX10_count cX10_count 6 (some .int)]
def wsL_law : List Cond := (wsL_law_r1 ++ (wsL_law_r2 ++ (wsL_law_r3 ++ (wsL_law_r4 ++ (wsL_law_r5 ++ (wsL_law_r6 ++ (wsL_law_r7 ++ (wsL_law_r8 ++ (wsL_law_r9 ++ (wsL_law_r10 ++ (wsL_law_r11 ++ (wsL_law_r12 ++ (wsL_law_r13 ++ (wsL_law_r14 ++ (wsL_law_r15 ++ (wsL_law_r16 ++ (wsL_law_r17 ++ (wsL_law_r18 ++ (wsL_law_r19 ++ (wsL_law_r20 ++ (wsL_law_r21 ++ (wsL_law_r22 ++ (wsL_law_r23 ++ (wsL_law_r24 ++ (wsL_law_r25 ++ (wsL_law_r26 ++ (wsL_law_r27 ++ (wsL_law_r28 ++ (wsL_law_r29 ++ (wsL_law_r30 ++ (wsL_law_r31 ++ (wsL_law_r32 ++ (wsL_law_r33 ++ (wsL_law_r34 ++ (wsL_law_r35 ++ (wsL_law_r36 ++ (wsL_law_r37 ++ (wsL_law_r38 ++ wsL_law_r39)))))))))))))))))))))))))))))))))))))) ++ wsX90 ++ wsX100 ++ wsX40 ++ wsX80 ++ wsX30 ++ wsX60 ++ wsX10 ++ wsX00 ++ wsX20 ++ wsX50 ++ wsX70 ++ ([] : List Cond)
theorem inJ6 : ∀ w ∈ wsJ60, w ∈ lw_tbl := by decide +kernel
theorem inJ9 : ∀ w ∈ wsJ90, w ∈ lw_tbl := by decide +kernel
theorem inJ0 : ∀ w ∈ wsJ00, w ∈ lw_tbl := by decide +kernel
theorem inJ1 : ∀ w ∈ wsJ10, w ∈ lw_tbl := by decide +kernel
theorem inJ2 : ∀ w ∈ wsJ20, w ∈ lw_tbl := by decide +kernel
theorem inJ3 : ∀ w ∈ wsJ30, w ∈ lw_tbl := by decide +kernel
abbrev vwCl : List vw_C := [(RX0, TX0, 5), (RX1, TX1, 3), (RX2, TX2, 2), (RX3, TX3, 3), (RX4, TX4, 2), (RX5, TX5, 5), (RX6, TX6, 3), (RX7, TX7, 4), (RX8, TX8, 8), (RX9, TX9, 10), (RX10, TX10, 26)]
end
section
/-! THE TWO TABLES: h.1 a k is the int, h.2 a k the long that place k of the cell a holds; what a cell is (its class or kind of array, which of its places are ints, longs, or which cell they point at) never changes: 'sh'. -/
abbrev gHp : Type := (Nat → Nat → Int32) × (Nat → Nat → Int64)
abbrev gSl : Type := Nat ⊕ Nat
abbrev gSh : Type := (Nat × List gSl) ⊕ (Nat × Nat × (Nat → Nat))
def gV (I : Nat → Int32) (L : Nat → Int64) (k : Nat) : gSl → Value
  | .inl 0 => .int (I k)
  | .inl _ => .long (L k)
  | .inr b => .ref b
def gVs (I : Nat → Int32) (L : Nat → Int64) : Nat → List gSl → List Value
  | _, [] => []
  | k, x :: r => gV I L k x :: gVs I L (k + 1) r
theorem gVs_get (I : Nat → Int32) (L : Nat → Int64) : ∀ (ks : List gSl) (k j : Nat), (gVs I L k ks)[j]? = (ks[j]?).map (gV I L (k + j)) := by
  intro ks
  induction ks with
  | nil => intro k j; simp [gVs]
  | cons x r ih =>
    intro k j
    cases j with
    | zero => simp [gVs]
    | succ j => simp [gVs, ih (k + 1) j, Nat.add_assoc, Nat.add_comm 1 j]
theorem gVs_len (I : Nat → Int32) (L : Nat → Int64) : ∀ (ks : List gSl) (k : Nat), (gVs I L k ks).length = ks.length := by
  intro ks
  induction ks with
  | nil => intro k; rfl
  | cons x r ih => intro k; simp [gVs, ih (k + 1)]
/-- one place of one cell is written -/
def gU {α : Type} (f : Nat → Nat → α) (a k : Nat) (v : α) : Nat → Nat → α := fun x j => if x = a then (if j = k then v else f x j) else f x j
theorem gU_eq {α : Type} (f : Nat → Nat → α) (a k : Nat) (v : α) : gU f a k v a k = v := by simp [gU]
theorem gU_ne {α : Type} {f : Nat → Nat → α} {a k x : Nat} {v : α} (h : x ≠ a) : gU f a k v x = f x := by funext j; simp [gU, h]
theorem gU_ne2 {α : Type} {f : Nat → Nat → α} {a k x j : Nat} {v : α} (h : x ≠ a ∨ j ≠ k) : gU f a k v x j = f x j := by
  by_cases hx : x = a
  · by_cases hj : j = k
    · exact absurd h (by simp [hx, hj])
    · simp [gU, hj]
  · simp [gU, hx]
theorem gVs_out {I I' : Nat → Int32} {L L' : Nat → Int64} : ∀ (ks : List gSl) (k : Nat), (∀ j, k ≤ j → I' j = I j) → (∀ j, k ≤ j → L' j = L j) → gVs I' L' k ks = gVs I L k ks := by
  intro ks
  induction ks with
  | nil => intro k _ _; rfl
  | cons x r ih =>
    intro k h1 h2
    have e : gV I' L' k x = gV I L k x := by
      rcases x with x | b
      · rcases x with _ | x
        · show Value.int (I' k) = Value.int (I k)
          rw [h1 k (Nat.le_refl k)]
        · show Value.long (L' k) = Value.long (L k)
          rw [h2 k (Nat.le_refl k)]
      · rfl
    simp only [gVs]
    rw [e, ih (k + 1) (fun j hj => h1 j (by omega)) (fun j hj => h2 j (by omega))]
theorem gVs_setI (I : Nat → Int32) (L : Nat → Int64) (v : Int32) : ∀ (ks : List gSl) (k j : Nat), ks[j]? = some (.inl 0) → (gVs I L k ks).set j (.int v) = gVs (fun i => if i = k + j then v else I i) L k ks := by
  intro ks
  induction ks with
  | nil => intro k j h; simp at h
  | cons x r ih =>
    intro k j h
    cases j with
    | zero =>
      have hx : x = .inl 0 := by simpa using h
      subst hx
      simp only [gVs, List.set_cons_zero]
      rw [gVs_out (I := I) (L := L) (I' := fun i => if i = k + 0 then v else I i) (L' := L) r (k + 1) (fun i hi => by simp; omega) (fun _ _ => rfl)]
      simp [gV]
    | succ j =>
      have h2 : r[j]? = some (.inl 0) := by simpa using h
      simp only [gVs, List.set_cons_succ]
      rw [ih (k + 1) j h2]
      have e : gV (fun i => if i = k + (j + 1) then v else I i) L k x = gV I L k x := by
        rcases x with x | b
        · rcases x with _ | x
          · show Value.int (if k = k + (j + 1) then v else I k) = Value.int (I k)
            rw [if_neg (by omega)]
          · rfl
        · rfl
      rw [e, show k + 1 + j = k + (j + 1) by omega]
theorem gVs_setL (I : Nat → Int32) (L : Nat → Int64) (v : Int64) : ∀ (ks : List gSl) (k j : Nat), ks[j]? = some (.inl 1) → (gVs I L k ks).set j (.long v) = gVs I (fun i => if i = k + j then v else L i) k ks := by
  intro ks
  induction ks with
  | nil => intro k j h; simp at h
  | cons x r ih =>
    intro k j h
    cases j with
    | zero =>
      have hx : x = .inl 1 := by simpa using h
      subst hx
      simp only [gVs, List.set_cons_zero]
      rw [gVs_out (I := I) (L := L) (I' := I) (L' := fun i => if i = k + 0 then v else L i) r (k + 1) (fun _ _ => rfl) (fun i hi => by simp; omega)]
      simp [gV]
    | succ j =>
      have h2 : r[j]? = some (.inl 1) := by simpa using h
      simp only [gVs, List.set_cons_succ]
      rw [ih (k + 1) j h2]
      have e : gV I (fun i => if i = k + (j + 1) then v else L i) k x = gV I L k x := by
        rcases x with x | b
        · rcases x with _ | x
          · rfl
          · show Value.long (if k = k + (j + 1) then v else L k) = Value.long (L k)
            rw [if_neg (by omega)]
        · rfl
      rw [e, show k + 1 + j = k + (j + 1) by omega]
/-- what a cell holds -/
def gE (cA : Nat → ClassId) (I : Nat → Int32) (L : Nat → Int64) : gSh → va_E
  | .inl (ci, ks) => .inr (ci, gVs I L 0 ks)
  | .inr (0, n, _) => .inl (cA 0, n, .inl I)
  | .inr (1, n, _) => .inl (cA 1, n, .inr (.inl L))
  | .inr (2, n, _) => .inl (cA 2, n, .inl I)
  | .inr (3, n, _) => .inl (cA 3, n, .inl I)
  | .inr (t, n, f) => .inl (cA t, n, .inr (.inr (.inr (.inr (fun j => some (f j))))))
def gR (D : va_G) (cA : Nat → ClassId) (sh : Nat → Option gSh) (h : gHp) (H : Heap) : Prop := ∀ (a : Nat) (x : gSh), sh a = some x → va_at D vwCl (a, gE cA (h.1 a) (h.2 a) x) H
abbrev gT (cA : Nat → ClassId) : List (ClassId × FieldType) := [(cA 0, .int), (cA 1, .long), (cA 2, .char), (cA 3, .boolean), (cA 4, .object "LadderBench$Fraction"), (cA 5, .object "LadderBench$State")]

def gSidx : List Nat := [58, 64, 66, 68, 70, 72]
def gStxt : List String := ["set", "open", "short", "mend", "source", "meter"]
def gSlen : List Nat := [3, 4, 5, 4, 6, 5]
def gSbyt : List (List Int32) := [[115, 101, 116], [111, 112, 101, 110], [115, 104, 111, 114, 116], [109, 101, 110, 100], [115, 111, 117, 114, 99, 101], [109, 101, 116, 101, 114]]
/-- the links to private members of nest mates -/
def gNestL : List Cond := [.methodLinkNest RX9 18 yX8_init "LadderBench", .methodLinkNest RX9 38 yX6_init "LadderBench", .methodLinkNest RX9 45 yX1_init "LadderBench", .methodLinkNest RX9 59 yX2_init "LadderBench", .methodLinkNest RX9 9 yX4_init "LadderBench", .methodLinkNest RX0 20 yX2_init "LadderBench", .methodLinkNest RX1 48 yX9_indexOfLetter "LadderBench", .methodLinkNest RX3 24 yX8_init "LadderBench", .methodLinkNest RX6 31 yX9_indexOfLetter "LadderBench", .methodLinkNest RX8 20 yX7_init "LadderBench"]
def gNs (U : State) : Prop := ∀ w ∈ gNestL, va_Nw w U
theorem gNs.warm {s U : State} (hW : s.WarmedH U.vm) (h : gNs s) : gNs U := by
  intro w hw
  have h1 := h w hw
  simp only [gNestL, List.mem_cons, List.not_mem_nil, or_false] at hw
  rcases hw with rfl | rfl | rfl | rfl | rfl | rfl | rfl | rfl | rfl | rfl <;> exact va_Nw.warmM hW h1
theorem gNs.same {u U : State} (hv : u.vm = U.vm) (h : gNs u) : gNs U := by
  intro w hw
  have h1 := h w hw
  simp only [gNestL, List.mem_cons, List.not_mem_nil, or_false] at hw
  rcases hw with rfl | rfl | rfl | rfl | rfl | rfl | rfl | rfl | rfl | rfl <;> exact va_Nw.same rfl hv h1
/-- what stays the same all through: launch, classes, arrays' classes, what the cells are, the first address -/
abbrev gWd : Type := Launch × va_G × (Nat → ClassId) × (Nat → Option gSh) × Nat × (Nat → Nat) × (Nat → Nat) × Value
abbrev gsh (w : gWd) : Nat → Option gSh := w.2.2.2.1
def gSt (b0 : Nat) (adK adV : Nat → Nat) (fz : Value) (U : State) : Prop := vk_S 6 gSlen gSbyt adK adV (fun q => b0 ≤ q) U U.heap ∧ (∀ i : Nat, i < 6 → vk_R RX1 (gSidx.getD i 0) (gStxt.getD i "") (adK i) U) ∧ va_Z "java/lang/String" "COMPACT_STRINGS" "Z" (.int 1) (fun q => b0 ≤ q) U U.heap ∧ va_Z "jdk/internal/util/Preconditions" "SIOOBE_FORMATTER" "Ljava/util/function/BiFunction;" fz (fun q => b0 ≤ q) U U.heap
theorem gSt.same {b0 : Nat} {adK adV : Nat → Nat} {fz : Value} {u U : State} (hv : U.vm = u.vm) (hh : U.heap = u.heap) (h : gSt b0 adK adV fz u) : gSt b0 adK adV fz U := by
  have hal : u.vm.Alike U.vm := by rw [hv]; exact Vm.Alike.refl u.vm
  refine ⟨?_, fun i hi => vk_R.same hv (h.2.1 i hi), ?_, ?_⟩
  · rw [hh]; exact vk_S.moved hal h.1
  · rw [hh]; exact va_Z.moved hal h.2.2.1
  · rw [hh]; exact va_Z.moved hal h.2.2.2
theorem gSt.warm {b0 : Nat} {adK adV : Nat → Nat} {fz : Value} {s U : State} (hW : s.WarmedH U.vm) (hh : ∀ q : Nat, q < s.heap.size → ¬ b0 ≤ q → U.heap[q]? = s.heap[q]?) (h : gSt b0 adK adV fz s) : gSt b0 adK adV fz U :=
  ⟨vk_S.moved hW.alike (vk_S.kept h.1 hh), fun i hi => vk_R.warm hW (h.2.1 i hi), va_Z.moved hW.alike (va_Z.kept h.2.2.1 hh), va_Z.moved hW.alike (va_Z.kept h.2.2.2 hh)⟩
def gPre (w : gWd) (h : gHp) (U : State) : Prop := gR w.2.1 w.2.2.1 w.2.2.2.1 h U.heap ∧ va_K w.2.1 vwCl (gT w.2.2.1) U ∧ gNs U ∧ w.2.2.2.2.1 ≤ U.heap.size ∧ (∀ (a : Nat) (x : gSh), w.2.2.2.1 a = some x → w.2.2.2.2.1 ≤ a) ∧ gSt w.2.2.2.2.1 w.2.2.2.2.2.1 w.2.2.2.2.2.2.1 w.2.2.2.2.2.2.2 U
def gQc (w : gWd) (v : Option Value) (h' : gHp) : State → Outcome → State → Prop := fun st oc t => oc = .returned v ∧ gR w.2.1 w.2.2.1 w.2.2.2.1 h' t.heap ∧ va_F (fun q => w.2.2.2.2.1 ≤ q) st t
def gMet (w : gWd) (y : MethodName) (ws : List Cond) (rm : Room) (av : List Value) (h : gHp) (v : Option Value) (h' : gHp) : Prop :=
  Met w.1 y ws rm (va_Pc av (gPre w h)) (fun _ st oc t => gQc w v h' st oc t) 0 0 (fun q => w.2.2.2.2.1 ≤ q)
/-- what is fixed in one activation -/
abbrev gCx : Type := Program × Env × Room × State × MethodId × Array Value × List Frame × Method × Code × Nat × Nat × (State → Prop)
def gC (w : gWd) (g : gCx) (cc : ByteArray) (Ts : List Cond) (own : String) (nL fr lo : Nat) : Prop := match w, g with
  | (_, D, cA, sh, b0, adK, adV, fz), (p, _, R, s, m, args, _, _, c, ce, sl, _) => p.tables.exec = Jvm.exec ∧ c.code = cc ∧ c.maxLocals = nL ∧ s.vm.findClass own = some m.cls ∧ (∀ x ∈ Ts, x.before args s = true) ∧ va_K D vwCl (gT cA) s ∧ gNs s ∧ b0 ≤ s.heap.size ∧ (∀ (a : Nat) (x : gSh), sh a = some x → b0 ≤ a) ∧ fr ≤ R.frames ∧ lo ≤ R.locals ∧ ce ≤ R.cells ∧ sl ≤ R.slots ∧ gSt b0 adK adV fz s
def gX (w : gWd) (g : gCx) (nL : Nat) (h : gHp) (pc : Nat) (lv : List (Nat × Value)) (st : List Value) : Prop := match w, g with
  | (l, D, cA, sh, b0, _, _, _), (p, e, R, s, m, args, below, meth, c, ce, sl, Q) => ∀ (ls : Array Slot) (H : Heap) (locs : List Loc), lv_has ls nL lv → gR D cA sh h H → va_S (fun q => b0 ≤ q) s.heap H locs → W p l e R s m args below meth c H locs ce sl Q (F0 m pc ls st)
def gEn (w : gWd) (g : gCx) (ret : Option FieldType) (v : Option Value) (h' : gHp) : Prop := match w, g with
  | (_, _, _, _, b0, _, _, _), (_, _, _, s, _, args, below, meth, _, ce, sl, Q) => meth.sig.returnType = ret ∧ meth.locks = false ∧ Q = MQ below (fun _ st oc t => gQc w v h' st oc t) args s ce sl (fun q => b0 ≤ q)
abbrev gZ (b : Bool) : Int32 := if b then 1 else 0
abbrev gIn (i : Int32) (n : Nat) : Prop := ¬ (i < 0 ∨ n ≤ i.toNatClampNeg)
abbrev gN (i : Int32) : Nat := i.toNatClampNeg
def gFuel : Nat := 4096
theorem gBind {α β : Type} {o : Option α} {f : α → Option β} {r : β} (h : o.bind f = some r) : ∃ v, o = some v ∧ f v = some r := by
  cases o with
  | none => cases h
  | some v => exact ⟨v, rfl, h⟩
theorem gGd {α : Type} {c : Prop} {_ : Decidable c} {o : Option α} {r : α} (h : (if c then o else none) = some r) : c ∧ o = some r := by
  by_cases hc : c
  · rw [if_pos hc] at h; exact ⟨hc, h⟩
  · rw [if_neg hc] at h; cases h
theorem gGn {α : Type} {c : Prop} {_ : Decidable c} {o : Option α} {r : α} (h : (if c then none else o) = some r) : ¬ c ∧ o = some r := by
  by_cases hc : c
  · rw [if_pos hc] at h; cases h
  · rw [if_neg hc] at h; exact ⟨hc, h⟩
theorem gPos {α : Type} {c : Prop} {_ : Decidable c} {a b r : α} (hc : c) (h : (if c then a else b) = r) : a = r := by rw [if_pos hc] at h; exact h
theorem gNeg {α : Type} {c : Prop} {_ : Decidable c} {a b r : α} (hc : ¬ c) (h : (if c then a else b) = r) : b = r := by rw [if_neg hc] at h; exact h

def gDec (c : ByteArray) (l : List (Nat × (Instr × Nat))) : Bool := l.all fun q => decide (decode c q.1 = .ok q.2)
theorem gDec_at {c : ByteArray} {l : List (Nat × (Instr × Nat))} (h : gDec c l = true) (k : Nat) {pc n : Nat} {i : Instr} (hk : l[k]? = some (pc, (i, n))) : decode c pc = .ok (i, n) :=
  by
  unfold gDec at h
  have h1 := List.all_eq_true.mp h (pc, (i, n)) (List.mem_of_getElem? hk)
  dsimp only at h1
  exact of_decide_eq_true h1
theorem gSw (x : Int32) (n : Nat) (hn : n < 100) (h : ∀ k : Nat, k ≤ n → ¬ x = Int32.ofNat k) : x.toInt < 0 ∨ (n : Int) < x.toInt := by
  by_cases h1 : x.toInt < 0
  · exact Or.inl h1
  · by_cases h2 : (n : Int) < x.toInt
    · exact Or.inr h2
    · refine absurd ?_ (h x.toInt.toNat (by omega))
      refine Int32.toInt_inj.mp ?_
      rw [Int32.toInt_ofNat_of_lt (by omega)]
      omega
theorem gx_iconst {w : gWd} {g : gCx} {cc : ByteArray} {Ts : List Cond} {own : String} {nL fr lo : Nat} (C : gC w g cc Ts own nL fr lo) {h : gHp} {pc : Nat} {lv : List (Nat × Value)} {st : List Value} {n : Int} {v : Int32} (hd : decode cc pc = .ok (.iconst n, 1)) (hv : Int32.ofInt n = v) (k : gX w g nL h (pc + 1) lv (.int v :: st)) : gX w g nL h pc lv (st) := by
  obtain ⟨l, D, cA, sh, b0, adK, adV, fz⟩ := w
  obtain ⟨p, e, R, s, m, args, below, meth, c, ce, sl, Q⟩ := g
  intro ls H locs hl hR hS
  exact lv_iconst C.1 C.2.1 hd hv (k ls H locs hl hR hS)
theorem gx_bipush {w : gWd} {g : gCx} {cc : ByteArray} {Ts : List Cond} {own : String} {nL fr lo : Nat} (C : gC w g cc Ts own nL fr lo) {h : gHp} {pc : Nat} {lv : List (Nat × Value)} {st : List Value} {n : Int} {v : Int32} (hd : decode cc pc = .ok (.bipush n, 2)) (hv : (Int8.ofInt n).toInt32 = v) (k : gX w g nL h (pc + 2) lv (.int v :: st)) : gX w g nL h pc lv (st) := by
  obtain ⟨l, D, cA, sh, b0, adK, adV, fz⟩ := w
  obtain ⟨p, e, R, s, m, args, below, meth, c, ce, sl, Q⟩ := g
  intro ls H locs hl hR hS
  exact lv_bipush C.1 C.2.1 hd hv (k ls H locs hl hR hS)
theorem gx_sipush {w : gWd} {g : gCx} {cc : ByteArray} {Ts : List Cond} {own : String} {nL fr lo : Nat} (C : gC w g cc Ts own nL fr lo) {h : gHp} {pc : Nat} {lv : List (Nat × Value)} {st : List Value} {n : Int} {v : Int32} (hd : decode cc pc = .ok (.sipush n, 3)) (hv : (Int16.ofInt n).toInt32 = v) (k : gX w g nL h (pc + 3) lv (.int v :: st)) : gX w g nL h pc lv (st) := by
  obtain ⟨l, D, cA, sh, b0, adK, adV, fz⟩ := w
  obtain ⟨p, e, R, s, m, args, below, meth, c, ce, sl, Q⟩ := g
  intro ls H locs hl hR hS
  exact lv_sipush C.1 C.2.1 hd hv (k ls H locs hl hR hS)
theorem gx_lconst {w : gWd} {g : gCx} {cc : ByteArray} {Ts : List Cond} {own : String} {nL fr lo : Nat} (C : gC w g cc Ts own nL fr lo) {h : gHp} {pc : Nat} {lv : List (Nat × Value)} {st : List Value} {n : Fin 2} {v : Int64} (hd : decode cc pc = .ok (.lconst n, 1)) (hv : Int64.ofNat (n : Nat) = v) (k : gX w g nL h (pc + 1) lv (.long v :: st)) : gX w g nL h pc lv (st) := by
  obtain ⟨l, D, cA, sh, b0, adK, adV, fz⟩ := w
  obtain ⟨p, e, R, s, m, args, below, meth, c, ce, sl, Q⟩ := g
  intro ls H locs hl hR hS
  exact lv_lconst C.1 C.2.1 hd hv (k ls H locs hl hR hS)
theorem gx_ldc2 {w : gWd} {g : gCx} {cc : ByteArray} {Ts : List Cond} {own : String} {nL fr lo : Nat} (C : gC w g cc Ts own nL fr lo) {h : gHp} {pc : Nat} {lv : List (Nat × Value)} {st : List Value} {index : Nat} {v : Int64} (hc : Jvm.Cond.constantLong own index v ∈ Ts) (hd : decode cc pc = .ok (.ldc2_w index, 3)) (k : gX w g nL h (pc + 3) lv (.long v :: st)) : gX w g nL h pc lv (st) := by
  obtain ⟨l, D, cA, sh, b0, adK, adV, fz⟩ := w
  obtain ⟨p, e, R, s, m, args, below, meth, c, ce, sl, Q⟩ := g
  intro ls H locs hl hR hS
  exact lv_ldc2 C.1 C.2.1 C.2.2.2.1 (C.2.2.2.2.1 _ hc) hd (k ls H locs hl hR hS)
theorem gx_iload {w : gWd} {g : gCx} {cc : ByteArray} {Ts : List Cond} {own : String} {nL fr lo : Nat} (C : gC w g cc Ts own nL fr lo) {h : gHp} {pc : Nat} {lv : List (Nat × Value)} {st : List Value} {i : Nat} {x : Int32} (j : Nat) (hd : decode cc pc = .ok (.iload i, 2)) (hj : lv[j]? = some (i, .int x)) (k : gX w g nL h (pc + 2) lv (.int x :: st)) : gX w g nL h pc lv (st) := by
  obtain ⟨l, D, cA, sh, b0, adK, adV, fz⟩ := w
  obtain ⟨p, e, R, s, m, args, below, meth, c, ce, sl, Q⟩ := g
  intro ls H locs hl hR hS
  exact lv_iload C.1 C.2.1 hd (lv_at hl j hj) (k ls H locs hl hR hS)
theorem gx_iload_n {w : gWd} {g : gCx} {cc : ByteArray} {Ts : List Cond} {own : String} {nL fr lo : Nat} (C : gC w g cc Ts own nL fr lo) {h : gHp} {pc : Nat} {lv : List (Nat × Value)} {st : List Value} {f : Fin 4} {i : Nat} {x : Int32} (j : Nat) (hd : decode cc pc = .ok (.iload_n f, 1)) (hi : (f : Nat) = i) (hj : lv[j]? = some (i, .int x)) (k : gX w g nL h (pc + 1) lv (.int x :: st)) : gX w g nL h pc lv (st) := by
  obtain ⟨l, D, cA, sh, b0, adK, adV, fz⟩ := w
  obtain ⟨p, e, R, s, m, args, below, meth, c, ce, sl, Q⟩ := g
  intro ls H locs hl hR hS
  exact lv_iload_n C.1 C.2.1 hd hi (lv_at hl j hj) (k ls H locs hl hR hS)
theorem gx_lload {w : gWd} {g : gCx} {cc : ByteArray} {Ts : List Cond} {own : String} {nL fr lo : Nat} (C : gC w g cc Ts own nL fr lo) {h : gHp} {pc : Nat} {lv : List (Nat × Value)} {st : List Value} {i : Nat} {x : Int64} (j : Nat) (hd : decode cc pc = .ok (.lload i, 2)) (hj : lv[j]? = some (i, .long x)) (k : gX w g nL h (pc + 2) lv (.long x :: st)) : gX w g nL h pc lv (st) := by
  obtain ⟨l, D, cA, sh, b0, adK, adV, fz⟩ := w
  obtain ⟨p, e, R, s, m, args, below, meth, c, ce, sl, Q⟩ := g
  intro ls H locs hl hR hS
  exact lv_lload C.1 C.2.1 hd (lv_at hl j hj) (k ls H locs hl hR hS)
theorem gx_lload_n {w : gWd} {g : gCx} {cc : ByteArray} {Ts : List Cond} {own : String} {nL fr lo : Nat} (C : gC w g cc Ts own nL fr lo) {h : gHp} {pc : Nat} {lv : List (Nat × Value)} {st : List Value} {f : Fin 4} {i : Nat} {x : Int64} (j : Nat) (hd : decode cc pc = .ok (.lload_n f, 1)) (hi : (f : Nat) = i) (hj : lv[j]? = some (i, .long x)) (k : gX w g nL h (pc + 1) lv (.long x :: st)) : gX w g nL h pc lv (st) := by
  obtain ⟨l, D, cA, sh, b0, adK, adV, fz⟩ := w
  obtain ⟨p, e, R, s, m, args, below, meth, c, ce, sl, Q⟩ := g
  intro ls H locs hl hR hS
  exact lv_lload_n C.1 C.2.1 hd hi (lv_at hl j hj) (k ls H locs hl hR hS)
theorem gx_aload {w : gWd} {g : gCx} {cc : ByteArray} {Ts : List Cond} {own : String} {nL fr lo : Nat} (C : gC w g cc Ts own nL fr lo) {h : gHp} {pc : Nat} {lv : List (Nat × Value)} {st : List Value} {i : Nat} {x : Nat} (j : Nat) (hd : decode cc pc = .ok (.aload i, 2)) (hj : lv[j]? = some (i, .ref x)) (k : gX w g nL h (pc + 2) lv (.ref x :: st)) : gX w g nL h pc lv (st) := by
  obtain ⟨l, D, cA, sh, b0, adK, adV, fz⟩ := w
  obtain ⟨p, e, R, s, m, args, below, meth, c, ce, sl, Q⟩ := g
  intro ls H locs hl hR hS
  exact lv_aload C.1 C.2.1 hd (lv_at hl j hj) (k ls H locs hl hR hS)
theorem gx_aload_n {w : gWd} {g : gCx} {cc : ByteArray} {Ts : List Cond} {own : String} {nL fr lo : Nat} (C : gC w g cc Ts own nL fr lo) {h : gHp} {pc : Nat} {lv : List (Nat × Value)} {st : List Value} {f : Fin 4} {i : Nat} {x : Nat} (j : Nat) (hd : decode cc pc = .ok (.aload_n f, 1)) (hi : (f : Nat) = i) (hj : lv[j]? = some (i, .ref x)) (k : gX w g nL h (pc + 1) lv (.ref x :: st)) : gX w g nL h pc lv (st) := by
  obtain ⟨l, D, cA, sh, b0, adK, adV, fz⟩ := w
  obtain ⟨p, e, R, s, m, args, below, meth, c, ce, sl, Q⟩ := g
  intro ls H locs hl hR hS
  exact lv_aload_n C.1 C.2.1 hd hi (lv_at hl j hj) (k ls H locs hl hR hS)
theorem gx_istore {w : gWd} {g : gCx} {cc : ByteArray} {Ts : List Cond} {own : String} {nL fr lo : Nat} (C : gC w g cc Ts own nL fr lo) {h : gHp} {pc : Nat} {lv : List (Nat × Value)} {st : List Value} {i : Nat} {x : Int32} {lv' : List (Nat × Value)} (hd : decode cc pc = .ok (.istore i, 2))  (hn : i < nL) (hv : (i, Value.int x) :: lv.filter (fun q => !(q.1 == i) && !(q.1 + 1 == i && q.2.category == 2)) = lv') (k : gX w g nL h (pc + 2) lv' st) : gX w g nL h pc lv (.int x :: st) := by
  obtain ⟨l, D, cA, sh, b0, adK, adV, fz⟩ := w
  obtain ⟨p, e, R, s, m, args, below, meth, c, ce, sl, Q⟩ := g
  intro ls H locs hl hR hS
  exact lv_istore C.1 C.2.1 hd  hl hn hv (fun ls hl => k ls H locs hl hR hS)
theorem gx_istore_n {w : gWd} {g : gCx} {cc : ByteArray} {Ts : List Cond} {own : String} {nL fr lo : Nat} (C : gC w g cc Ts own nL fr lo) {h : gHp} {pc : Nat} {lv : List (Nat × Value)} {st : List Value} {i : Nat} {f : Fin 4} {x : Int32} {lv' : List (Nat × Value)} (hd : decode cc pc = .ok (.istore_n f, 1)) (hi : (f : Nat) = i) (hn : i < nL) (hv : (i, Value.int x) :: lv.filter (fun q => !(q.1 == i) && !(q.1 + 1 == i && q.2.category == 2)) = lv') (k : gX w g nL h (pc + 1) lv' st) : gX w g nL h pc lv (.int x :: st) := by
  obtain ⟨l, D, cA, sh, b0, adK, adV, fz⟩ := w
  obtain ⟨p, e, R, s, m, args, below, meth, c, ce, sl, Q⟩ := g
  intro ls H locs hl hR hS
  exact lv_istore_n C.1 C.2.1 hd hi hl hn hv (fun ls hl => k ls H locs hl hR hS)
theorem gx_astore {w : gWd} {g : gCx} {cc : ByteArray} {Ts : List Cond} {own : String} {nL fr lo : Nat} (C : gC w g cc Ts own nL fr lo) {h : gHp} {pc : Nat} {lv : List (Nat × Value)} {st : List Value} {i : Nat} {x : Nat} {lv' : List (Nat × Value)} (hd : decode cc pc = .ok (.astore i, 2))  (hn : i < nL) (hv : (i, Value.ref x) :: lv.filter (fun q => !(q.1 == i) && !(q.1 + 1 == i && q.2.category == 2)) = lv') (k : gX w g nL h (pc + 2) lv' st) : gX w g nL h pc lv (.ref x :: st) := by
  obtain ⟨l, D, cA, sh, b0, adK, adV, fz⟩ := w
  obtain ⟨p, e, R, s, m, args, below, meth, c, ce, sl, Q⟩ := g
  intro ls H locs hl hR hS
  exact lv_astore C.1 C.2.1 hd  hl hn hv (fun ls hl => k ls H locs hl hR hS)
theorem gx_astore_n {w : gWd} {g : gCx} {cc : ByteArray} {Ts : List Cond} {own : String} {nL fr lo : Nat} (C : gC w g cc Ts own nL fr lo) {h : gHp} {pc : Nat} {lv : List (Nat × Value)} {st : List Value} {i : Nat} {f : Fin 4} {x : Nat} {lv' : List (Nat × Value)} (hd : decode cc pc = .ok (.astore_n f, 1)) (hi : (f : Nat) = i) (hn : i < nL) (hv : (i, Value.ref x) :: lv.filter (fun q => !(q.1 == i) && !(q.1 + 1 == i && q.2.category == 2)) = lv') (k : gX w g nL h (pc + 1) lv' st) : gX w g nL h pc lv (.ref x :: st) := by
  obtain ⟨l, D, cA, sh, b0, adK, adV, fz⟩ := w
  obtain ⟨p, e, R, s, m, args, below, meth, c, ce, sl, Q⟩ := g
  intro ls H locs hl hR hS
  exact lv_astore_n C.1 C.2.1 hd hi hl hn hv (fun ls hl => k ls H locs hl hR hS)
theorem gx_lstore {w : gWd} {g : gCx} {cc : ByteArray} {Ts : List Cond} {own : String} {nL fr lo : Nat} (C : gC w g cc Ts own nL fr lo) {h : gHp} {pc : Nat} {lv : List (Nat × Value)} {st : List Value} {i : Nat} {x : Int64} {lv' : List (Nat × Value)} (hd : decode cc pc = .ok (.lstore i, 2))  (hn : i + 1 < nL) (hv : (i, Value.long x) :: lv.filter (fun q => !(q.1 == i) && (!(q.1 == i + 1) && !(q.1 + 1 == i && q.2.category == 2))) = lv') (k : gX w g nL h (pc + 2) lv' st) : gX w g nL h pc lv (.long x :: st) := by
  obtain ⟨l, D, cA, sh, b0, adK, adV, fz⟩ := w
  obtain ⟨p, e, R, s, m, args, below, meth, c, ce, sl, Q⟩ := g
  intro ls H locs hl hR hS
  exact lv_lstore C.1 C.2.1 hd  hl hn hv (fun ls hl => k ls H locs hl hR hS)
theorem gx_lstore_n {w : gWd} {g : gCx} {cc : ByteArray} {Ts : List Cond} {own : String} {nL fr lo : Nat} (C : gC w g cc Ts own nL fr lo) {h : gHp} {pc : Nat} {lv : List (Nat × Value)} {st : List Value} {i : Nat} {f : Fin 4} {x : Int64} {lv' : List (Nat × Value)} (hd : decode cc pc = .ok (.lstore_n f, 1)) (hi : (f : Nat) = i) (hn : i + 1 < nL) (hv : (i, Value.long x) :: lv.filter (fun q => !(q.1 == i) && (!(q.1 == i + 1) && !(q.1 + 1 == i && q.2.category == 2))) = lv') (k : gX w g nL h (pc + 1) lv' st) : gX w g nL h pc lv (.long x :: st) := by
  obtain ⟨l, D, cA, sh, b0, adK, adV, fz⟩ := w
  obtain ⟨p, e, R, s, m, args, below, meth, c, ce, sl, Q⟩ := g
  intro ls H locs hl hR hS
  exact lv_lstore_n C.1 C.2.1 hd hi hl hn hv (fun ls hl => k ls H locs hl hR hS)
theorem gx_iinc {w : gWd} {g : gCx} {cc : ByteArray} {Ts : List Cond} {own : String} {nL fr lo : Nat} (C : gC w g cc Ts own nL fr lo) {h : gHp} {pc : Nat} {lv : List (Nat × Value)} {st : List Value} {i j : Nat} {n : Int} {x v : Int32} {lv' : List (Nat × Value)} (hd : decode cc pc = .ok (.iinc i n, 3)) (hj : lv[j]? = some (i, .int x)) (hv : x + Int32.ofInt n = v) (hn : i < nL) (hf : (i, Value.int v) :: lv.filter (fun q => !(q.1 == i) && !(q.1 + 1 == i && q.2.category == 2)) = lv') (k : gX w g nL h (pc + 3) lv' st) : gX w g nL h pc lv st := by
  obtain ⟨l, D, cA, sh, b0, adK, adV, fz⟩ := w
  obtain ⟨p, e, R, s, m, args, below, meth, c, ce, sl, Q⟩ := g
  intro ls H locs hl hR hS
  exact lv_iinc C.1 C.2.1 hd hl hj hv hn hf (fun ls hl => k ls H locs hl hR hS)
theorem gx_iadd {w : gWd} {g : gCx} {cc : ByteArray} {Ts : List Cond} {own : String} {nL fr lo : Nat} (C : gC w g cc Ts own nL fr lo) {h : gHp} {pc : Nat} {lv : List (Nat × Value)} {st : List Value} {x y : Int32} (hd : decode cc pc = .ok (.iadd, 1)) (k : gX w g nL h (pc + 1) lv (.int (x + y) :: st)) : gX w g nL h pc lv (.int y :: .int x :: st) := by
  obtain ⟨l, D, cA, sh, b0, adK, adV, fz⟩ := w
  obtain ⟨p, e, R, s, m, args, below, meth, c, ce, sl, Q⟩ := g
  intro ls H locs hl hR hS
  exact lv_iadd C.1 C.2.1 hd (k ls H locs hl hR hS)
theorem gx_isub {w : gWd} {g : gCx} {cc : ByteArray} {Ts : List Cond} {own : String} {nL fr lo : Nat} (C : gC w g cc Ts own nL fr lo) {h : gHp} {pc : Nat} {lv : List (Nat × Value)} {st : List Value} {x y : Int32} (hd : decode cc pc = .ok (.isub, 1)) (k : gX w g nL h (pc + 1) lv (.int (x - y) :: st)) : gX w g nL h pc lv (.int y :: .int x :: st) := by
  obtain ⟨l, D, cA, sh, b0, adK, adV, fz⟩ := w
  obtain ⟨p, e, R, s, m, args, below, meth, c, ce, sl, Q⟩ := g
  intro ls H locs hl hR hS
  exact lv_isub C.1 C.2.1 hd (k ls H locs hl hR hS)
theorem gx_imul {w : gWd} {g : gCx} {cc : ByteArray} {Ts : List Cond} {own : String} {nL fr lo : Nat} (C : gC w g cc Ts own nL fr lo) {h : gHp} {pc : Nat} {lv : List (Nat × Value)} {st : List Value} {x y : Int32} (hd : decode cc pc = .ok (.imul, 1)) (k : gX w g nL h (pc + 1) lv (.int (x * y) :: st)) : gX w g nL h pc lv (.int y :: .int x :: st) := by
  obtain ⟨l, D, cA, sh, b0, adK, adV, fz⟩ := w
  obtain ⟨p, e, R, s, m, args, below, meth, c, ce, sl, Q⟩ := g
  intro ls H locs hl hR hS
  exact lv_imul C.1 C.2.1 hd (k ls H locs hl hR hS)
theorem gx_iand {w : gWd} {g : gCx} {cc : ByteArray} {Ts : List Cond} {own : String} {nL fr lo : Nat} (C : gC w g cc Ts own nL fr lo) {h : gHp} {pc : Nat} {lv : List (Nat × Value)} {st : List Value} {x y : Int32} (hd : decode cc pc = .ok (.iand, 1)) (k : gX w g nL h (pc + 1) lv (.int (x &&& y) :: st)) : gX w g nL h pc lv (.int y :: .int x :: st) := by
  obtain ⟨l, D, cA, sh, b0, adK, adV, fz⟩ := w
  obtain ⟨p, e, R, s, m, args, below, meth, c, ce, sl, Q⟩ := g
  intro ls H locs hl hR hS
  exact lv_iand C.1 C.2.1 hd (k ls H locs hl hR hS)
theorem gx_ior {w : gWd} {g : gCx} {cc : ByteArray} {Ts : List Cond} {own : String} {nL fr lo : Nat} (C : gC w g cc Ts own nL fr lo) {h : gHp} {pc : Nat} {lv : List (Nat × Value)} {st : List Value} {x y : Int32} (hd : decode cc pc = .ok (.ior, 1)) (k : gX w g nL h (pc + 1) lv (.int (x ||| y) :: st)) : gX w g nL h pc lv (.int y :: .int x :: st) := by
  obtain ⟨l, D, cA, sh, b0, adK, adV, fz⟩ := w
  obtain ⟨p, e, R, s, m, args, below, meth, c, ce, sl, Q⟩ := g
  intro ls H locs hl hR hS
  exact lv_ior C.1 C.2.1 hd (k ls H locs hl hR hS)
theorem gx_ishl {w : gWd} {g : gCx} {cc : ByteArray} {Ts : List Cond} {own : String} {nL fr lo : Nat} (C : gC w g cc Ts own nL fr lo) {h : gHp} {pc : Nat} {lv : List (Nat × Value)} {st : List Value} {x y : Int32} (hd : decode cc pc = .ok (.ishl, 1)) (k : gX w g nL h (pc + 1) lv (.int (x <<< (y &&& 31)) :: st)) : gX w g nL h pc lv (.int y :: .int x :: st) := by
  obtain ⟨l, D, cA, sh, b0, adK, adV, fz⟩ := w
  obtain ⟨p, e, R, s, m, args, below, meth, c, ce, sl, Q⟩ := g
  intro ls H locs hl hR hS
  exact lv_ishl C.1 C.2.1 hd (k ls H locs hl hR hS)
theorem gx_ishr {w : gWd} {g : gCx} {cc : ByteArray} {Ts : List Cond} {own : String} {nL fr lo : Nat} (C : gC w g cc Ts own nL fr lo) {h : gHp} {pc : Nat} {lv : List (Nat × Value)} {st : List Value} {x y : Int32} (hd : decode cc pc = .ok (.ishr, 1)) (k : gX w g nL h (pc + 1) lv (.int (x >>> (y &&& 31)) :: st)) : gX w g nL h pc lv (.int y :: .int x :: st) := by
  obtain ⟨l, D, cA, sh, b0, adK, adV, fz⟩ := w
  obtain ⟨p, e, R, s, m, args, below, meth, c, ce, sl, Q⟩ := g
  intro ls H locs hl hR hS
  exact lv_ishr C.1 C.2.1 hd (k ls H locs hl hR hS)
theorem gx_iushr {w : gWd} {g : gCx} {cc : ByteArray} {Ts : List Cond} {own : String} {nL fr lo : Nat} (C : gC w g cc Ts own nL fr lo) {h : gHp} {pc : Nat} {lv : List (Nat × Value)} {st : List Value} {x y : Int32} (hd : decode cc pc = .ok (.iushr, 1)) (k : gX w g nL h (pc + 1) lv (.int ((x.toUInt32 >>> (y.toUInt32 &&& Int32.toUInt32 31)).toInt32) :: st)) : gX w g nL h pc lv (.int y :: .int x :: st) := by
  obtain ⟨l, D, cA, sh, b0, adK, adV, fz⟩ := w
  obtain ⟨p, e, R, s, m, args, below, meth, c, ce, sl, Q⟩ := g
  intro ls H locs hl hR hS
  exact lv_iushr C.1 C.2.1 hd rfl (k ls H locs hl hR hS)
theorem gx_ladd {w : gWd} {g : gCx} {cc : ByteArray} {Ts : List Cond} {own : String} {nL fr lo : Nat} (C : gC w g cc Ts own nL fr lo) {h : gHp} {pc : Nat} {lv : List (Nat × Value)} {st : List Value} {x y : Int64} (hd : decode cc pc = .ok (.ladd, 1)) (k : gX w g nL h (pc + 1) lv (.long (x + y) :: st)) : gX w g nL h pc lv (.long y :: .long x :: st) := by
  obtain ⟨l, D, cA, sh, b0, adK, adV, fz⟩ := w
  obtain ⟨p, e, R, s, m, args, below, meth, c, ce, sl, Q⟩ := g
  intro ls H locs hl hR hS
  exact lv_ladd C.1 C.2.1 hd (k ls H locs hl hR hS)
theorem gx_lsub {w : gWd} {g : gCx} {cc : ByteArray} {Ts : List Cond} {own : String} {nL fr lo : Nat} (C : gC w g cc Ts own nL fr lo) {h : gHp} {pc : Nat} {lv : List (Nat × Value)} {st : List Value} {x y : Int64} (hd : decode cc pc = .ok (.lsub, 1)) (k : gX w g nL h (pc + 1) lv (.long (x - y) :: st)) : gX w g nL h pc lv (.long y :: .long x :: st) := by
  obtain ⟨l, D, cA, sh, b0, adK, adV, fz⟩ := w
  obtain ⟨p, e, R, s, m, args, below, meth, c, ce, sl, Q⟩ := g
  intro ls H locs hl hR hS
  exact lv_lsub C.1 C.2.1 hd (k ls H locs hl hR hS)
theorem gx_lmul {w : gWd} {g : gCx} {cc : ByteArray} {Ts : List Cond} {own : String} {nL fr lo : Nat} (C : gC w g cc Ts own nL fr lo) {h : gHp} {pc : Nat} {lv : List (Nat × Value)} {st : List Value} {x y : Int64} (hd : decode cc pc = .ok (.lmul, 1)) (k : gX w g nL h (pc + 1) lv (.long (x * y) :: st)) : gX w g nL h pc lv (.long y :: .long x :: st) := by
  obtain ⟨l, D, cA, sh, b0, adK, adV, fz⟩ := w
  obtain ⟨p, e, R, s, m, args, below, meth, c, ce, sl, Q⟩ := g
  intro ls H locs hl hR hS
  exact lv_lmul C.1 C.2.1 hd (k ls H locs hl hR hS)
theorem gx_lxor {w : gWd} {g : gCx} {cc : ByteArray} {Ts : List Cond} {own : String} {nL fr lo : Nat} (C : gC w g cc Ts own nL fr lo) {h : gHp} {pc : Nat} {lv : List (Nat × Value)} {st : List Value} {x y : Int64} (hd : decode cc pc = .ok (.lxor, 1)) (k : gX w g nL h (pc + 1) lv (.long (x ^^^ y) :: st)) : gX w g nL h pc lv (.long y :: .long x :: st) := by
  obtain ⟨l, D, cA, sh, b0, adK, adV, fz⟩ := w
  obtain ⟨p, e, R, s, m, args, below, meth, c, ce, sl, Q⟩ := g
  intro ls H locs hl hR hS
  exact lv_lxor C.1 C.2.1 hd (k ls H locs hl hR hS)
theorem gx_idiv {w : gWd} {g : gCx} {cc : ByteArray} {Ts : List Cond} {own : String} {nL fr lo : Nat} (C : gC w g cc Ts own nL fr lo) {h : gHp} {pc : Nat} {lv : List (Nat × Value)} {st : List Value} {x y : Int32} (hd : decode cc pc = .ok (.idiv, 1)) (hne : ¬ y = 0) (k : gX w g nL h (pc + 1) lv (.int (x / y) :: st)) : gX w g nL h pc lv (.int y :: .int x :: st) := by
  obtain ⟨l, D, cA, sh, b0, adK, adV, fz⟩ := w
  obtain ⟨p, e, R, s, m, args, below, meth, c, ce, sl, Q⟩ := g
  intro ls H locs hl hR hS
  exact lv_idiv C.1 C.2.1 hd hne (k ls H locs hl hR hS)
theorem gx_irem {w : gWd} {g : gCx} {cc : ByteArray} {Ts : List Cond} {own : String} {nL fr lo : Nat} (C : gC w g cc Ts own nL fr lo) {h : gHp} {pc : Nat} {lv : List (Nat × Value)} {st : List Value} {x y : Int32} (hd : decode cc pc = .ok (.irem, 1)) (hne : ¬ y = 0) (k : gX w g nL h (pc + 1) lv (.int (x - x / y * y) :: st)) : gX w g nL h pc lv (.int y :: .int x :: st) := by
  obtain ⟨l, D, cA, sh, b0, adK, adV, fz⟩ := w
  obtain ⟨p, e, R, s, m, args, below, meth, c, ce, sl, Q⟩ := g
  intro ls H locs hl hR hS
  exact lv_irem C.1 C.2.1 hd hne (k ls H locs hl hR hS)
theorem gx_ldiv {w : gWd} {g : gCx} {cc : ByteArray} {Ts : List Cond} {own : String} {nL fr lo : Nat} (C : gC w g cc Ts own nL fr lo) {h : gHp} {pc : Nat} {lv : List (Nat × Value)} {st : List Value} {x y : Int64} (hd : decode cc pc = .ok (.ldiv, 1)) (hne : ¬ y = 0) (k : gX w g nL h (pc + 1) lv (.long (x / y) :: st)) : gX w g nL h pc lv (.long y :: .long x :: st) := by
  obtain ⟨l, D, cA, sh, b0, adK, adV, fz⟩ := w
  obtain ⟨p, e, R, s, m, args, below, meth, c, ce, sl, Q⟩ := g
  intro ls H locs hl hR hS
  exact lv_ldiv C.1 C.2.1 hd hne (k ls H locs hl hR hS)
theorem gx_lrem {w : gWd} {g : gCx} {cc : ByteArray} {Ts : List Cond} {own : String} {nL fr lo : Nat} (C : gC w g cc Ts own nL fr lo) {h : gHp} {pc : Nat} {lv : List (Nat × Value)} {st : List Value} {x y : Int64} (hd : decode cc pc = .ok (.lrem, 1)) (hne : ¬ y = 0) (k : gX w g nL h (pc + 1) lv (.long (x - x / y * y) :: st)) : gX w g nL h pc lv (.long y :: .long x :: st) := by
  obtain ⟨l, D, cA, sh, b0, adK, adV, fz⟩ := w
  obtain ⟨p, e, R, s, m, args, below, meth, c, ce, sl, Q⟩ := g
  intro ls H locs hl hR hS
  exact lv_lrem C.1 C.2.1 hd hne (k ls H locs hl hR hS)
theorem gx_lneg {w : gWd} {g : gCx} {cc : ByteArray} {Ts : List Cond} {own : String} {nL fr lo : Nat} (C : gC w g cc Ts own nL fr lo) {h : gHp} {pc : Nat} {lv : List (Nat × Value)} {st : List Value} {x : Int64} (hd : decode cc pc = .ok (.lneg, 1)) (k : gX w g nL h (pc + 1) lv (.long (-x) :: st)) : gX w g nL h pc lv (.long x :: st) := by
  obtain ⟨l, D, cA, sh, b0, adK, adV, fz⟩ := w
  obtain ⟨p, e, R, s, m, args, below, meth, c, ce, sl, Q⟩ := g
  intro ls H locs hl hR hS
  exact lv_lneg C.1 C.2.1 hd (k ls H locs hl hR hS)
theorem gx_i2l {w : gWd} {g : gCx} {cc : ByteArray} {Ts : List Cond} {own : String} {nL fr lo : Nat} (C : gC w g cc Ts own nL fr lo) {h : gHp} {pc : Nat} {lv : List (Nat × Value)} {st : List Value} {x : Int32} (hd : decode cc pc = .ok (.i2l, 1)) (k : gX w g nL h (pc + 1) lv (.long x.toInt64 :: st)) : gX w g nL h pc lv (.int x :: st) := by
  obtain ⟨l, D, cA, sh, b0, adK, adV, fz⟩ := w
  obtain ⟨p, e, R, s, m, args, below, meth, c, ce, sl, Q⟩ := g
  intro ls H locs hl hR hS
  exact lv_i2l C.1 C.2.1 hd rfl (k ls H locs hl hR hS)
theorem gx_l2i {w : gWd} {g : gCx} {cc : ByteArray} {Ts : List Cond} {own : String} {nL fr lo : Nat} (C : gC w g cc Ts own nL fr lo) {h : gHp} {pc : Nat} {lv : List (Nat × Value)} {st : List Value} {x : Int64} (hd : decode cc pc = .ok (.l2i, 1)) (k : gX w g nL h (pc + 1) lv (.int x.toInt32 :: st)) : gX w g nL h pc lv (.long x :: st) := by
  obtain ⟨l, D, cA, sh, b0, adK, adV, fz⟩ := w
  obtain ⟨p, e, R, s, m, args, below, meth, c, ce, sl, Q⟩ := g
  intro ls H locs hl hR hS
  exact lv_l2i C.1 C.2.1 hd rfl (k ls H locs hl hR hS)
theorem gx_i2c {w : gWd} {g : gCx} {cc : ByteArray} {Ts : List Cond} {own : String} {nL fr lo : Nat} (C : gC w g cc Ts own nL fr lo) {h : gHp} {pc : Nat} {lv : List (Nat × Value)} {st : List Value} {x : Int32} (hd : decode cc pc = .ok (.i2c, 1)) (k : gX w g nL h (pc + 1) lv (.int (x.toUInt32 % 65536).toInt32 :: st)) : gX w g nL h pc lv (.int x :: st) := by
  obtain ⟨l, D, cA, sh, b0, adK, adV, fz⟩ := w
  obtain ⟨p, e, R, s, m, args, below, meth, c, ce, sl, Q⟩ := g
  intro ls H locs hl hR hS
  exact lv_i2c C.1 C.2.1 hd rfl (k ls H locs hl hR hS)
theorem gx_dup {w : gWd} {g : gCx} {cc : ByteArray} {Ts : List Cond} {own : String} {nL fr lo : Nat} (C : gC w g cc Ts own nL fr lo) {h : gHp} {pc : Nat} {lv : List (Nat × Value)} {st : List Value} {v : Value} (hd : decode cc pc = .ok (.dup, 1)) (hv : v.category = 1) (k : gX w g nL h (pc + 1) lv (v :: v :: st)) : gX w g nL h pc lv (v :: st) := by
  obtain ⟨l, D, cA, sh, b0, adK, adV, fz⟩ := w
  obtain ⟨p, e, R, s, m, args, below, meth, c, ce, sl, Q⟩ := g
  intro ls H locs hl hR hS
  exact lv_dup C.1 C.2.1 hd hv (k ls H locs hl hR hS)
theorem gx_pop {w : gWd} {g : gCx} {cc : ByteArray} {Ts : List Cond} {own : String} {nL fr lo : Nat} (C : gC w g cc Ts own nL fr lo) {h : gHp} {pc : Nat} {lv : List (Nat × Value)} {st : List Value} {v : Value} (hd : decode cc pc = .ok (.pop, 1)) (hv : v.category = 1) (k : gX w g nL h (pc + 1) lv (st)) : gX w g nL h pc lv (v :: st) := by
  obtain ⟨l, D, cA, sh, b0, adK, adV, fz⟩ := w
  obtain ⟨p, e, R, s, m, args, below, meth, c, ce, sl, Q⟩ := g
  intro ls H locs hl hR hS
  exact lv_pop C.1 C.2.1 hd hv (k ls H locs hl hR hS)
theorem gx_dup2 {w : gWd} {g : gCx} {cc : ByteArray} {Ts : List Cond} {own : String} {nL fr lo : Nat} (C : gC w g cc Ts own nL fr lo) {h : gHp} {pc : Nat} {lv : List (Nat × Value)} {st : List Value} {v u : Value} (hd : decode cc pc = .ok (.dup2, 1)) (hv : v.category = 1) (hu : u.category = 1) (k : gX w g nL h (pc + 1) lv (v :: u :: v :: u :: st)) : gX w g nL h pc lv (v :: u :: st) := by
  obtain ⟨l, D, cA, sh, b0, adK, adV, fz⟩ := w
  obtain ⟨p, e, R, s, m, args, below, meth, c, ce, sl, Q⟩ := g
  intro ls H locs hl hR hS
  exact lv_dup2_11 C.1 C.2.1 hd hv hu (k ls H locs hl hR hS)
theorem gx_icmp_eq {w : gWd} {g : gCx} {cc : ByteArray} {Ts : List Cond} {own : String} {nL fr lo : Nat} (C : gC w g cc Ts own nL fr lo) {h : gHp} {pc : Nat} {lv : List (Nat × Value)} {st : List Value} {x y : Int32} {off : Int} (tgt : Nat) (hd : decode cc pc = .ok (.if_icmp .eq off, 3)) (ht : (pc : Int) + off = (tgt : Int)) (kt : x = y → gX w g nL h tgt lv st) (kf : ¬ x = y → gX w g nL h (pc + 3) lv st) : gX w g nL h pc lv (.int y :: .int x :: st) := by
  obtain ⟨l, D, cA, sh, b0, adK, adV, fz⟩ := w
  obtain ⟨p, e, R, s, m, args, below, meth, c, ce, sl, Q⟩ := g
  intro ls H locs hl hR hS
  exact lv_icmp_eq C.1 C.2.1 hd ht (fun c => kt c ls H locs hl hR hS) (fun c => kf c ls H locs hl hR hS)
theorem gx_if_eq {w : gWd} {g : gCx} {cc : ByteArray} {Ts : List Cond} {own : String} {nL fr lo : Nat} (C : gC w g cc Ts own nL fr lo) {h : gHp} {pc : Nat} {lv : List (Nat × Value)} {st : List Value} {x : Int32} {off : Int} (tgt : Nat) (hd : decode cc pc = .ok (.ifCond .eq off, 3)) (ht : (pc : Int) + off = (tgt : Int)) (kt : x = 0 → gX w g nL h tgt lv st) (kf : ¬ x = 0 → gX w g nL h (pc + 3) lv st) : gX w g nL h pc lv (.int x :: st) := by
  obtain ⟨l, D, cA, sh, b0, adK, adV, fz⟩ := w
  obtain ⟨p, e, R, s, m, args, below, meth, c, ce, sl, Q⟩ := g
  intro ls H locs hl hR hS
  exact lv_if_eq C.1 C.2.1 hd ht (fun c => kt c ls H locs hl hR hS) (fun c => kf c ls H locs hl hR hS)
theorem gx_icmp_ne {w : gWd} {g : gCx} {cc : ByteArray} {Ts : List Cond} {own : String} {nL fr lo : Nat} (C : gC w g cc Ts own nL fr lo) {h : gHp} {pc : Nat} {lv : List (Nat × Value)} {st : List Value} {x y : Int32} {off : Int} (tgt : Nat) (hd : decode cc pc = .ok (.if_icmp .ne off, 3)) (ht : (pc : Int) + off = (tgt : Int)) (kt : ¬ x = y → gX w g nL h tgt lv st) (kf : x = y → gX w g nL h (pc + 3) lv st) : gX w g nL h pc lv (.int y :: .int x :: st) := by
  obtain ⟨l, D, cA, sh, b0, adK, adV, fz⟩ := w
  obtain ⟨p, e, R, s, m, args, below, meth, c, ce, sl, Q⟩ := g
  intro ls H locs hl hR hS
  exact lv_icmp_ne C.1 C.2.1 hd ht (fun c => kt c ls H locs hl hR hS) (fun c => kf c ls H locs hl hR hS)
theorem gx_if_ne {w : gWd} {g : gCx} {cc : ByteArray} {Ts : List Cond} {own : String} {nL fr lo : Nat} (C : gC w g cc Ts own nL fr lo) {h : gHp} {pc : Nat} {lv : List (Nat × Value)} {st : List Value} {x : Int32} {off : Int} (tgt : Nat) (hd : decode cc pc = .ok (.ifCond .ne off, 3)) (ht : (pc : Int) + off = (tgt : Int)) (kt : ¬ x = 0 → gX w g nL h tgt lv st) (kf : x = 0 → gX w g nL h (pc + 3) lv st) : gX w g nL h pc lv (.int x :: st) := by
  obtain ⟨l, D, cA, sh, b0, adK, adV, fz⟩ := w
  obtain ⟨p, e, R, s, m, args, below, meth, c, ce, sl, Q⟩ := g
  intro ls H locs hl hR hS
  exact lv_if_ne C.1 C.2.1 hd ht (fun c => kt c ls H locs hl hR hS) (fun c => kf c ls H locs hl hR hS)
theorem gx_icmp_lt {w : gWd} {g : gCx} {cc : ByteArray} {Ts : List Cond} {own : String} {nL fr lo : Nat} (C : gC w g cc Ts own nL fr lo) {h : gHp} {pc : Nat} {lv : List (Nat × Value)} {st : List Value} {x y : Int32} {off : Int} (tgt : Nat) (hd : decode cc pc = .ok (.if_icmp .lt off, 3)) (ht : (pc : Int) + off = (tgt : Int)) (kt : x < y → gX w g nL h tgt lv st) (kf : ¬ x < y → gX w g nL h (pc + 3) lv st) : gX w g nL h pc lv (.int y :: .int x :: st) := by
  obtain ⟨l, D, cA, sh, b0, adK, adV, fz⟩ := w
  obtain ⟨p, e, R, s, m, args, below, meth, c, ce, sl, Q⟩ := g
  intro ls H locs hl hR hS
  exact lv_icmp_lt C.1 C.2.1 hd ht (fun c => kt c ls H locs hl hR hS) (fun c => kf c ls H locs hl hR hS)
theorem gx_if_lt {w : gWd} {g : gCx} {cc : ByteArray} {Ts : List Cond} {own : String} {nL fr lo : Nat} (C : gC w g cc Ts own nL fr lo) {h : gHp} {pc : Nat} {lv : List (Nat × Value)} {st : List Value} {x : Int32} {off : Int} (tgt : Nat) (hd : decode cc pc = .ok (.ifCond .lt off, 3)) (ht : (pc : Int) + off = (tgt : Int)) (kt : x < 0 → gX w g nL h tgt lv st) (kf : ¬ x < 0 → gX w g nL h (pc + 3) lv st) : gX w g nL h pc lv (.int x :: st) := by
  obtain ⟨l, D, cA, sh, b0, adK, adV, fz⟩ := w
  obtain ⟨p, e, R, s, m, args, below, meth, c, ce, sl, Q⟩ := g
  intro ls H locs hl hR hS
  exact lv_if_lt C.1 C.2.1 hd ht (fun c => kt c ls H locs hl hR hS) (fun c => kf c ls H locs hl hR hS)
theorem gx_icmp_ge {w : gWd} {g : gCx} {cc : ByteArray} {Ts : List Cond} {own : String} {nL fr lo : Nat} (C : gC w g cc Ts own nL fr lo) {h : gHp} {pc : Nat} {lv : List (Nat × Value)} {st : List Value} {x y : Int32} {off : Int} (tgt : Nat) (hd : decode cc pc = .ok (.if_icmp .ge off, 3)) (ht : (pc : Int) + off = (tgt : Int)) (kt : y ≤ x → gX w g nL h tgt lv st) (kf : ¬ y ≤ x → gX w g nL h (pc + 3) lv st) : gX w g nL h pc lv (.int y :: .int x :: st) := by
  obtain ⟨l, D, cA, sh, b0, adK, adV, fz⟩ := w
  obtain ⟨p, e, R, s, m, args, below, meth, c, ce, sl, Q⟩ := g
  intro ls H locs hl hR hS
  exact lv_icmp_ge C.1 C.2.1 hd ht (fun c => kt c ls H locs hl hR hS) (fun c => kf c ls H locs hl hR hS)
theorem gx_if_ge {w : gWd} {g : gCx} {cc : ByteArray} {Ts : List Cond} {own : String} {nL fr lo : Nat} (C : gC w g cc Ts own nL fr lo) {h : gHp} {pc : Nat} {lv : List (Nat × Value)} {st : List Value} {x : Int32} {off : Int} (tgt : Nat) (hd : decode cc pc = .ok (.ifCond .ge off, 3)) (ht : (pc : Int) + off = (tgt : Int)) (kt : 0 ≤ x → gX w g nL h tgt lv st) (kf : ¬ 0 ≤ x → gX w g nL h (pc + 3) lv st) : gX w g nL h pc lv (.int x :: st) := by
  obtain ⟨l, D, cA, sh, b0, adK, adV, fz⟩ := w
  obtain ⟨p, e, R, s, m, args, below, meth, c, ce, sl, Q⟩ := g
  intro ls H locs hl hR hS
  exact lv_if_ge C.1 C.2.1 hd ht (fun c => kt c ls H locs hl hR hS) (fun c => kf c ls H locs hl hR hS)
theorem gx_icmp_gt {w : gWd} {g : gCx} {cc : ByteArray} {Ts : List Cond} {own : String} {nL fr lo : Nat} (C : gC w g cc Ts own nL fr lo) {h : gHp} {pc : Nat} {lv : List (Nat × Value)} {st : List Value} {x y : Int32} {off : Int} (tgt : Nat) (hd : decode cc pc = .ok (.if_icmp .gt off, 3)) (ht : (pc : Int) + off = (tgt : Int)) (kt : y < x → gX w g nL h tgt lv st) (kf : ¬ y < x → gX w g nL h (pc + 3) lv st) : gX w g nL h pc lv (.int y :: .int x :: st) := by
  obtain ⟨l, D, cA, sh, b0, adK, adV, fz⟩ := w
  obtain ⟨p, e, R, s, m, args, below, meth, c, ce, sl, Q⟩ := g
  intro ls H locs hl hR hS
  exact lv_icmp_gt C.1 C.2.1 hd ht (fun c => kt c ls H locs hl hR hS) (fun c => kf c ls H locs hl hR hS)
theorem gx_if_gt {w : gWd} {g : gCx} {cc : ByteArray} {Ts : List Cond} {own : String} {nL fr lo : Nat} (C : gC w g cc Ts own nL fr lo) {h : gHp} {pc : Nat} {lv : List (Nat × Value)} {st : List Value} {x : Int32} {off : Int} (tgt : Nat) (hd : decode cc pc = .ok (.ifCond .gt off, 3)) (ht : (pc : Int) + off = (tgt : Int)) (kt : 0 < x → gX w g nL h tgt lv st) (kf : ¬ 0 < x → gX w g nL h (pc + 3) lv st) : gX w g nL h pc lv (.int x :: st) := by
  obtain ⟨l, D, cA, sh, b0, adK, adV, fz⟩ := w
  obtain ⟨p, e, R, s, m, args, below, meth, c, ce, sl, Q⟩ := g
  intro ls H locs hl hR hS
  exact lv_if_gt C.1 C.2.1 hd ht (fun c => kt c ls H locs hl hR hS) (fun c => kf c ls H locs hl hR hS)
theorem gx_icmp_le {w : gWd} {g : gCx} {cc : ByteArray} {Ts : List Cond} {own : String} {nL fr lo : Nat} (C : gC w g cc Ts own nL fr lo) {h : gHp} {pc : Nat} {lv : List (Nat × Value)} {st : List Value} {x y : Int32} {off : Int} (tgt : Nat) (hd : decode cc pc = .ok (.if_icmp .le off, 3)) (ht : (pc : Int) + off = (tgt : Int)) (kt : x ≤ y → gX w g nL h tgt lv st) (kf : ¬ x ≤ y → gX w g nL h (pc + 3) lv st) : gX w g nL h pc lv (.int y :: .int x :: st) := by
  obtain ⟨l, D, cA, sh, b0, adK, adV, fz⟩ := w
  obtain ⟨p, e, R, s, m, args, below, meth, c, ce, sl, Q⟩ := g
  intro ls H locs hl hR hS
  exact lv_icmp_le C.1 C.2.1 hd ht (fun c => kt c ls H locs hl hR hS) (fun c => kf c ls H locs hl hR hS)
theorem gx_if_le {w : gWd} {g : gCx} {cc : ByteArray} {Ts : List Cond} {own : String} {nL fr lo : Nat} (C : gC w g cc Ts own nL fr lo) {h : gHp} {pc : Nat} {lv : List (Nat × Value)} {st : List Value} {x : Int32} {off : Int} (tgt : Nat) (hd : decode cc pc = .ok (.ifCond .le off, 3)) (ht : (pc : Int) + off = (tgt : Int)) (kt : x ≤ 0 → gX w g nL h tgt lv st) (kf : ¬ x ≤ 0 → gX w g nL h (pc + 3) lv st) : gX w g nL h pc lv (.int x :: st) := by
  obtain ⟨l, D, cA, sh, b0, adK, adV, fz⟩ := w
  obtain ⟨p, e, R, s, m, args, below, meth, c, ce, sl, Q⟩ := g
  intro ls H locs hl hR hS
  exact lv_if_le C.1 C.2.1 hd ht (fun c => kt c ls H locs hl hR hS) (fun c => kf c ls H locs hl hR hS)
theorem gx_goto {w : gWd} {g : gCx} {cc : ByteArray} {Ts : List Cond} {own : String} {nL fr lo : Nat} (C : gC w g cc Ts own nL fr lo) {h : gHp} {pc : Nat} {lv : List (Nat × Value)} {st : List Value} {off : Int} (tgt : Nat) (hd : decode cc pc = .ok (.goto off, 3)) (ht : (pc : Int) + off = (tgt : Int)) (k : gX w g nL h tgt lv st) : gX w g nL h pc lv st := by
  obtain ⟨l, D, cA, sh, b0, adK, adV, fz⟩ := w
  obtain ⟨p, e, R, s, m, args, below, meth, c, ce, sl, Q⟩ := g
  intro ls H locs hl hR hS
  exact lv_goto C.1 C.2.1 hd ht (k ls H locs hl hR hS)
theorem gZ_0 (b : Bool) : gZ b = 0 ↔ ¬ b = true := by cases b <;> decide

theorem gx_ifz_eq {w : gWd} {g : gCx} {cc : ByteArray} {Ts : List Cond} {own : String} {nL fr lo : Nat} (C : gC w g cc Ts own nL fr lo) {h : gHp} {pc : Nat} {lv : List (Nat × Value)} {st : List Value} {b : Bool} {off : Int} (tgt : Nat) (hd : decode cc pc = .ok (.ifCond .eq off, 3)) (ht : (pc : Int) + off = (tgt : Int)) (kt : ¬ b = true → gX w g nL h tgt lv st) (kf : b = true → gX w g nL h (pc + 3) lv st) : gX w g nL h pc lv (.int (gZ b) :: st) := gx_if_eq C tgt hd ht (fun c => kt ((gZ_0 b).mp c)) (fun c => kf (Classical.not_not.mp (fun q => c ((gZ_0 b).mpr q))))
theorem gx_ifz_ne {w : gWd} {g : gCx} {cc : ByteArray} {Ts : List Cond} {own : String} {nL fr lo : Nat} (C : gC w g cc Ts own nL fr lo) {h : gHp} {pc : Nat} {lv : List (Nat × Value)} {st : List Value} {b : Bool} {off : Int} (tgt : Nat) (hd : decode cc pc = .ok (.ifCond .ne off, 3)) (ht : (pc : Int) + off = (tgt : Int)) (kt : b = true → gX w g nL h tgt lv st) (kf : ¬ b = true → gX w g nL h (pc + 3) lv st) : gX w g nL h pc lv (.int (gZ b) :: st) := gx_if_ne C tgt hd ht (fun c => kt (Classical.not_not.mp (fun q => c ((gZ_0 b).mpr q)))) (fun c => kf ((gZ_0 b).mp c))
theorem gI_irr (x : Int64) : ¬ x < x := by
  rw [Int64.lt_iff_toInt_lt]; omega
theorem gI_asy {x y : Int64} (h : x < y) : ¬ y < x := by
  rw [Int64.lt_iff_toInt_lt] at h ⊢; omega
theorem gI_ne {x y : Int64} (h : x < y) : ¬ x = y := fun e => by subst e; exact gI_irr x h
theorem gI_tri {x y : Int64} (h1 : ¬ x < y) (h2 : ¬ x = y) : y < x := by
  rw [Int64.lt_iff_toInt_lt] at h1 ⊢
  have h3 : ¬ x.toInt = y.toInt := fun e => h2 (Int64.toInt_inj.mp e)
  omega
theorem gLc_eq (x y : Int64) : (lg_cmp x y = 0) ↔ x = y := by
  unfold lg_cmp
  by_cases h2 : x = y
  · subst h2; simp [gI_irr]
  · by_cases h1 : y < x
    · simp [h1, h2]
    · simp [h1, h2]
theorem gLc_lt (x y : Int64) : (lg_cmp x y < 0) ↔ x < y := by
  unfold lg_cmp
  by_cases h1 : y < x
  · simp [h1, gI_asy h1]
  · by_cases h2 : x = y
    · subst h2; simp [gI_irr]
    · simp [h1, h2, gI_tri h1 (fun e => h2 e.symm)]
theorem gLc_gt (x y : Int64) : (0 < lg_cmp x y) ↔ y < x := by
  unfold lg_cmp
  by_cases h1 : y < x
  · simp [h1]
  · by_cases h2 : x = y
    · subst h2; simp [gI_irr]
    · simp [h1, h2]

theorem gLc_ge (x y : Int64) : (0 ≤ lg_cmp x y) ↔ y ≤ x := by
  rw [← Int64.not_lt, ← Int32.not_lt]
  exact not_congr (gLc_lt x y)
theorem gLc_le (x y : Int64) : (lg_cmp x y ≤ 0) ↔ x ≤ y := by
  rw [← Int64.not_lt, ← Int32.not_lt]
  exact not_congr (gLc_gt x y)

theorem gx_lcmp_eq {w : gWd} {g : gCx} {cc : ByteArray} {Ts : List Cond} {own : String} {nL fr lo : Nat} (C : gC w g cc Ts own nL fr lo) {h : gHp} {pc : Nat} {lv : List (Nat × Value)} {st : List Value} {x y : Int64} {off : Int} (tgt : Nat) (hd1 : decode cc pc = .ok (.lcmp, 1)) (hd : decode cc (pc + 1) = .ok (.ifCond .eq off, 3)) (ht : ((pc + 1 : Nat) : Int) + off = (tgt : Int)) (kt : x = y → gX w g nL h tgt lv st) (kf : ¬ x = y → gX w g nL h (pc + 1 + 3) lv st) : gX w g nL h pc lv (.long y :: .long x :: st) := by
  obtain ⟨l, D, cA, sh, b0, adK, adV, fz⟩ := w
  obtain ⟨p, e, R, s, m, args, below, meth, c, ce, sl, Q⟩ := g
  intro ls H locs hl hR hS
  exact W.lcmp C.1 C.2.1 hd1 (lv_if_eq C.1 C.2.1 hd ht (fun c => (kt ((gLc_eq x y).mp c)) ls H locs hl hR hS) (fun c => (kf (fun q => c ((gLc_eq x y).mpr q))) ls H locs hl hR hS))
theorem gx_lcmp_ne {w : gWd} {g : gCx} {cc : ByteArray} {Ts : List Cond} {own : String} {nL fr lo : Nat} (C : gC w g cc Ts own nL fr lo) {h : gHp} {pc : Nat} {lv : List (Nat × Value)} {st : List Value} {x y : Int64} {off : Int} (tgt : Nat) (hd1 : decode cc pc = .ok (.lcmp, 1)) (hd : decode cc (pc + 1) = .ok (.ifCond .ne off, 3)) (ht : ((pc + 1 : Nat) : Int) + off = (tgt : Int)) (kt : ¬ x = y → gX w g nL h tgt lv st) (kf : x = y → gX w g nL h (pc + 1 + 3) lv st) : gX w g nL h pc lv (.long y :: .long x :: st) := by
  obtain ⟨l, D, cA, sh, b0, adK, adV, fz⟩ := w
  obtain ⟨p, e, R, s, m, args, below, meth, c, ce, sl, Q⟩ := g
  intro ls H locs hl hR hS
  exact W.lcmp C.1 C.2.1 hd1 (lv_if_ne C.1 C.2.1 hd ht (fun c => (kt (fun q => c ((gLc_eq x y).mpr q))) ls H locs hl hR hS) (fun c => (kf ((gLc_eq x y).mp c)) ls H locs hl hR hS))
theorem gx_lcmp_lt {w : gWd} {g : gCx} {cc : ByteArray} {Ts : List Cond} {own : String} {nL fr lo : Nat} (C : gC w g cc Ts own nL fr lo) {h : gHp} {pc : Nat} {lv : List (Nat × Value)} {st : List Value} {x y : Int64} {off : Int} (tgt : Nat) (hd1 : decode cc pc = .ok (.lcmp, 1)) (hd : decode cc (pc + 1) = .ok (.ifCond .lt off, 3)) (ht : ((pc + 1 : Nat) : Int) + off = (tgt : Int)) (kt : x < y → gX w g nL h tgt lv st) (kf : ¬ x < y → gX w g nL h (pc + 1 + 3) lv st) : gX w g nL h pc lv (.long y :: .long x :: st) := by
  obtain ⟨l, D, cA, sh, b0, adK, adV, fz⟩ := w
  obtain ⟨p, e, R, s, m, args, below, meth, c, ce, sl, Q⟩ := g
  intro ls H locs hl hR hS
  exact W.lcmp C.1 C.2.1 hd1 (lv_if_lt C.1 C.2.1 hd ht (fun c => (kt ((gLc_lt x y).mp c)) ls H locs hl hR hS) (fun c => (kf (fun q => c ((gLc_lt x y).mpr q))) ls H locs hl hR hS))
theorem gx_lcmp_ge {w : gWd} {g : gCx} {cc : ByteArray} {Ts : List Cond} {own : String} {nL fr lo : Nat} (C : gC w g cc Ts own nL fr lo) {h : gHp} {pc : Nat} {lv : List (Nat × Value)} {st : List Value} {x y : Int64} {off : Int} (tgt : Nat) (hd1 : decode cc pc = .ok (.lcmp, 1)) (hd : decode cc (pc + 1) = .ok (.ifCond .ge off, 3)) (ht : ((pc + 1 : Nat) : Int) + off = (tgt : Int)) (kt : y ≤ x → gX w g nL h tgt lv st) (kf : ¬ y ≤ x → gX w g nL h (pc + 1 + 3) lv st) : gX w g nL h pc lv (.long y :: .long x :: st) := by
  obtain ⟨l, D, cA, sh, b0, adK, adV, fz⟩ := w
  obtain ⟨p, e, R, s, m, args, below, meth, c, ce, sl, Q⟩ := g
  intro ls H locs hl hR hS
  exact W.lcmp C.1 C.2.1 hd1 (lv_if_ge C.1 C.2.1 hd ht (fun c => (kt ((gLc_ge x y).mp c)) ls H locs hl hR hS) (fun c => (kf (fun q => c ((gLc_ge x y).mpr q))) ls H locs hl hR hS))
theorem gx_lcmp_gt {w : gWd} {g : gCx} {cc : ByteArray} {Ts : List Cond} {own : String} {nL fr lo : Nat} (C : gC w g cc Ts own nL fr lo) {h : gHp} {pc : Nat} {lv : List (Nat × Value)} {st : List Value} {x y : Int64} {off : Int} (tgt : Nat) (hd1 : decode cc pc = .ok (.lcmp, 1)) (hd : decode cc (pc + 1) = .ok (.ifCond .gt off, 3)) (ht : ((pc + 1 : Nat) : Int) + off = (tgt : Int)) (kt : y < x → gX w g nL h tgt lv st) (kf : ¬ y < x → gX w g nL h (pc + 1 + 3) lv st) : gX w g nL h pc lv (.long y :: .long x :: st) := by
  obtain ⟨l, D, cA, sh, b0, adK, adV, fz⟩ := w
  obtain ⟨p, e, R, s, m, args, below, meth, c, ce, sl, Q⟩ := g
  intro ls H locs hl hR hS
  exact W.lcmp C.1 C.2.1 hd1 (lv_if_gt C.1 C.2.1 hd ht (fun c => (kt ((gLc_gt x y).mp c)) ls H locs hl hR hS) (fun c => (kf (fun q => c ((gLc_gt x y).mpr q))) ls H locs hl hR hS))
theorem gx_lcmp_le {w : gWd} {g : gCx} {cc : ByteArray} {Ts : List Cond} {own : String} {nL fr lo : Nat} (C : gC w g cc Ts own nL fr lo) {h : gHp} {pc : Nat} {lv : List (Nat × Value)} {st : List Value} {x y : Int64} {off : Int} (tgt : Nat) (hd1 : decode cc pc = .ok (.lcmp, 1)) (hd : decode cc (pc + 1) = .ok (.ifCond .le off, 3)) (ht : ((pc + 1 : Nat) : Int) + off = (tgt : Int)) (kt : x ≤ y → gX w g nL h tgt lv st) (kf : ¬ x ≤ y → gX w g nL h (pc + 1 + 3) lv st) : gX w g nL h pc lv (.long y :: .long x :: st) := by
  obtain ⟨l, D, cA, sh, b0, adK, adV, fz⟩ := w
  obtain ⟨p, e, R, s, m, args, below, meth, c, ce, sl, Q⟩ := g
  intro ls H locs hl hR hS
  exact W.lcmp C.1 C.2.1 hd1 (lv_if_le C.1 C.2.1 hd ht (fun c => (kt ((gLc_le x y).mp c)) ls H locs hl hR hS) (fun c => (kf (fun q => c ((gLc_le x y).mpr q))) ls H locs hl hR hS))
theorem gx_sub {w : gWd} {g : gCx} {nL : Nat} {h : gHp} {pc : Nat} {lv lv' : List (Nat × Value)} {st : List Value} (ks : List Nat) (hk : lv_pick lv ks = lv') (k : gX w g nL h pc lv' st) : gX w g nL h pc lv st := by
  obtain ⟨l, D, cA, sh, b0, adK, adV, fz⟩ := w
  obtain ⟨p, e, R, s, m, args, below, meth, c, ce, sl, Q⟩ := g
  intro ls H locs hl hR hS
  exact k ls H locs (lv_sub hl ks hk) hR hS
theorem gx_tableIn {w : gWd} {g : gCx} {cc : ByteArray} {Ts : List Cond} {own : String} {nL fr lo : Nat} (C : gC w g cc Ts own nL fr lo) {h : gHp} {pc : Nat} {lv : List (Nat × Value)} {st : List Value} {dflt lo' hi : Int} {offs : Array Int} {len : Nat} {x : Int32} {off : Int} (tgt : Nat) (hd : decode cc pc = .ok (.tableswitch dflt lo' hi offs, len)) (h1 : ¬ x.toInt < lo') (h2 : ¬ hi < x.toInt) (ho : offs[(x.toInt - lo').toNat]? = some off) (ht : (pc : Int) + off = (tgt : Int)) (k : gX w g nL h tgt lv st) : gX w g nL h pc lv (.int x :: st) := by
  obtain ⟨l, D, cA, sh, b0, adK, adV, fz⟩ := w
  obtain ⟨p, e, R, s, m, args, below, meth, c, ce, sl, Q⟩ := g
  intro ls H locs hl hR hS
  exact lv_tableIn C.1 C.2.1 hd h1 h2 ho ht (k ls H locs hl hR hS)
theorem gx_tableOut {w : gWd} {g : gCx} {cc : ByteArray} {Ts : List Cond} {own : String} {nL fr lo : Nat} (C : gC w g cc Ts own nL fr lo) {h : gHp} {pc : Nat} {lv : List (Nat × Value)} {st : List Value} {dflt lo' hi : Int} {offs : Array Int} {len : Nat} {x : Int32} (tgt : Nat) (hd : decode cc pc = .ok (.tableswitch dflt lo' hi offs, len)) (ho : x.toInt < lo' ∨ hi < x.toInt) (ht : (pc : Int) + dflt = (tgt : Int)) (k : gX w g nL h tgt lv st) : gX w g nL h pc lv (.int x :: st) := by
  obtain ⟨l, D, cA, sh, b0, adK, adV, fz⟩ := w
  obtain ⟨p, e, R, s, m, args, below, meth, c, ce, sl, Q⟩ := g
  intro ls H locs hl hR hS
  exact lv_tableOut C.1 C.2.1 hd ho ht (k ls H locs hl hR hS)
/-- a field's link, and which place of which class it is -/
def gF (Ts : List Cond) (own : String) (index ci k : Nat) : Prop := ∃ (Cn : String) (T : u_T) (N : Nat), vwCl[ci]? = some (Cn, T, N) ∧ k < N ∧ (∀ x ∈ u_ws Cn T N, x ∈ Ts) ∧ Cond.fieldLink own index (T k).1 (T k).2.1 (T k).2.2.1 ∈ Ts
def gFw (Ts : List Cond) (own : String) (index ci k : Nat) (ty : FieldType) : Prop := ∃ (Cn : String) (T : u_T) (N : Nat) (ty0 : Nat → FieldType), vwCl[ci]? = some (Cn, T, N) ∧ k < N ∧ (∀ x ∈ u_ws Cn T N, x ∈ Ts) ∧ Cond.fieldLink own index (T k).1 (T k).2.1 (T k).2.2.1 ∈ Ts ∧ (∀ k, k < N → parseFieldDescriptor (T k).2.2.1 = some (ty0 k)) ∧ (∀ a, a < N → ∀ b, b < N → a ≠ b → (T a).2.1 ≠ (T b).2.1) ∧ (T k).2.2.2 = false ∧ parseFieldDescriptor (T k).2.2.1 = some ty
theorem gP1 {D : va_G} {cA : Nat → ClassId} {sh : Nat → Option gSh} {h : gHp} {H : Heap} (hR : gR D cA sh h H) {a : Nat} {x : gSh} (ha : sh a = some x) : va_P D vwCl [(a, gE cA (h.1 a) (h.2 a) x)] H := by
  intro k q hq
  match k, hq with
  | 0, hq => cases hq; exact hR a x ha
  | k + 1, hq => simp at hq
theorem gD1 {A : Nat → Prop} {a : Nat} {e : va_E} (hA : A a) : va_D A [(a, e)] := by
  refine ⟨fun i j p q hi hj _ => ?_, fun k q hq => ?_⟩
  · match i, j, hi, hj with
    | 0, 0, _, _ => rfl
    | i + 1, _, hi, _ => simp at hi
    | 0, j + 1, _, hj => simp at hj
  · match k, hq with
    | 0, hq => cases hq; exact hA
    | k + 1, hq => simp at hq
theorem gx_get {w : gWd} {g : gCx} {cc : ByteArray} {Ts : List Cond} {own : String} {nL fr lo : Nat} (C : gC w g cc Ts own nL fr lo) {h : gHp} {pc : Nat} {lv : List (Nat × Value)} {st : List Value} {a index ci i : Nat} {ks : List gSl} {x : gSl} (F : gF Ts own index ci i) (ha : gsh w a = some (.inl (ci, ks))) (hk : ks[i]? = some x) (hd : decode cc pc = .ok (.getfield index, 3)) (k : gX w g nL h (pc + 3) lv (gV (h.1 a) (h.2 a) i x :: st)) : gX w g nL h pc lv (.ref a :: st) := by
  obtain ⟨l, D, cA, sh, b0, adK, adV, fz⟩ := w
  obtain ⟨p, e, R, s, m, args, below, meth, c, ce, sl, Q⟩ := g
  intro ls H locs hl hR hS
  obtain ⟨Cn, T, N, hc, hi, hin, hlk⟩ := F
  exact va_get C.1 C.2.1 C.2.2.2.2.1 hin C.2.2.2.1 C.2.2.2.2.2.1 (gP1 hR ha) 0 rfl hc i hi (C.2.2.2.2.1 _ hlk) (fun _ q => q) (by rw [gVs_get, hk]; simp) hd (k ls H locs hl hR hS)
theorem gS_in {A : Nat → Prop} {a : Nat} {H0 H H1 : Heap} {locs locs1 : List Loc} (hA : A a) (hS : va_S A H0 H locs) (h1 : va_S (fun q => q = a) H H1 locs1) : va_S A H0 H1 (locs ++ locs1) := by
  refine ⟨Nat.le_trans hS.1 h1.1, fun q h2 h3 => ?_, fun q hq => ?_⟩
  · rw [h1.2.1 q (Nat.lt_of_lt_of_le h2 hS.1) (fun e => h3 (by rw [e]; exact hA))]
    exact hS.2.1 q h2 h3
  · rcases List.mem_append.mp hq with q1 | q1
    · exact hS.2.2 q q1
    · have := h1.2.2 q q1
      show A q.base
      rw [show q.base = a from this]; exact hA
theorem gR_set {D : va_G} {cA : Nat → ClassId} {sh : Nat → Option gSh} {h h2 : gHp} {H H1 : Heap} {a : Nat} {x : gSh} (hR : gR D cA sh h H) (ha : sh a = some x) (hat : va_at D vwCl (a, gE cA (h2.1 a) (h2.2 a) x) H1) (hk : ∀ q : Nat, q ≠ a → H1[q]? = H[q]?) (h1 : ∀ q : Nat, q ≠ a → h2.1 q = h.1 q ∧ h2.2 q = h.2 q) : gR D cA sh h2 H1 := by
  intro q y hq
  by_cases e : q = a
  · subst e
    have e2 : y = x := Option.some.inj (hq.symm.trans ha)
    subst e2
    exact hat
  · rw [(h1 q e).1, (h1 q e).2]
    exact (hR q y hq).kept (hk q e)
/-- an int, a long is written -/
def gsI (h : gHp) (a k : Nat) (v : Int32) : gHp := (gU h.1 a k v, h.2)
def gsL (h : gHp) (a k : Nat) (v : Int64) : gHp := (h.1, gU h.2 a k v)
theorem gsI_a (h : gHp) (a k : Nat) (v : Int32) : (gsI h a k v).1 a = fun j => if j = k then v else h.1 a j := by funext j; simp [gsI, gU]
theorem gsL_a (h : gHp) (a k : Nat) (v : Int64) : (gsL h a k v).2 a = fun j => if j = k then v else h.2 a j := by funext j; simp [gsL, gU]
theorem gsI_n (h : gHp) (a k : Nat) (v : Int32) : ∀ q : Nat, q ≠ a → (gsI h a k v).1 q = h.1 q ∧ (gsI h a k v).2 q = h.2 q := fun q e => ⟨gU_ne e, rfl⟩
theorem gsL_n (h : gHp) (a k : Nat) (v : Int64) : ∀ q : Nat, q ≠ a → (gsL h a k v).1 q = h.1 q ∧ (gsL h a k v).2 q = h.2 q := fun q e => ⟨rfl, gU_ne e⟩
theorem gx_putI {w : gWd} {g : gCx} {cc : ByteArray} {Ts : List Cond} {own : String} {nL fr lo : Nat} (C : gC w g cc Ts own nL fr lo) {h : gHp} {pc : Nat} {lv : List (Nat × Value)} {st : List Value} {a index ci i : Nat} {ks : List gSl} {v : Int32} {ty : FieldType} (F : gFw Ts own index ci i ty) (ha : gsh w a = some (.inl (ci, ks))) (hk : ks[i]? = some (.inl 0)) (hn : narrow ty (.int v) = .int v) (hfit : fits ty (.int v) = true) (hd : decode cc pc = .ok (.putfield index, 3)) (k : gX w g nL (gsI h a i v) (pc + 3) lv st) : gX w g nL h pc lv (.int v :: .ref a :: st) := by
  obtain ⟨l, D, cA, sh, b0, adK, adV, fz⟩ := w
  obtain ⟨p, e, R, s, m, args, below, meth, c, ce, sl, Q⟩ := g
  intro ls H locs hl hR hS
  obtain ⟨Cn, T, N, ty0, hc, hi, hin, hlk, hty, hnm, hfin, hty1⟩ := F
  have hA := C.2.2.2.2.2.2.2.2.1 a _ ha
  have hP := gP1 hR ha
  have hts := C.2.2.2.2.1
  have hK := C.2.2.2.2.2.1
  have hap := va_apart (own := own) hts hin ty0 hty hnm hK hc
  obtain ⟨r, h1, cell, q1, q2, q3, q4⟩ := hP 0 _ rfl
  have hr : r = (Cn, T, N) := Option.some.inj (h1.symm.trans hc)
  subst hr
  obtain ⟨hS9, hfc, kC, hkC, hkind⟩ := hK.1 ci _ hc
  obtain ⟨cf, kf, fi, f, hi9, hsl⟩ := hS9 i hi
  have hlay := hts _ (hin _ (u_in_lay hi))
  unfold u_lay at hlay
  rw [if_neg (by rw [hfin]; decide)] at hlay
  have hst := (u_facts hfc hkC (u_lays hts hin hi) hi9).1
  have h6 := u_store hfc hkC hkind hlay hi9 hty1 hn hfit
  refine W.putK C.1 C.2.1 (f := f) ⟨C.2.2.2.1, hts _ hlk, ⟨_, _, _, hi9⟩, hst⟩ (by rw [q2]; exact h6) q1 q3 (by rw [hsl]; exact k2_hasslot (q4 i hi)) rfl rfl hd fun H' e1 e2 e3 => ?_
  rw [hsl] at e1 ⊢
  refine k ls H' _ hl (gR_set hR ha ?_ e3 (gsI_n h a i v)) (hS.put e2 e3 hA)
  have hlt : i < (gVs (h.1 a) (h.2 a) 0 ks).length := by
    rw [gVs_len]
    exact (List.getElem?_eq_some_iff.mp hk).1
  have e9 : gE cA ((gsI h a i v).1 a) ((gsI h a i v).2 a) (.inl (ci, ks)) = .inr (ci, (gVs (h.1 a) (h.2 a) 0 ks).set i (.int v)) := by
    rw [gVs_setI _ _ v ks 0 i hk]
    show (Sum.inr (ci, _) : va_E) = _
    rw [gsI_a]
    simp only [Nat.zero_add]
    rfl
  rw [e9]
  exact ⟨_, hc, t_OB.to (V := updV (vp_V (gVs (h.1 a) (h.2 a) 0 ks)) i (.int v)) ⟨_, e1, q2, q3, t_set q4 hap hi (.int v)⟩ (fun j _ => vp_updV_set hlt (.int v) j)⟩
theorem gx_putL {w : gWd} {g : gCx} {cc : ByteArray} {Ts : List Cond} {own : String} {nL fr lo : Nat} (C : gC w g cc Ts own nL fr lo) {h : gHp} {pc : Nat} {lv : List (Nat × Value)} {st : List Value} {a index ci i : Nat} {ks : List gSl} {v : Int64} {ty : FieldType} (F : gFw Ts own index ci i ty) (ha : gsh w a = some (.inl (ci, ks))) (hk : ks[i]? = some (.inl 1)) (hn : narrow ty (.long v) = .long v) (hfit : fits ty (.long v) = true) (hd : decode cc pc = .ok (.putfield index, 3)) (k : gX w g nL (gsL h a i v) (pc + 3) lv st) : gX w g nL h pc lv (.long v :: .ref a :: st) := by
  obtain ⟨l, D, cA, sh, b0, adK, adV, fz⟩ := w
  obtain ⟨p, e, R, s, m, args, below, meth, c, ce, sl, Q⟩ := g
  intro ls H locs hl hR hS
  obtain ⟨Cn, T, N, ty0, hc, hi, hin, hlk, hty, hnm, hfin, hty1⟩ := F
  have hA := C.2.2.2.2.2.2.2.2.1 a _ ha
  have hP := gP1 hR ha
  have hts := C.2.2.2.2.1
  have hK := C.2.2.2.2.2.1
  have hap := va_apart (own := own) hts hin ty0 hty hnm hK hc
  obtain ⟨r, h1, cell, q1, q2, q3, q4⟩ := hP 0 _ rfl
  have hr : r = (Cn, T, N) := Option.some.inj (h1.symm.trans hc)
  subst hr
  obtain ⟨hS9, hfc, kC, hkC, hkind⟩ := hK.1 ci _ hc
  obtain ⟨cf, kf, fi, f, hi9, hsl⟩ := hS9 i hi
  have hlay := hts _ (hin _ (u_in_lay hi))
  unfold u_lay at hlay
  rw [if_neg (by rw [hfin]; decide)] at hlay
  have hst := (u_facts hfc hkC (u_lays hts hin hi) hi9).1
  have h6 := u_store hfc hkC hkind hlay hi9 hty1 hn hfit
  refine W.putK C.1 C.2.1 (f := f) ⟨C.2.2.2.1, hts _ hlk, ⟨_, _, _, hi9⟩, hst⟩ (by rw [q2]; exact h6) q1 q3 (by rw [hsl]; exact k2_hasslot (q4 i hi)) rfl rfl hd fun H' e1 e2 e3 => ?_
  rw [hsl] at e1 ⊢
  refine k ls H' _ hl (gR_set hR ha ?_ e3 (gsL_n h a i v)) (hS.put e2 e3 hA)
  have hlt : i < (gVs (h.1 a) (h.2 a) 0 ks).length := by
    rw [gVs_len]
    exact (List.getElem?_eq_some_iff.mp hk).1
  have e9 : gE cA ((gsL h a i v).1 a) ((gsL h a i v).2 a) (.inl (ci, ks)) = .inr (ci, (gVs (h.1 a) (h.2 a) 0 ks).set i (.long v)) := by
    rw [gVs_setL _ _ v ks 0 i hk]
    show (Sum.inr (ci, _) : va_E) = _
    rw [gsL_a]
    simp only [Nat.zero_add]
    rfl
  rw [e9]
  exact ⟨_, hc, t_OB.to (V := updV (vp_V (gVs (h.1 a) (h.2 a) 0 ks)) i (.long v)) ⟨_, e1, q2, q3, t_set q4 hap hi (.long v)⟩ (fun j _ => vp_updV_set hlt (.long v) j)⟩
theorem gx_iaload {w : gWd} {g : gCx} {cc : ByteArray} {Ts : List Cond} {own : String} {nL fr lo : Nat} (C : gC w g cc Ts own nL fr lo) {h : gHp} {pc : Nat} {lv : List (Nat × Value)} {st : List Value} {a n : Nat} {f : Nat → Nat} {i : Int32} (ha : gsh w a = some (.inr (0, n, f))) (hin : gIn i n) (hd : decode cc pc = .ok (.iaload, 1)) (k : gX w g nL h (pc + 1) lv (.int (h.1 a (gN i)) :: st)) : gX w g nL h pc lv (.int i :: .ref a :: st) := by
  obtain ⟨l, D, cA, sh, b0, adK, adV, fz⟩ := w
  obtain ⟨p, e, R, s, m, args, below, meth, c, ce, sl, Q⟩ := g
  intro ls H locs hl hR hS
  exact va_iald C.1 C.2.1 C.2.2.2.2.2.1 (gP1 hR ha) 0 0 rfl rfl hin hd (k ls H locs hl hR hS)
theorem gx_laload {w : gWd} {g : gCx} {cc : ByteArray} {Ts : List Cond} {own : String} {nL fr lo : Nat} (C : gC w g cc Ts own nL fr lo) {h : gHp} {pc : Nat} {lv : List (Nat × Value)} {st : List Value} {a n : Nat} {f : Nat → Nat} {i : Int32} (ha : gsh w a = some (.inr (1, n, f))) (hin : gIn i n) (hd : decode cc pc = .ok (.laload, 1)) (k : gX w g nL h (pc + 1) lv (.long (h.2 a (gN i)) :: st)) : gX w g nL h pc lv (.int i :: .ref a :: st) := by
  obtain ⟨l, D, cA, sh, b0, adK, adV, fz⟩ := w
  obtain ⟨p, e, R, s, m, args, below, meth, c, ce, sl, Q⟩ := g
  intro ls H locs hl hR hS
  exact va_lald C.1 C.2.1 C.2.2.2.2.2.1 (gP1 hR ha) 0 1 rfl rfl hin hd (k ls H locs hl hR hS)
theorem gx_caload {w : gWd} {g : gCx} {cc : ByteArray} {Ts : List Cond} {own : String} {nL fr lo : Nat} (C : gC w g cc Ts own nL fr lo) {h : gHp} {pc : Nat} {lv : List (Nat × Value)} {st : List Value} {a n : Nat} {f : Nat → Nat} {i : Int32} (ha : gsh w a = some (.inr (2, n, f))) (hin : gIn i n) (hd : decode cc pc = .ok (.caload, 1)) (k : gX w g nL h (pc + 1) lv (.int (h.1 a (gN i)) :: st)) : gX w g nL h pc lv (.int i :: .ref a :: st) := by
  obtain ⟨l, D, cA, sh, b0, adK, adV, fz⟩ := w
  obtain ⟨p, e, R, s, m, args, below, meth, c, ce, sl, Q⟩ := g
  intro ls H locs hl hR hS
  exact va_cald C.1 C.2.1 C.2.2.2.2.2.1 (gP1 hR ha) 0 2 rfl rfl hin hd (k ls H locs hl hR hS)
theorem gx_zaload {w : gWd} {g : gCx} {cc : ByteArray} {Ts : List Cond} {own : String} {nL fr lo : Nat} (C : gC w g cc Ts own nL fr lo) {h : gHp} {pc : Nat} {lv : List (Nat × Value)} {st : List Value} {a n : Nat} {f : Nat → Nat} {i : Int32} (ha : gsh w a = some (.inr (3, n, f))) (hin : gIn i n) (hd : decode cc pc = .ok (.baload, 1)) (k : gX w g nL h (pc + 1) lv (.int (h.1 a (gN i)) :: st)) : gX w g nL h pc lv (.int i :: .ref a :: st) := by
  obtain ⟨l, D, cA, sh, b0, adK, adV, fz⟩ := w
  obtain ⟨p, e, R, s, m, args, below, meth, c, ce, sl, Q⟩ := g
  intro ls H locs hl hR hS
  exact va_zald C.1 C.2.1 C.2.2.2.2.2.1 (gP1 hR ha) 0 3 rfl rfl hin hd (k ls H locs hl hR hS)
theorem gx_aaloadFr {w : gWd} {g : gCx} {cc : ByteArray} {Ts : List Cond} {own : String} {nL fr lo : Nat} (C : gC w g cc Ts own nL fr lo) {h : gHp} {pc : Nat} {lv : List (Nat × Value)} {st : List Value} {a n : Nat} {f : Nat → Nat} {i : Int32} (ha : gsh w a = some (.inr (4, n, f))) (hin : gIn i n) (hd : decode cc pc = .ok (.aaload, 1)) (k : gX w g nL h (pc + 1) lv (.ref (f (gN i)) :: st)) : gX w g nL h pc lv (.int i :: .ref a :: st) := by
  obtain ⟨l, D, cA, sh, b0, adK, adV, fz⟩ := w
  obtain ⟨p, e, R, s, m, args, below, meth, c, ce, sl, Q⟩ := g
  intro ls H locs hl hR hS
  exact va_aldq C.1 C.2.1 C.2.2.2.2.2.1 (gP1 hR ha) 0 4 rfl rfl hin hd (k ls H locs hl hR hS)
theorem gx_aaloadSt {w : gWd} {g : gCx} {cc : ByteArray} {Ts : List Cond} {own : String} {nL fr lo : Nat} (C : gC w g cc Ts own nL fr lo) {h : gHp} {pc : Nat} {lv : List (Nat × Value)} {st : List Value} {a n : Nat} {f : Nat → Nat} {i : Int32} (ha : gsh w a = some (.inr (5, n, f))) (hin : gIn i n) (hd : decode cc pc = .ok (.aaload, 1)) (k : gX w g nL h (pc + 1) lv (.ref (f (gN i)) :: st)) : gX w g nL h pc lv (.int i :: .ref a :: st) := by
  obtain ⟨l, D, cA, sh, b0, adK, adV, fz⟩ := w
  obtain ⟨p, e, R, s, m, args, below, meth, c, ce, sl, Q⟩ := g
  intro ls H locs hl hR hS
  exact va_aldq C.1 C.2.1 C.2.2.2.2.2.1 (gP1 hR ha) 0 5 rfl rfl hin hd (k ls H locs hl hR hS)
theorem gx_iastore {w : gWd} {g : gCx} {cc : ByteArray} {Ts : List Cond} {own : String} {nL fr lo : Nat} (C : gC w g cc Ts own nL fr lo) {h : gHp} {pc : Nat} {lv : List (Nat × Value)} {st : List Value} {a n : Nat} {f : Nat → Nat} {i : Int32} {x : Int32} (ha : gsh w a = some (.inr (0, n, f))) (hin : gIn i n) (hd : decode cc pc = .ok (.iastore, 1)) (k : gX w g nL (gsI h a (gN i) x) (pc + 1) lv st) : gX w g nL h pc lv (.int x :: .int i :: .ref a :: st) := by
  obtain ⟨l, D, cA, sh, b0, adK, adV, fz⟩ := w
  obtain ⟨p, e, R, s, m, args, below, meth, c, ce, sl, Q⟩ := g
  intro ls H locs hl hR hS
  have hA := C.2.2.2.2.2.2.2.2.1 a _ ha
  have hK := C.2.2.2.2.2.1
  have hP := gP1 hR ha
  refine W.iast C.1 C.2.1 (hP 0 _ rfl) ((hK.2 0 _ rfl).1 n (fun j => .int (h.1 a j))) (fun q => by cases q) (by show ¬ (i < 0 ∨ (arrV _ _ _).slots.size ≤ _); rw [arrV_size]; exact hin) rfl rfl hd fun H1 e z oq => ?_
  refine k ls H1 _ hl (gR_set hR ha ?_ oq (gsI_n h a _ _)) (hS.put z oq hA)
  show H1[a]? = some (vp_cell (cA 0) (n, .inl ((gsI h a (gN i) x).1 a)))
  rw [e, gsI_a]
  show some ((arrV (cA 0) n (fun j => .int (h.1 a j))).setSlot _ _) = some (arrV (cA 0) n (fun j => .int (if j = gN i then x else h.1 a j)))
  rw [arrV_store]
  congr 2
  funext q
  by_cases hq : q = i.toNatClampNeg
  · subst hq
    simp [updV, vp_nar]
    try rfl
  · simp [updV, hq]
theorem gx_lastore {w : gWd} {g : gCx} {cc : ByteArray} {Ts : List Cond} {own : String} {nL fr lo : Nat} (C : gC w g cc Ts own nL fr lo) {h : gHp} {pc : Nat} {lv : List (Nat × Value)} {st : List Value} {a n : Nat} {f : Nat → Nat} {i : Int32} {x : Int64} (ha : gsh w a = some (.inr (1, n, f))) (hin : gIn i n) (hd : decode cc pc = .ok (.lastore, 1)) (k : gX w g nL (gsL h a (gN i) x) (pc + 1) lv st) : gX w g nL h pc lv (.long x :: .int i :: .ref a :: st) := by
  obtain ⟨l, D, cA, sh, b0, adK, adV, fz⟩ := w
  obtain ⟨p, e, R, s, m, args, below, meth, c, ce, sl, Q⟩ := g
  intro ls H locs hl hR hS
  have hA := C.2.2.2.2.2.2.2.2.1 a _ ha
  have hK := C.2.2.2.2.2.1
  have hP := gP1 hR ha
  refine W.last C.1 C.2.1 (hP 0 _ rfl) ((hK.2 1 _ rfl).1 n (fun j => .long (h.2 a j))) (fun q => by cases q) (by show ¬ (i < 0 ∨ (arrV _ _ _).slots.size ≤ _); rw [arrV_size]; exact hin) rfl rfl hd fun H1 e z oq => ?_
  refine k ls H1 _ hl (gR_set hR ha ?_ oq (gsL_n h a _ _)) (hS.put z oq hA)
  show H1[a]? = some (vp_cell (cA 1) (n, .inr (.inl ((gsL h a (gN i) x).2 a))))
  rw [e, gsL_a]
  show some ((arrV (cA 1) n (fun j => .long (h.2 a j))).setSlot _ _) = some (arrV (cA 1) n (fun j => .long (if j = gN i then x else h.2 a j)))
  rw [arrV_store]
  congr 2
  funext q
  by_cases hq : q = i.toNatClampNeg
  · subst hq
    simp [updV, vp_nar]
    try rfl
  · simp [updV, hq]
theorem gx_castore {w : gWd} {g : gCx} {cc : ByteArray} {Ts : List Cond} {own : String} {nL fr lo : Nat} (C : gC w g cc Ts own nL fr lo) {h : gHp} {pc : Nat} {lv : List (Nat × Value)} {st : List Value} {a n : Nat} {f : Nat → Nat} {i : Int32} {x : Int32} (ha : gsh w a = some (.inr (2, n, f))) (hin : gIn i n) (hd : decode cc pc = .ok (.castore, 1)) (k : gX w g nL (gsI h a (gN i) (vp_nar .char x)) (pc + 1) lv st) : gX w g nL h pc lv (.int x :: .int i :: .ref a :: st) := by
  obtain ⟨l, D, cA, sh, b0, adK, adV, fz⟩ := w
  obtain ⟨p, e, R, s, m, args, below, meth, c, ce, sl, Q⟩ := g
  intro ls H locs hl hR hS
  have hA := C.2.2.2.2.2.2.2.2.1 a _ ha
  have hK := C.2.2.2.2.2.1
  have hP := gP1 hR ha
  refine W.cast C.1 C.2.1 (hP 0 _ rfl) ((hK.2 2 _ rfl).1 n (fun j => .int (h.1 a j))) (fun q => by cases q) (by show ¬ (i < 0 ∨ (arrV _ _ _).slots.size ≤ _); rw [arrV_size]; exact hin) rfl rfl hd fun H1 e z oq => ?_
  refine k ls H1 _ hl (gR_set hR ha ?_ oq (gsI_n h a _ _)) (hS.put z oq hA)
  show H1[a]? = some (vp_cell (cA 2) (n, .inl ((gsI h a (gN i) (vp_nar .char x)).1 a)))
  rw [e, gsI_a]
  show some ((arrV (cA 2) n (fun j => .int (h.1 a j))).setSlot _ _) = some (arrV (cA 2) n (fun j => .int (if j = gN i then (vp_nar .char x) else h.1 a j)))
  rw [arrV_store]
  congr 2
  funext q
  by_cases hq : q = i.toNatClampNeg
  · subst hq
    simp [updV, vp_nar]
    try rfl
  · simp [updV, hq]
theorem gx_zastore {w : gWd} {g : gCx} {cc : ByteArray} {Ts : List Cond} {own : String} {nL fr lo : Nat} (C : gC w g cc Ts own nL fr lo) {h : gHp} {pc : Nat} {lv : List (Nat × Value)} {st : List Value} {a n : Nat} {f : Nat → Nat} {i : Int32} {x : Int32} (ha : gsh w a = some (.inr (3, n, f))) (hin : gIn i n) (hd : decode cc pc = .ok (.bastore, 1)) (k : gX w g nL (gsI h a (gN i) (vp_nar .boolean x)) (pc + 1) lv st) : gX w g nL h pc lv (.int x :: .int i :: .ref a :: st) := by
  obtain ⟨l, D, cA, sh, b0, adK, adV, fz⟩ := w
  obtain ⟨p, e, R, s, m, args, below, meth, c, ce, sl, Q⟩ := g
  intro ls H locs hl hR hS
  have hA := C.2.2.2.2.2.2.2.2.1 a _ ha
  have hK := C.2.2.2.2.2.1
  have hP := gP1 hR ha
  refine W.zast C.1 C.2.1 (hP 0 _ rfl) ((hK.2 3 _ rfl).1 n (fun j => .int (h.1 a j))) (fun q => by cases q) (by show ¬ (i < 0 ∨ (arrV _ _ _).slots.size ≤ _); rw [arrV_size]; exact hin) rfl rfl hd fun H1 e z oq => ?_
  refine k ls H1 _ hl (gR_set hR ha ?_ oq (gsI_n h a _ _)) (hS.put z oq hA)
  show H1[a]? = some (vp_cell (cA 3) (n, .inl ((gsI h a (gN i) (vp_nar .boolean x)).1 a)))
  rw [e, gsI_a]
  show some ((arrV (cA 3) n (fun j => .int (h.1 a j))).setSlot _ _) = some (arrV (cA 3) n (fun j => .int (if j = gN i then (vp_nar .boolean x) else h.1 a j)))
  rw [arrV_store]
  congr 2
  funext q
  by_cases hq : q = i.toNatClampNeg
  · subst hq
    simp [updV, vp_nar]
    try rfl
  · simp [updV, hq]
theorem gx_iret {w : gWd} {g : gCx} {cc : ByteArray} {Ts : List Cond} {own : String} {nL fr lo : Nat} (C : gC w g cc Ts own nL fr lo) {h : gHp} {pc : Nat} {lv : List (Nat × Value)} {x : Int32} (E : gEn w g (some .int) (some (.int x)) h) (hd : decode cc pc = .ok (.ireturn, 1)) : gX w g nL h pc lv [.int x] := by
  obtain ⟨l, D, cA, sh, b0, adK, adV, fz⟩ := w
  obtain ⟨p, e, R, s, m, args, below, meth, c, ce, sl, Q⟩ := g
  intro ls H locs hl hR hS
  obtain ⟨hr, hlk, rfl⟩ := E
  exact W.iret (v := x) C.1 C.2.1 hr (fun t ht hW => ⟨rfl, by rw [ht]; exact hR, hS.F ht⟩) hS.2.2 hd hlk
theorem gx_lret {w : gWd} {g : gCx} {cc : ByteArray} {Ts : List Cond} {own : String} {nL fr lo : Nat} (C : gC w g cc Ts own nL fr lo) {h : gHp} {pc : Nat} {lv : List (Nat × Value)} {x : Int64} (E : gEn w g (some .long) (some (.long x)) h) (hd : decode cc pc = .ok (.lreturn, 1)) : gX w g nL h pc lv [.long x] := by
  obtain ⟨l, D, cA, sh, b0, adK, adV, fz⟩ := w
  obtain ⟨p, e, R, s, m, args, below, meth, c, ce, sl, Q⟩ := g
  intro ls H locs hl hR hS
  obtain ⟨hr, hlk, rfl⟩ := E
  exact W.lret (v := x) C.1 C.2.1 hr (fun t ht hW => ⟨rfl, by rw [ht]; exact hR, hS.F ht⟩) hS.2.2 hd hlk
theorem gx_zret {w : gWd} {g : gCx} {cc : ByteArray} {Ts : List Cond} {own : String} {nL fr lo : Nat} (C : gC w g cc Ts own nL fr lo) {h : gHp} {pc : Nat} {lv : List (Nat × Value)} {b : Bool} (E : gEn w g (some .boolean) (some (.int (gZ b))) h) (hd : decode cc pc = .ok (.ireturn, 1)) : gX w g nL h pc lv [.int (gZ b)] := by
  obtain ⟨l, D, cA, sh, b0, adK, adV, fz⟩ := w
  obtain ⟨p, e, R, s, m, args, below, meth, c, ce, sl, Q⟩ := g
  intro ls H locs hl hR hS
  obtain ⟨hr, hlk, rfl⟩ := E
  exact W.zret (v := gZ b) C.1 C.2.1 hr (by cases b <;> rfl) (fun t ht hW => ⟨rfl, by rw [ht]; exact hR, hS.F ht⟩) hS.2.2 hd hlk
theorem gx_vret {w : gWd} {g : gCx} {cc : ByteArray} {Ts : List Cond} {own : String} {nL fr lo : Nat} (C : gC w g cc Ts own nL fr lo) {h : gHp} {pc : Nat} {lv : List (Nat × Value)} (E : gEn w g none none h) (hd : decode cc pc = .ok (.return_, 1)) : gX w g nL h pc lv [] := by
  obtain ⟨l, D, cA, sh, b0, adK, adV, fz⟩ := w
  obtain ⟨p, e, R, s, m, args, below, meth, c, ce, sl, Q⟩ := g
  intro ls H locs hl hR hS
  obtain ⟨hr, hlk, rfl⟩ := E
  exact W.vret C.1 C.2.1 hr (fun t ht hW => ⟨rfl, by rw [ht]; exact hR, hS.F ht⟩) hS.2.2 hd hlk
theorem gx_aret {w : gWd} {g : gCx} {cc : ByteArray} {Ts : List Cond} {own : String} {nL fr lo : Nat} (C : gC w g cc Ts own nL fr lo) {h : gHp} {pc : Nat} {lv : List (Nat × Value)} {a : Nat} {rt : FieldType} (hrt : (∃ n, rt = FieldType.object n) ∨ ∃ t, rt = FieldType.array t) (E : gEn w g (some rt) (some (.ref a)) h) (hd : decode cc pc = .ok (.areturn, 1)) : gX w g nL h pc lv [.ref a] := by
  obtain ⟨l, D, cA, sh, b0, adK, adV, fz⟩ := w
  obtain ⟨p, e, R, s, m, args, below, meth, c, ce, sl, Q⟩ := g
  intro ls H locs hl hR hS
  obtain ⟨hr, hlk, rfl⟩ := E
  exact W.aret (v := .ref a) C.1 C.2.1 hr hrt (Or.inr ⟨a, rfl⟩) (fun t ht hW => ⟨rfl, by rw [ht]; exact hR, hS.F ht⟩) hS.2.2 hd hlk
theorem gPre_blind (w : gWd) (h : gHp) (av : List Value) : FrameBlind (va_Pc av (gPre w h)) := fun a U g mk q => by
  obtain ⟨q0, q1, q2, q3, q4, q5, q6⟩ := q
  exact ⟨q0, q1, va_K.moved (u := U) (U := U.calling g mk a) (Vm.Alike.refl U.vm) q2, gNs.same (u := U) (U := U.calling g mk a) rfl q3, q4, q5, gSt.same (u := U) (U := U.calling g mk a) rfl rfl q6⟩
/-- a method's contract out of the walk of its body -/
theorem gMet_of {w : gWd} {y : MethodName} {ws ws' : List Cond} {rm : Room} {av : List Value} {h h' : gHp} {v : Option Value} {cc : ByteArray} {maxL : Nat} {ret : Option FieldType} {fr lo : Nat} {own : String} (lv : List (Nat × Value))
    (hy : plainName y.cls = true) (hw : ws = Cond.code y cc maxL ret :: ws') (howny : y.cls = own) (hlen : (lg_sl av).length ≤ maxL) (hlv : lv_args 0 av = lv) (hfr : fr ≤ rm.frames) (hlo : lo ≤ rm.locals)
    (body : ∀ g : gCx, gC w g cc ws own maxL fr lo → gEn w g ret v h' → gX w g maxL h 0 lv []) : gMet w y ws rm av h v h' := by
  obtain ⟨l, D, cA, sh, b0, adK, adV, fz⟩ := w
  refine Met.ofW (cc := cc) (maxL := maxL) (ret := ret) hy hw ?_
  intro p e s m args below meth c s₁ B hml hv
  obtain ⟨rfl, hR, hK, hN, hb0, hsh, hst⟩ := hv
  have hts := atoms_spec (ws := ws) B.pre
  have hown : s.vm.findClass own = some m.cls := by rw [← howny]; exact findClass_of_methodNamed B.named
  have hl := lv_entry av (n := maxL) hlen
  rw [lg_entry_eq]
  generalize (lg_sl av ++ List.replicate (maxL - (lg_sl av).length) Slot.unset).toArray = ls at hl ⊢
  rw [hlv] at hl
  exact body (p, e, (headSpec ws rm).room, s, m, av.toArray, below, meth, c, 0, 0, _) ⟨B.exec, B.bytes, hml, hown, hts, hK, hN, hb0, hsh, hfr, hlo, Nat.zero_le _, Nat.zero_le _, hst⟩ ⟨B.returns, B.notSynchronized, rfl⟩ ls s.heap [] hl hR va_S.rf
theorem gx_callV {w : gWd} {g : gCx} {cc : ByteArray} {Ts : List Cond} {own : String} {nL fr lo : Nat} (C : gC w g cc Ts own nL fr lo) {h : gHp} {pc : Nat} {lv : List (Nat × Value)} {st : List Value} {y : MethodName} {bytes : ByteArray} {maxL index : Nat} {ret : Option FieldType} {ws ws' : List Cond} {rm : Room} {Cn : String} {b ci : Nat} {T : u_T} {N : Nat} {ks : List gSl} (n : Nat) (As : List Value) {v : Option Value} {h' : gHp} (hM : gMet w y ws rm (.ref b :: As) h v h') (hG : GoodIn Ts (wsV own index Cn y ws)) (hw : ws = Cond.code y bytes maxL ret :: ws') (hrc : rm.cells = 0) (hrs : rm.slots = 0) (hy : y.cls = Cn ∧ y.cls ≠ "java/lang/invoke/MethodHandle" ∧ y.cls ≠ "java/lang/invoke/VarHandle" ∧ (parseMethodDescriptor y.desc).map (fun d => d.parameters.length) = some n) (hr1 : rm.frames + 1 ≤ fr) (hr2 : 8 + (maxL + 11) + rm.locals ≤ lo)
    (hb : gsh w b = some (.inl (ci, ks))) (hci : vwCl[ci]? = some (Cn, T, N)) (hn : As.length = n) {stk : List Value} (hstk : stk = As.reverse ++ .ref b :: st) (hW : (st.map fun v => v.category).sum ≤ 8) (hd : decode cc pc = .ok (.invokevirtual index, 3)) (k : gX w g nL h' (pc + 3) lv (v.toList ++ st)) : gX w g nL h pc lv stk := by
  obtain ⟨l, D, cA, sh, b0, adK, adV, fz⟩ := w
  obtain ⟨p, e, R, s, m, args, below, meth, c, ce, sl, Q⟩ := g
  intro ls H locs hl hR hS
  have hS0 := C.2.2.2.2.2.2.2.1
  have hr : va_Run p l e R s m args below meth c H locs ce sl 0 0 (F0 m pc ls stk) st ((fun _ st oc t => gQc (l, D, cA, sh, b0, adK, adV, fz) v h' st oc t) (.ref b :: As).toArray) (fun q => b0 ≤ q) :=
    va_runV (C := Cn) (b := b) (As := As) (rest := st) ⟨C.1, C.2.1, C.2.2.1, C.2.2.2.1, C.2.2.2.2.1⟩ hM (cwV n C.2.2.2.2.1 hG hw hrc hrs hy ⟨Nat.le_trans hr1 C.2.2.2.2.2.2.2.2.2.1, Nat.le_trans hr2 C.2.2.2.2.2.2.2.2.2.2.1⟩) ⟨gPre_blind _ h _, va_recv (ci := ci) (q0 := 0) C.2.2.2.2.2.1 (gP1 hR hb) hci rfl, fun U hU hW => ⟨rfl, by rw [hU]; exact hR, va_K.moved hW.alike C.2.2.2.2.2.1, gNs.warm hW C.2.2.2.2.2.2.1, by rw [hU]; exact Nat.le_trans hS0 hS.1, C.2.2.2.2.2.2.2.2.1, gSt.warm hW (fun q h1 h2 => by rw [hU]; exact hS.2.1 q h1 h2) C.2.2.2.2.2.2.2.2.2.2.2.2.2⟩⟩ rfl hn hl.1 hstk (lv_room hW) hd ⟨C.2.2.2.2.2.2.2.2.2.2.2.1, C.2.2.2.2.2.2.2.2.2.2.2.2.1⟩
  intro T hT X
  obtain ⟨v1, st₀, t, T', L, h0, X', hL, e1, e2, ⟨hv, hR1, hF1⟩, hgo⟩ := hr T hT X
  cases hv
  rw [← e1] at hR1
  have hz : H.size ≤ T'.heap.size := by rw [e1, ← h0]; exact hF1.1
  have hu : ∀ q : Nat, q < H.size → ¬ b0 ≤ q → T'.heap[q]? = H[q]? := fun q h1 h2 => by rw [e1, ← h0]; exact hF1.2 q (by rw [h0]; exact h1) h2
  obtain ⟨t2, a1, b1⟩ := k ls T'.heap (locs ++ L) hl hR1 ⟨Nat.le_trans hS.1 hz, fun q h1 h2 => by rw [hu q (Nat.lt_of_lt_of_le h1 hS.1) h2]; exact hS.2.1 q h1 h2, fun q hq => by
    rcases List.mem_append.mp hq with q1 | q1
    · exact hS.2.2 q q1
    · exact hL q q1⟩ T' rfl X'
  exact ⟨t2, hgo t2 a1, b1⟩
theorem gx_callS {w : gWd} {g : gCx} {cc : ByteArray} {Ts : List Cond} {own : String} {nL fr lo : Nat} (C : gC w g cc Ts own nL fr lo) {h : gHp} {pc : Nat} {lv : List (Nat × Value)} {st : List Value} {y : MethodName} {bytes : ByteArray} {maxL index : Nat} {ret : Option FieldType} {ws ws' : List Cond} {rm : Room} (n : Nat) (As : List Value) {v : Option Value} {h' : gHp} (hM : gMet w y ws rm (As) h v h') (hG : GoodIn Ts (va_wsS own index y ws)) (hw : ws = Cond.code y bytes maxL ret :: ws') (hrc : rm.cells = 0) (hrs : rm.slots = 0) (hy :  y.cls ≠ "java/lang/invoke/MethodHandle" ∧ y.cls ≠ "java/lang/invoke/VarHandle" ∧ (parseMethodDescriptor y.desc).map (fun d => d.parameters.length) = some n) (hr1 : rm.frames + 1 ≤ fr) (hr2 : 8 + (maxL + 11) + rm.locals ≤ lo)
    (hn : As.length = n) {stk : List Value} (hstk : stk = As.reverse ++ st) (hW : (st.map fun v => v.category).sum ≤ 8) (hd : decode cc pc = .ok (.invokestatic index, 3)) (k : gX w g nL h' (pc + 3) lv (v.toList ++ st)) : gX w g nL h pc lv stk := by
  obtain ⟨l, D, cA, sh, b0, adK, adV, fz⟩ := w
  obtain ⟨p, e, R, s, m, args, below, meth, c, ce, sl, Q⟩ := g
  intro ls H locs hl hR hS
  have hS0 := C.2.2.2.2.2.2.2.1
  have hr : va_Run p l e R s m args below meth c H locs ce sl 0 0 (F0 m pc ls stk) st ((fun _ st oc t => gQc (l, D, cA, sh, b0, adK, adV, fz) v h' st oc t) (As).toArray) (fun q => b0 ≤ q) :=
    va_runS (As := As) (rest := st) ⟨C.1, C.2.1, C.2.2.1, C.2.2.2.1, C.2.2.2.2.1⟩ hM (va_cwS n C.2.2.2.2.1 hG hw hrc hrs hy ⟨Nat.le_trans hr1 C.2.2.2.2.2.2.2.2.2.1, Nat.le_trans hr2 C.2.2.2.2.2.2.2.2.2.2.1⟩) ⟨gPre_blind _ h _, fun U hU hW => ⟨rfl, by rw [hU]; exact hR, va_K.moved hW.alike C.2.2.2.2.2.1, gNs.warm hW C.2.2.2.2.2.2.1, by rw [hU]; exact Nat.le_trans hS0 hS.1, C.2.2.2.2.2.2.2.2.1, gSt.warm hW (fun q h1 h2 => by rw [hU]; exact hS.2.1 q h1 h2) C.2.2.2.2.2.2.2.2.2.2.2.2.2⟩⟩ rfl hn hl.1 hstk (lv_room hW) hd ⟨C.2.2.2.2.2.2.2.2.2.2.2.1, C.2.2.2.2.2.2.2.2.2.2.2.2.1⟩
  intro T hT X
  obtain ⟨v1, st₀, t, T', L, h0, X', hL, e1, e2, ⟨hv, hR1, hF1⟩, hgo⟩ := hr T hT X
  cases hv
  rw [← e1] at hR1
  have hz : H.size ≤ T'.heap.size := by rw [e1, ← h0]; exact hF1.1
  have hu : ∀ q : Nat, q < H.size → ¬ b0 ≤ q → T'.heap[q]? = H[q]? := fun q h1 h2 => by rw [e1, ← h0]; exact hF1.2 q (by rw [h0]; exact h1) h2
  obtain ⟨t2, a1, b1⟩ := k ls T'.heap (locs ++ L) hl hR1 ⟨Nat.le_trans hS.1 hz, fun q h1 h2 => by rw [hu q (Nat.lt_of_lt_of_le h1 hS.1) h2]; exact hS.2.1 q h1 h2, fun q hq => by
    rcases List.mem_append.mp hq with q1 | q1
    · exact hS.2.2 q q1
    · exact hL q q1⟩ T' rfl X'
  exact ⟨t2, hgo t2 a1, b1⟩
theorem gx_callSN {w : gWd} {g : gCx} {cc : ByteArray} {Ts : List Cond} {own : String} {nL fr lo : Nat} (C : gC w g cc Ts own nL fr lo) {h : gHp} {pc : Nat} {lv : List (Nat × Value)} {st : List Value} {y : MethodName} {bytes : ByteArray} {maxL index : Nat} {ret : Option FieldType} {ws ws' : List Cond} {rm : Room} {host : String} (n : Nat) (As : List Value) {v : Option Value} {h' : gHp} (hM : gMet w y ws rm (As) h v h') (hG : GoodIn Ts ws) (hlk : Cond.methodLinkNest own index y host ∈ gNestL) (hini : Cond.initialized y.cls ∈ Ts) (hst : Cond.static y ∈ Ts) (hw : ws = Cond.code y bytes maxL ret :: ws') (hrc : rm.cells = 0) (hrs : rm.slots = 0) (hy :  y.cls ≠ "java/lang/invoke/MethodHandle" ∧ y.cls ≠ "java/lang/invoke/VarHandle" ∧ (parseMethodDescriptor y.desc).map (fun d => d.parameters.length) = some n) (hr1 : rm.frames + 1 ≤ fr) (hr2 : 8 + (maxL + 11) + rm.locals ≤ lo)
    (hn : As.length = n) {stk : List Value} (hstk : stk = As.reverse ++ st) (hW : (st.map fun v => v.category).sum ≤ 8) (hd : decode cc pc = .ok (.invokestatic index, 3)) (k : gX w g nL h' (pc + 3) lv (v.toList ++ st)) : gX w g nL h pc lv stk := by
  obtain ⟨l, D, cA, sh, b0, adK, adV, fz⟩ := w
  obtain ⟨p, e, R, s, m, args, below, meth, c, ce, sl, Q⟩ := g
  intro ls H locs hl hR hS
  have hS0 := C.2.2.2.2.2.2.2.1
  have hr : va_Run p l e R s m args below meth c H locs ce sl 0 0 (F0 m pc ls stk) st ((fun _ st oc t => gQc (l, D, cA, sh, b0, adK, adV, fz) v h' st oc t) (As).toArray) (fun q => b0 ≤ q) :=
    va_runSN (As := As) (rest := st) ⟨C.1, C.2.1, C.2.2.1, C.2.2.2.1, C.2.2.2.2.1⟩ hM (⟨va_cnB n C.2.2.2.2.1 hG hw hrc hrs (C.2.2.2.2.2.2.1 _ hlk) (C.2.2.2.2.1 _ hini) hy ⟨Nat.le_trans hr1 C.2.2.2.2.2.2.2.2.2.1, Nat.le_trans hr2 C.2.2.2.2.2.2.2.2.2.2.1⟩, C.2.2.2.2.1 _ hst, trivial⟩) ⟨gPre_blind _ h _, fun U hU hW => ⟨rfl, by rw [hU]; exact hR, va_K.moved hW.alike C.2.2.2.2.2.1, gNs.warm hW C.2.2.2.2.2.2.1, by rw [hU]; exact Nat.le_trans hS0 hS.1, C.2.2.2.2.2.2.2.2.1, gSt.warm hW (fun q h1 h2 => by rw [hU]; exact hS.2.1 q h1 h2) C.2.2.2.2.2.2.2.2.2.2.2.2.2⟩⟩ rfl hn hl.1 hstk (lv_room hW) hd ⟨C.2.2.2.2.2.2.2.2.2.2.2.1, C.2.2.2.2.2.2.2.2.2.2.2.2.1⟩
  intro T hT X
  obtain ⟨v1, st₀, t, T', L, h0, X', hL, e1, e2, ⟨hv, hR1, hF1⟩, hgo⟩ := hr T hT X
  cases hv
  rw [← e1] at hR1
  have hz : H.size ≤ T'.heap.size := by rw [e1, ← h0]; exact hF1.1
  have hu : ∀ q : Nat, q < H.size → ¬ b0 ≤ q → T'.heap[q]? = H[q]? := fun q h1 h2 => by rw [e1, ← h0]; exact hF1.2 q (by rw [h0]; exact h1) h2
  obtain ⟨t2, a1, b1⟩ := k ls T'.heap (locs ++ L) hl hR1 ⟨Nat.le_trans hS.1 hz, fun q h1 h2 => by rw [hu q (Nat.lt_of_lt_of_le h1 hS.1) h2]; exact hS.2.1 q h1 h2, fun q hq => by
    rcases List.mem_append.mp hq with q1 | q1
    · exact hS.2.2 q q1
    · exact hL q q1⟩ T' rfl X'
  exact ⟨t2, hgo t2 a1, b1⟩
theorem gx_geti {w : gWd} {g : gCx} {cc : ByteArray} {Ts : List Cond} {own : String} {nL fr lo : Nat} (C : gC w g cc Ts own nL fr lo) {h : gHp} {pc : Nat} {lv : List (Nat × Value)} {st : List Value} {a index ci i : Nat} {ks : List gSl} (F : gF Ts own index ci i) (ha : gsh w a = some (.inl (ci, ks))) (hk : ks[i]? = some (.inl 0)) (hd : decode cc pc = .ok (.getfield index, 3)) (k : gX w g nL h (pc + 3) lv (.int (h.1 a i) :: st)) : gX w g nL h pc lv (.ref a :: st) := gx_get C F ha hk hd k
theorem gx_getl {w : gWd} {g : gCx} {cc : ByteArray} {Ts : List Cond} {own : String} {nL fr lo : Nat} (C : gC w g cc Ts own nL fr lo) {h : gHp} {pc : Nat} {lv : List (Nat × Value)} {st : List Value} {a index ci i : Nat} {ks : List gSl} (F : gF Ts own index ci i) (ha : gsh w a = some (.inl (ci, ks))) (hk : ks[i]? = some (.inl 1)) (hd : decode cc pc = .ok (.getfield index, 3)) (k : gX w g nL h (pc + 3) lv (.long (h.2 a i) :: st)) : gX w g nL h pc lv (.ref a :: st) := gx_get C F ha hk hd k
theorem gx_getr {w : gWd} {g : gCx} {cc : ByteArray} {Ts : List Cond} {own : String} {nL fr lo : Nat} (C : gC w g cc Ts own nL fr lo) {h : gHp} {pc : Nat} {lv : List (Nat × Value)} {st : List Value} {a index ci i : Nat} {ks : List gSl} {b : Nat} (F : gF Ts own index ci i) (ha : gsh w a = some (.inl (ci, ks))) (hk : ks[i]? = some (.inr b)) (hd : decode cc pc = .ok (.getfield index, 3)) (k : gX w g nL h (pc + 3) lv (.ref b :: st)) : gX w g nL h pc lv (.ref a :: st) := gx_get C F ha hk hd k
theorem gx_callV0 {w : gWd} {g : gCx} {cc : ByteArray} {Ts : List Cond} {own : String} {nL fr lo : Nat} (C : gC w g cc Ts own nL fr lo) {h : gHp} {pc : Nat} {lv : List (Nat × Value)} {st : List Value} {y : MethodName} {bytes : ByteArray} {maxL index : Nat} {ret : Option FieldType} {ws ws' : List Cond} {rm : Room} {Cn : String} {b ci : Nat} {T : u_T} {N : Nat} {ks : List gSl} (n : Nat) (As : List Value) {h' : gHp} (hM : gMet w y ws rm (.ref b :: As) h none h') (hG : GoodIn Ts (wsV own index Cn y ws)) (hw : ws = Cond.code y bytes maxL ret :: ws') (hrc : rm.cells = 0) (hrs : rm.slots = 0) (hy : y.cls = Cn ∧ y.cls ≠ "java/lang/invoke/MethodHandle" ∧ y.cls ≠ "java/lang/invoke/VarHandle" ∧ (parseMethodDescriptor y.desc).map (fun d => d.parameters.length) = some n) (hr1 : rm.frames + 1 ≤ fr) (hr2 : 8 + (maxL + 11) + rm.locals ≤ lo)
    (hb : gsh w b = some (.inl (ci, ks))) (hci : vwCl[ci]? = some (Cn, T, N)) (hn : As.length = n) {stk : List Value} (hstk : stk = As.reverse ++ .ref b :: st) (hW : (st.map fun v => v.category).sum ≤ 8) (hd : decode cc pc = .ok (.invokevirtual index, 3)) (k : gX w g nL h' (pc + 3) lv st) : gX w g nL h pc lv stk := gx_callV C n As hM hG hw hrc hrs hy hr1 hr2 hb hci hn hstk hW hd k
theorem gx_callV1 {w : gWd} {g : gCx} {cc : ByteArray} {Ts : List Cond} {own : String} {nL fr lo : Nat} (C : gC w g cc Ts own nL fr lo) {h : gHp} {pc : Nat} {lv : List (Nat × Value)} {st : List Value} {y : MethodName} {bytes : ByteArray} {maxL index : Nat} {ret : Option FieldType} {ws ws' : List Cond} {rm : Room} {Cn : String} {b ci : Nat} {T : u_T} {N : Nat} {ks : List gSl} (n : Nat) (As : List Value) {v : Value} {h' : gHp} (hM : gMet w y ws rm (.ref b :: As) h (some v) h') (hG : GoodIn Ts (wsV own index Cn y ws)) (hw : ws = Cond.code y bytes maxL ret :: ws') (hrc : rm.cells = 0) (hrs : rm.slots = 0) (hy : y.cls = Cn ∧ y.cls ≠ "java/lang/invoke/MethodHandle" ∧ y.cls ≠ "java/lang/invoke/VarHandle" ∧ (parseMethodDescriptor y.desc).map (fun d => d.parameters.length) = some n) (hr1 : rm.frames + 1 ≤ fr) (hr2 : 8 + (maxL + 11) + rm.locals ≤ lo)
    (hb : gsh w b = some (.inl (ci, ks))) (hci : vwCl[ci]? = some (Cn, T, N)) (hn : As.length = n) {stk : List Value} (hstk : stk = As.reverse ++ .ref b :: st) (hW : (st.map fun v => v.category).sum ≤ 8) (hd : decode cc pc = .ok (.invokevirtual index, 3)) (k : gX w g nL h' (pc + 3) lv (v :: st)) : gX w g nL h pc lv stk := gx_callV C n As hM hG hw hrc hrs hy hr1 hr2 hb hci hn hstk hW hd k
theorem gx_callS0 {w : gWd} {g : gCx} {cc : ByteArray} {Ts : List Cond} {own : String} {nL fr lo : Nat} (C : gC w g cc Ts own nL fr lo) {h : gHp} {pc : Nat} {lv : List (Nat × Value)} {st : List Value} {y : MethodName} {bytes : ByteArray} {maxL index : Nat} {ret : Option FieldType} {ws ws' : List Cond} {rm : Room} (n : Nat) (As : List Value) {h' : gHp} (hM : gMet w y ws rm (As) h none h') (hG : GoodIn Ts (va_wsS own index y ws)) (hw : ws = Cond.code y bytes maxL ret :: ws') (hrc : rm.cells = 0) (hrs : rm.slots = 0) (hy :  y.cls ≠ "java/lang/invoke/MethodHandle" ∧ y.cls ≠ "java/lang/invoke/VarHandle" ∧ (parseMethodDescriptor y.desc).map (fun d => d.parameters.length) = some n) (hr1 : rm.frames + 1 ≤ fr) (hr2 : 8 + (maxL + 11) + rm.locals ≤ lo)
    (hn : As.length = n) {stk : List Value} (hstk : stk = As.reverse ++ st) (hW : (st.map fun v => v.category).sum ≤ 8) (hd : decode cc pc = .ok (.invokestatic index, 3)) (k : gX w g nL h' (pc + 3) lv st) : gX w g nL h pc lv stk := gx_callS C n As hM hG hw hrc hrs hy hr1 hr2 hn hstk hW hd k
theorem gx_callS1 {w : gWd} {g : gCx} {cc : ByteArray} {Ts : List Cond} {own : String} {nL fr lo : Nat} (C : gC w g cc Ts own nL fr lo) {h : gHp} {pc : Nat} {lv : List (Nat × Value)} {st : List Value} {y : MethodName} {bytes : ByteArray} {maxL index : Nat} {ret : Option FieldType} {ws ws' : List Cond} {rm : Room} (n : Nat) (As : List Value) {v : Value} {h' : gHp} (hM : gMet w y ws rm (As) h (some v) h') (hG : GoodIn Ts (va_wsS own index y ws)) (hw : ws = Cond.code y bytes maxL ret :: ws') (hrc : rm.cells = 0) (hrs : rm.slots = 0) (hy :  y.cls ≠ "java/lang/invoke/MethodHandle" ∧ y.cls ≠ "java/lang/invoke/VarHandle" ∧ (parseMethodDescriptor y.desc).map (fun d => d.parameters.length) = some n) (hr1 : rm.frames + 1 ≤ fr) (hr2 : 8 + (maxL + 11) + rm.locals ≤ lo)
    (hn : As.length = n) {stk : List Value} (hstk : stk = As.reverse ++ st) (hW : (st.map fun v => v.category).sum ≤ 8) (hd : decode cc pc = .ok (.invokestatic index, 3)) (k : gX w g nL h' (pc + 3) lv (v :: st)) : gX w g nL h pc lv stk := gx_callS C n As hM hG hw hrc hrs hy hr1 hr2 hn hstk hW hd k
theorem gx_callSN0 {w : gWd} {g : gCx} {cc : ByteArray} {Ts : List Cond} {own : String} {nL fr lo : Nat} (C : gC w g cc Ts own nL fr lo) {h : gHp} {pc : Nat} {lv : List (Nat × Value)} {st : List Value} {y : MethodName} {bytes : ByteArray} {maxL index : Nat} {ret : Option FieldType} {ws ws' : List Cond} {rm : Room} {host : String} (n : Nat) (As : List Value) {h' : gHp} (hM : gMet w y ws rm (As) h none h') (hG : GoodIn Ts ws) (hlk : Cond.methodLinkNest own index y host ∈ gNestL) (hini : Cond.initialized y.cls ∈ Ts) (hst : Cond.static y ∈ Ts) (hw : ws = Cond.code y bytes maxL ret :: ws') (hrc : rm.cells = 0) (hrs : rm.slots = 0) (hy :  y.cls ≠ "java/lang/invoke/MethodHandle" ∧ y.cls ≠ "java/lang/invoke/VarHandle" ∧ (parseMethodDescriptor y.desc).map (fun d => d.parameters.length) = some n) (hr1 : rm.frames + 1 ≤ fr) (hr2 : 8 + (maxL + 11) + rm.locals ≤ lo)
    (hn : As.length = n) {stk : List Value} (hstk : stk = As.reverse ++ st) (hW : (st.map fun v => v.category).sum ≤ 8) (hd : decode cc pc = .ok (.invokestatic index, 3)) (k : gX w g nL h' (pc + 3) lv st) : gX w g nL h pc lv stk := gx_callSN C n As hM hG hlk hini hst hw hrc hrs hy hr1 hr2 hn hstk hW hd k
theorem gx_callSN1 {w : gWd} {g : gCx} {cc : ByteArray} {Ts : List Cond} {own : String} {nL fr lo : Nat} (C : gC w g cc Ts own nL fr lo) {h : gHp} {pc : Nat} {lv : List (Nat × Value)} {st : List Value} {y : MethodName} {bytes : ByteArray} {maxL index : Nat} {ret : Option FieldType} {ws ws' : List Cond} {rm : Room} {host : String} (n : Nat) (As : List Value) {v : Value} {h' : gHp} (hM : gMet w y ws rm (As) h (some v) h') (hG : GoodIn Ts ws) (hlk : Cond.methodLinkNest own index y host ∈ gNestL) (hini : Cond.initialized y.cls ∈ Ts) (hst : Cond.static y ∈ Ts) (hw : ws = Cond.code y bytes maxL ret :: ws') (hrc : rm.cells = 0) (hrs : rm.slots = 0) (hy :  y.cls ≠ "java/lang/invoke/MethodHandle" ∧ y.cls ≠ "java/lang/invoke/VarHandle" ∧ (parseMethodDescriptor y.desc).map (fun d => d.parameters.length) = some n) (hr1 : rm.frames + 1 ≤ fr) (hr2 : 8 + (maxL + 11) + rm.locals ≤ lo)
    (hn : As.length = n) {stk : List Value} (hstk : stk = As.reverse ++ st) (hW : (st.map fun v => v.category).sum ≤ 8) (hd : decode cc pc = .ok (.invokestatic index, 3)) (k : gX w g nL h' (pc + 3) lv (v :: st)) : gX w g nL h pc lv stk := gx_callSN C n As hM hG hlk hini hst hw hrc hrs hy hr1 hr2 hn hstk hW hd k
def gM4 (Ts : List Cond) (own : String) (index : Nat) (y : MethodName) (code : ByteArray) : Prop := Cond.methodLink own index y ∈ Ts ∧ Cond.static y ∈ Ts ∧ Cond.initialized "java/lang/Math" ∈ Ts ∧ Cond.code y code 2 (some .int) ∈ Ts
theorem gx_mmax {w : gWd} {g : gCx} {cc : ByteArray} {Ts : List Cond} {own : String} {nL fr lo : Nat} (C : gC w g cc Ts own nL fr lo) {h : gHp} {pc : Nat} {lv : List (Nat × Value)} {st : List Value} {x y : Int32} {index : Nat} (hM : gM4 Ts own index Lib.Math.max.name Lib.Math.max.code) (h1 : 1 ≤ fr) (h2 : 21 ≤ lo) (hW : (st.map fun v => v.category).sum ≤ 8) (hd : decode cc pc = .ok (.invokestatic index, 3)) (k : gX w g nL h (pc + 3) lv (.int (if x < y then y else x) :: st)) : gX w g nL h pc lv (.int y :: .int x :: st) := by
  obtain ⟨l, D, cA, sh, b0, adK, adV, fz⟩ := w
  obtain ⟨p, e, R, s, m, args, below, meth, c, ce, sl, Q⟩ := g
  intro ls H locs hl hR hS
  exact va_mmax C.1 C.2.1 (C.2.2.1.trans hl.1.symm) C.2.2.2.1 (C.2.2.2.2.1 _ hM.1) (C.2.2.2.2.1 _ hM.2.1) (C.2.2.2.2.1 _ hM.2.2.1) (C.2.2.2.2.1 _ hM.2.2.2) (Nat.le_trans h1 C.2.2.2.2.2.2.2.2.2.1) (by have := C.2.2.2.2.2.2.2.2.2.2.1; omega) C.2.2.2.2.2.2.2.2.2.2.2.1 C.2.2.2.2.2.2.2.2.2.2.2.2.1 hd (k ls H locs hl hR hS)
theorem gx_mmin {w : gWd} {g : gCx} {cc : ByteArray} {Ts : List Cond} {own : String} {nL fr lo : Nat} (C : gC w g cc Ts own nL fr lo) {h : gHp} {pc : Nat} {lv : List (Nat × Value)} {st : List Value} {x y : Int32} {index : Nat} (hM : gM4 Ts own index Lib.Math.min.name Lib.Math.min.code) (h1 : 1 ≤ fr) (h2 : 21 ≤ lo) (hW : (st.map fun v => v.category).sum ≤ 8) (hd : decode cc pc = .ok (.invokestatic index, 3)) (k : gX w g nL h (pc + 3) lv (.int (if y < x then y else x) :: st)) : gX w g nL h pc lv (.int y :: .int x :: st) := by
  obtain ⟨l, D, cA, sh, b0, adK, adV, fz⟩ := w
  obtain ⟨p, e, R, s, m, args, below, meth, c, ce, sl, Q⟩ := g
  intro ls H locs hl hR hS
  exact va_mmin C.1 C.2.1 (C.2.2.1.trans hl.1.symm) C.2.2.2.1 (C.2.2.2.2.1 _ hM.1) (C.2.2.2.2.1 _ hM.2.1) (C.2.2.2.2.1 _ hM.2.2.1) (C.2.2.2.2.1 _ hM.2.2.2) (Nat.le_trans h1 C.2.2.2.2.2.2.2.2.2.1) (by have := C.2.2.2.2.2.2.2.2.2.2.1; omega) C.2.2.2.2.2.2.2.2.2.2.2.1 C.2.2.2.2.2.2.2.2.2.2.2.2.1 hd (k ls H locs hl hR hS)
theorem gx_ldc {w : gWd} {g : gCx} {cc : ByteArray} {Ts : List Cond} {own : String} {nL fr lo : Nat} (C : gC w g cc Ts own nL fr lo) {h : gHp} {pc : Nat} {lv : List (Nat × Value)} {st : List Value} {index : Nat} {v : Int32} (hc : Jvm.Cond.constant own index v ∈ Ts) (hd : decode cc pc = .ok (.ldc index, 2)) (k : gX w g nL h (pc + 2) lv (.int v :: st)) : gX w g nL h pc lv st := by
  obtain ⟨l, D, cA, sh, b0, adK, adV, fz⟩ := w
  obtain ⟨p, e, R, s, m, args, below, meth, c, ce, sl, Q⟩ := g
  intro ls H locs hl hR hS
  exact lv_ldc C.1 C.2.1 C.2.2.2.1 (C.2.2.2.2.1 _ hc) hd (k ls H locs hl hR hS)
theorem gx_ldc_w {w : gWd} {g : gCx} {cc : ByteArray} {Ts : List Cond} {own : String} {nL fr lo : Nat} (C : gC w g cc Ts own nL fr lo) {h : gHp} {pc : Nat} {lv : List (Nat × Value)} {st : List Value} {index : Nat} {v : Int32} (hc : Jvm.Cond.constant own index v ∈ Ts) (hd : decode cc pc = .ok (.ldc_w index, 3)) (k : gX w g nL h (pc + 3) lv (.int v :: st)) : gX w g nL h pc lv st := by
  obtain ⟨l, D, cA, sh, b0, adK, adV, fz⟩ := w
  obtain ⟨p, e, R, s, m, args, below, meth, c, ce, sl, Q⟩ := g
  intro ls H locs hl hR hS
  exact lv_ldcw C.1 C.2.1 C.2.2.2.1 (C.2.2.2.2.1 _ hc) hd (k ls H locs hl hR hS)
/-- the cell of a String constant, by its place -/
abbrev gAK (w : gWd) : Nat → Nat := w.2.2.2.2.2.1
abbrev gAV (w : gWd) : Nat → Nat := w.2.2.2.2.2.2.1
theorem gx_ldcS {w : gWd} {g : gCx} {cc : ByteArray} {Ts : List Cond} {own : String} {nL fr lo : Nat} (C : gC w g cc Ts own nL fr lo) {h : gHp} {pc : Nat} {lv : List (Nat × Value)} {st : List Value} {index : Nat} (i : Nat) (hi : i < 6) (hown : own = RX1) (hix : gSidx.getD i 0 = index) (hd : decode cc pc = .ok (.ldc index, 2)) (k : gX w g nL h (pc + 2) lv (.ref (gAK w i) :: st)) : gX w g nL h pc lv st := by
  obtain ⟨l, D, cA, sh, b0, adK, adV, fz⟩ := w
  obtain ⟨p, e, R, s, m, args, below, meth, c, ce, sl, Q⟩ := g
  intro ls H locs hl hR hS
  subst hown
  subst hix
  exact va_ldcS C.1 C.2.1 C.2.2.2.1 (C.2.2.2.2.2.2.2.2.2.2.2.2.2.2.1 i hi) hd (k ls H locs hl hR hS)
theorem gx_callVS {w : gWd} {g : gCx} {cc : ByteArray} {Ts : List Cond} {own : String} {nL fr lo : Nat} (C : gC w g cc Ts own nL fr lo) {h : gHp} {pc : Nat} {lv : List (Nat × Value)} {st : List Value} {y : MethodName} {bytes : ByteArray} {maxL index : Nat} {ret : Option FieldType} {ws ws' : List Cond} {rm : Room} {i : Nat} (n : Nat) (As : List Value) {v : Option Value} {h' : gHp} (hM : gMet w y ws rm (.ref (gAK w i) :: As) h v h') (hG : GoodIn Ts (wsV own index RJ0 y ws)) (hw : ws = Cond.code y bytes maxL ret :: ws') (hrc : rm.cells = 0) (hrs : rm.slots = 0) (hy : y.cls = RJ0 ∧ y.cls ≠ "java/lang/invoke/MethodHandle" ∧ y.cls ≠ "java/lang/invoke/VarHandle" ∧ (parseMethodDescriptor y.desc).map (fun d => d.parameters.length) = some n) (hr1 : rm.frames + 1 ≤ fr) (hr2 : 8 + (maxL + 11) + rm.locals ≤ lo)
    (hi : i < 6) (hn : As.length = n) {stk : List Value} (hstk : stk = As.reverse ++ .ref (gAK w i) :: st) (hW : (st.map fun v => v.category).sum ≤ 8) (hd : decode cc pc = .ok (.invokevirtual index, 3)) (k : gX w g nL h' (pc + 3) lv (v.toList ++ st)) : gX w g nL h pc lv stk := by
  obtain ⟨l, D, cA, sh, b0, adK, adV, fz⟩ := w
  obtain ⟨p, e, R, s, m, args, below, meth, c, ce, sl, Q⟩ := g
  intro ls H locs hl hR hS
  have hS0 := C.2.2.2.2.2.2.2.1
  have hr : va_Run p l e R s m args below meth c H locs ce sl 0 0 (F0 m pc ls stk) st ((fun _ st oc t => gQc (l, D, cA, sh, b0, adK, adV, fz) v h' st oc t) (.ref (adK i) :: As).toArray) (fun q => b0 ≤ q) :=
    va_runV (C := RJ0) (b := adK i) (As := As) (rest := st) ⟨C.1, C.2.1, C.2.2.1, C.2.2.2.1, C.2.2.2.2.1⟩ hM (cwV n C.2.2.2.2.1 hG hw hrc hrs hy ⟨Nat.le_trans hr1 C.2.2.2.2.2.2.2.2.2.1, Nat.le_trans hr2 C.2.2.2.2.2.2.2.2.2.2.1⟩) ⟨gPre_blind _ h _, vk_recv C.2.2.2.2.2.2.2.2.2.2.2.2.2.1 hi hS, fun U hU hW => ⟨rfl, by rw [hU]; exact hR, va_K.moved hW.alike C.2.2.2.2.2.1, gNs.warm hW C.2.2.2.2.2.2.1, by rw [hU]; exact Nat.le_trans hS0 hS.1, C.2.2.2.2.2.2.2.2.1, gSt.warm hW (fun q h1 h2 => by rw [hU]; exact hS.2.1 q h1 h2) C.2.2.2.2.2.2.2.2.2.2.2.2.2⟩⟩ rfl hn hl.1 hstk (lv_room hW) hd ⟨C.2.2.2.2.2.2.2.2.2.2.2.1, C.2.2.2.2.2.2.2.2.2.2.2.2.1⟩
  intro T hT X
  obtain ⟨v1, st₀, t, T', L, h0, X', hL, e1, e2, ⟨hv, hR1, hF1⟩, hgo⟩ := hr T hT X
  cases hv
  rw [← e1] at hR1
  have hz : H.size ≤ T'.heap.size := by rw [e1, ← h0]; exact hF1.1
  have hu : ∀ q : Nat, q < H.size → ¬ b0 ≤ q → T'.heap[q]? = H[q]? := fun q h1 h2 => by rw [e1, ← h0]; exact hF1.2 q (by rw [h0]; exact h1) h2
  obtain ⟨t2, a1, b1⟩ := k ls T'.heap (locs ++ L) hl hR1 ⟨Nat.le_trans hS.1 hz, fun q h1 h2 => by rw [hu q (Nat.lt_of_lt_of_le h1 hS.1) h2]; exact hS.2.1 q h1 h2, fun q hq => by
    rcases List.mem_append.mp hq with q1 | q1
    · exact hS.2.2 q q1
    · exact hL q q1⟩ T' rfl X'
  exact ⟨t2, hgo t2 a1, b1⟩
theorem gx_callVS1 {w : gWd} {g : gCx} {cc : ByteArray} {Ts : List Cond} {own : String} {nL fr lo : Nat} (C : gC w g cc Ts own nL fr lo) {h : gHp} {pc : Nat} {lv : List (Nat × Value)} {st : List Value} {y : MethodName} {bytes : ByteArray} {maxL index : Nat} {ret : Option FieldType} {ws ws' : List Cond} {rm : Room} {i : Nat} (n : Nat) (As : List Value) {v : Value} {h' : gHp} (hM : gMet w y ws rm (.ref (gAK w i) :: As) h (some v) h') (hG : GoodIn Ts (wsV own index RJ0 y ws)) (hw : ws = Cond.code y bytes maxL ret :: ws') (hrc : rm.cells = 0) (hrs : rm.slots = 0) (hy : y.cls = RJ0 ∧ y.cls ≠ "java/lang/invoke/MethodHandle" ∧ y.cls ≠ "java/lang/invoke/VarHandle" ∧ (parseMethodDescriptor y.desc).map (fun d => d.parameters.length) = some n) (hr1 : rm.frames + 1 ≤ fr) (hr2 : 8 + (maxL + 11) + rm.locals ≤ lo)
    (hi : i < 6) (hn : As.length = n) {stk : List Value} (hstk : stk = As.reverse ++ .ref (gAK w i) :: st) (hW : (st.map fun v => v.category).sum ≤ 8) (hd : decode cc pc = .ok (.invokevirtual index, 3)) (k : gX w g nL h' (pc + 3) lv (v :: st)) : gX w g nL h pc lv stk := gx_callVS C n As hM hG hw hrc hrs hy hr1 hr2 hi hn hstk hW hd k
end
section
def gNf : Nat → Nat := fun _ => 0
def is_X2 (w : gWd) (a : Nat) : Prop := gsh w a = some (.inl (2, [.inl 1, .inl 1]))
theorem is_X2_sh {w : gWd} {a : Nat} (F : is_X2 w a) : gsh w a = some (.inl (2, [.inl 1, .inl 1])) := F
def is_X4 (w : gWd) (a : Nat) : Prop := gsh w a = some (.inl (4, [.inr (a + 1), .inl 0])) ∧ gsh w (a + 1) = some (.inr (2, 40, gNf))
theorem is_X4_sh {w : gWd} {a : Nat} (F : is_X4 w a) : gsh w a = some (.inl (4, [.inr (a + 1), .inl 0])) := F.1
theorem is_X4_characters {w : gWd} {a : Nat} (F : is_X4 w a) : gsh w (a + 1) = some (.inr (2, 40, gNf)) := F.2
def is_X5 (w : gWd) (a : Nat) : Prop := gsh w a = some (.inl (5, [.inr (a + 1), .inr (a + 2), .inr (a + 3), .inr (a + 4), .inl 0])) ∧ gsh w (a + 1) = some (.inr (0, 11, gNf)) ∧ gsh w (a + 2) = some (.inr (0, 11, gNf)) ∧ gsh w (a + 3) = some (.inr (0, 11, gNf)) ∧ gsh w (a + 4) = some (.inr (0, 6, gNf))
theorem is_X5_sh {w : gWd} {a : Nat} (F : is_X5 w a) : gsh w a = some (.inl (5, [.inr (a + 1), .inr (a + 2), .inr (a + 3), .inr (a + 4), .inl 0])) := F.1
theorem is_X5_kind {w : gWd} {a : Nat} (F : is_X5 w a) : gsh w (a + 1) = some (.inr (0, 11, gNf)) := F.2.1
theorem is_X5_around {w : gWd} {a : Nat} (F : is_X5 w a) : gsh w (a + 2) = some (.inr (0, 11, gNf)) := F.2.2.1
theorem is_X5_letter {w : gWd} {a : Nat} (F : is_X5 w a) : gsh w (a + 3) = some (.inr (0, 11, gNf)) := F.2.2.2.1
theorem is_X5_partOfArm {w : gWd} {a : Nat} (F : is_X5 w a) : gsh w (a + 4) = some (.inr (0, 6, gNf)) := F.2.2.2.2
def is_X7 (w : gWd) (a : Nat) : Prop := gsh w a = some (.inl (7, [.inr (a + 1), .inr (a + 2), .inr (a + 3), .inl 0])) ∧ gsh w (a + 1) = some (.inr (1, 20, gNf)) ∧ gsh w (a + 2) = some (.inr (1, 20, gNf)) ∧ gsh w (a + 3) = some (.inr (0, 20, gNf))
theorem is_X7_sh {w : gWd} {a : Nat} (F : is_X7 w a) : gsh w a = some (.inl (7, [.inr (a + 1), .inr (a + 2), .inr (a + 3), .inl 0])) := F.1
theorem is_X7_upper {w : gWd} {a : Nat} (F : is_X7 w a) : gsh w (a + 1) = some (.inr (1, 20, gNf)) := F.2.1
theorem is_X7_lower {w : gWd} {a : Nat} (F : is_X7 w a) : gsh w (a + 2) = some (.inr (1, 20, gNf)) := F.2.2.1
theorem is_X7_times {w : gWd} {a : Nat} (F : is_X7 w a) : gsh w (a + 3) = some (.inr (0, 20, gNf)) := F.2.2.2
def is_X8 (w : gWd) (a : Nat) : Prop := gsh w a = some (.inl (8, [.inr (a + 1), .inr (a + 6), .inr (a + 10), .inr (a + 11), .inr (a + 12), .inl 0, .inl 0, .inl 0])) ∧ is_X5 w (a + 1) ∧ is_X7 w (a + 6) ∧ gsh w (a + 10) = some (.inr (0, 6, gNf)) ∧ gsh w (a + 11) = some (.inr (0, 6, gNf)) ∧ gsh w (a + 12) = some (.inr (3, 11, gNf))
theorem is_X8_sh {w : gWd} {a : Nat} (F : is_X8 w a) : gsh w a = some (.inl (8, [.inr (a + 1), .inr (a + 6), .inr (a + 10), .inr (a + 11), .inr (a + 12), .inl 0, .inl 0, .inl 0])) := F.1
theorem is_X8_network {w : gWd} {a : Nat} (F : is_X8 w a) : is_X5 w (a + 1) := F.2.1
theorem is_X8_notes {w : gWd} {a : Nat} (F : is_X8 w a) : is_X7 w (a + 6) := F.2.2.1
theorem is_X8_armValue {w : gWd} {a : Nat} (F : is_X8 w a) : gsh w (a + 10) = some (.inr (0, 6, gNf)) := F.2.2.2.1
theorem is_X8_armState {w : gWd} {a : Nat} (F : is_X8 w a) : gsh w (a + 11) = some (.inr (0, 6, gNf)) := F.2.2.2.2.1
theorem is_X8_isFolded {w : gWd} {a : Nat} (F : is_X8 w a) : gsh w (a + 12) = some (.inr (3, 11, gNf)) := F.2.2.2.2.2
def is_X3 (w : gWd) (a : Nat) : Prop := gsh w a = some (.inl (3, [.inr (a + 1), .inl 0, .inl 0])) ∧ gsh w (a + 1) = some (.inr (5, 5, fun i => a + 2 + 13 * i)) ∧ (∀ i : Nat, i < 5 → is_X8 w (a + 2 + 13 * i))
theorem is_X3_sh {w : gWd} {a : Nat} (F : is_X3 w a) : gsh w a = some (.inl (3, [.inr (a + 1), .inl 0, .inl 0])) := F.1
theorem is_X3_states {w : gWd} {a : Nat} (F : is_X3 w a) : gsh w (a + 1) = some (.inr (5, 5, fun i => a + 2 + 13 * i)) := F.2.1
theorem is_X3_states_at {w : gWd} {a : Nat} (F : is_X3 w a) {i : Int32} (hi : gIn i 5) : is_X8 w (a + 2 + 13 * gN i) := F.2.2 (gN i) (Nat.not_le.mp fun q => hi (Or.inr q))
def is_X6 (w : gWd) (a : Nat) : Prop := gsh w a = some (.inl (6, [.inr (a + 1), .inr (a + 2), .inl 0])) ∧ gsh w (a + 1) = some (.inr (0, 41, gNf)) ∧ gsh w (a + 2) = some (.inr (0, 41, gNf))
theorem is_X6_sh {w : gWd} {a : Nat} (F : is_X6 w a) : gsh w a = some (.inl (6, [.inr (a + 1), .inr (a + 2), .inl 0])) := F.1
theorem is_X6_pieces {w : gWd} {a : Nat} (F : is_X6 w a) : gsh w (a + 1) = some (.inr (0, 41, gNf)) := F.2.1
theorem is_X6_links {w : gWd} {a : Nat} (F : is_X6 w a) : gsh w (a + 2) = some (.inr (0, 41, gNf)) := F.2.2
def is_X1 (w : gWd) (a : Nat) : Prop := gsh w a = some (.inl (1, [.inl 0, .inl 0, .inl 0]))
theorem is_X1_sh {w : gWd} {a : Nat} (F : is_X1 w a) : gsh w a = some (.inl (1, [.inl 0, .inl 0, .inl 0])) := F
def is_X0 (w : gWd) (a : Nat) : Prop := gsh w a = some (.inl (0, [.inr (a + 1), .inr (a + 2), .inr (a + 3), .inr (a + 4), .inr (a + 5)])) ∧ gsh w (a + 1) = some (.inr (4, 11, fun i => a + 6 + 2 * i)) ∧ (∀ i : Nat, i < 11 → is_X2 w (a + 6 + 2 * i)) ∧ gsh w (a + 2) = some (.inr (4, 11, fun i => a + 7 + 2 * i)) ∧ (∀ i : Nat, i < 11 → is_X2 w (a + 7 + 2 * i)) ∧ is_X2 w (a + 3) ∧ is_X2 w (a + 4) ∧ is_X2 w (a + 5)
theorem is_X0_sh {w : gWd} {a : Nat} (F : is_X0 w a) : gsh w a = some (.inl (0, [.inr (a + 1), .inr (a + 2), .inr (a + 3), .inr (a + 4), .inr (a + 5)])) := F.1
theorem is_X0_ohms {w : gWd} {a : Nat} (F : is_X0 w a) : gsh w (a + 1) = some (.inr (4, 11, fun i => a + 6 + 2 * i)) := F.2.1
theorem is_X0_ohms_at {w : gWd} {a : Nat} (F : is_X0 w a) {i : Int32} (hi : gIn i 11) : is_X2 w (a + 6 + 2 * gN i) := F.2.2.1 (gN i) (Nat.not_le.mp fun q => hi (Or.inr q))
theorem is_X0_volts {w : gWd} {a : Nat} (F : is_X0 w a) : gsh w (a + 2) = some (.inr (4, 11, fun i => a + 7 + 2 * i)) := F.2.2.2.1
theorem is_X0_volts_at {w : gWd} {a : Nat} (F : is_X0 w a) {i : Int32} (hi : gIn i 11) : is_X2 w (a + 7 + 2 * gN i) := F.2.2.2.2.1 (gN i) (Nat.not_le.mp fun q => hi (Or.inr q))
theorem is_X0_sum {w : gWd} {a : Nat} (F : is_X0 w a) : is_X2 w (a + 3) := F.2.2.2.2.2.1
theorem is_X0_share {w : gWd} {a : Nat} (F : is_X0 w a) : is_X2 w (a + 4) := F.2.2.2.2.2.2.1
theorem is_X0_unloaded {w : gWd} {a : Nat} (F : is_X0 w a) : is_X2 w (a + 5) := F.2.2.2.2.2.2.2
def is_X9 (w : gWd) (a : Nat) : Prop := gsh w a = some (.inl (9, [.inr (a + 1), .inr (a + 3), .inr (a + 16), .inr (a + 29), .inr (a + 42), .inr (a + 109), .inr (a + 112), .inr (a + 113), .inr (a + 141), .inl 0])) ∧ is_X4 w (a + 1) ∧ is_X8 w (a + 3) ∧ is_X8 w (a + 16) ∧ is_X8 w (a + 29) ∧ is_X3 w (a + 42) ∧ is_X6 w (a + 109) ∧ is_X1 w (a + 112) ∧ is_X0 w (a + 113) ∧ is_X2 w (a + 141)
theorem is_X9_sh {w : gWd} {a : Nat} (F : is_X9 w a) : gsh w a = some (.inl (9, [.inr (a + 1), .inr (a + 3), .inr (a + 16), .inr (a + 29), .inr (a + 42), .inr (a + 109), .inr (a + 112), .inr (a + 113), .inr (a + 141), .inl 0])) := F.1
theorem is_X9_text {w : gWd} {a : Nat} (F : is_X9 w a) : is_X4 w (a + 1) := F.2.1
theorem is_X9_now {w : gWd} {a : Nat} (F : is_X9 w a) : is_X8 w (a + 3) := F.2.2.1
theorem is_X9_snapshot {w : gWd} {a : Nat} (F : is_X9 w a) : is_X8 w (a + 16) := F.2.2.2.1
theorem is_X9_trial {w : gWd} {a : Nat} (F : is_X9 w a) : is_X8 w (a + 29) := F.2.2.2.2.1
theorem is_X9_history {w : gWd} {a : Nat} (F : is_X9 w a) : is_X3 w (a + 42) := F.2.2.2.2.2.1
theorem is_X9_reader {w : gWd} {a : Nat} (F : is_X9 w a) : is_X6 w (a + 109) := F.2.2.2.2.2.2.1
theorem is_X9_command {w : gWd} {a : Nat} (F : is_X9 w a) : is_X1 w (a + 112) := F.2.2.2.2.2.2.2.1
theorem is_X9_circuit {w : gWd} {a : Nat} (F : is_X9 w a) : is_X0 w (a + 113) := F.2.2.2.2.2.2.2.2.1
theorem is_X9_wanted {w : gWd} {a : Nat} (F : is_X9 w a) : is_X2 w (a + 141) := F.2.2.2.2.2.2.2.2.2
def is_X10 (w : gWd) (a : Nat) : Prop := gsh w a = some (.inl (10, [.inr (a + 1), .inr (a + 2), .inl 0, .inr (a + 3), .inl 0, .inl 0, .inr (a + 4), .inl 0, .inl 0, .inr (a + 5), .inr (a + 6), .inl 0, .inr (a + 7), .inr (a + 8), .inl 0, .inl 0, .inl 0, .inl 1, .inl 1, .inr (a + 9), .inr (a + 10), .inl 1, .inl 1, .inl 0, .inr (a + 11), .inr (a + 12)])) ∧ gsh w (a + 1) = some (.inr (1, 141, gNf)) ∧ gsh w (a + 2) = some (.inr (1, 705, gNf)) ∧ gsh w (a + 3) = some (.inr (1, 141, gNf)) ∧ gsh w (a + 4) = some (.inr (2, 40, gNf)) ∧ gsh w (a + 5) = some (.inr (0, 60, gNf)) ∧ gsh w (a + 6) = some (.inr (0, 12, gNf)) ∧ gsh w (a + 7) = some (.inr (0, 42, gNf)) ∧ gsh w (a + 8) = some (.inr (0, 42, gNf)) ∧ gsh w (a + 9) = some (.inr (1, 11, gNf)) ∧ gsh w (a + 10) = some (.inr (1, 11, gNf)) ∧ gsh w (a + 11) = some (.inr (1, 11, gNf)) ∧ gsh w (a + 12) = some (.inr (1, 11, gNf))
theorem is_X10_sh {w : gWd} {a : Nat} (F : is_X10 w a) : gsh w a = some (.inl (10, [.inr (a + 1), .inr (a + 2), .inl 0, .inr (a + 3), .inl 0, .inl 0, .inr (a + 4), .inl 0, .inl 0, .inr (a + 5), .inr (a + 6), .inl 0, .inr (a + 7), .inr (a + 8), .inl 0, .inl 0, .inl 0, .inl 1, .inl 1, .inr (a + 9), .inr (a + 10), .inl 1, .inl 1, .inl 0, .inr (a + 11), .inr (a + 12)])) := F.1
theorem is_X10_now {w : gWd} {a : Nat} (F : is_X10 w a) : gsh w (a + 1) = some (.inr (1, 141, gNf)) := F.2.1
theorem is_X10_history {w : gWd} {a : Nat} (F : is_X10 w a) : gsh w (a + 2) = some (.inr (1, 705, gNf)) := F.2.2.1
theorem is_X10_slot {w : gWd} {a : Nat} (F : is_X10 w a) : gsh w (a + 3) = some (.inr (1, 141, gNf)) := F.2.2.2.1
theorem is_X10_text {w : gWd} {a : Nat} (F : is_X10 w a) : gsh w (a + 4) = some (.inr (2, 40, gNf)) := F.2.2.2.2.1
theorem is_X10_read {w : gWd} {a : Nat} (F : is_X10 w a) : gsh w (a + 5) = some (.inr (0, 60, gNf)) := F.2.2.2.2.2.1
theorem is_X10_pile {w : gWd} {a : Nat} (F : is_X10 w a) : gsh w (a + 6) = some (.inr (0, 12, gNf)) := F.2.2.2.2.2.2.1
theorem is_X10_pieces {w : gWd} {a : Nat} (F : is_X10 w a) : gsh w (a + 7) = some (.inr (0, 42, gNf)) := F.2.2.2.2.2.2.2.1
theorem is_X10_links {w : gWd} {a : Nat} (F : is_X10 w a) : gsh w (a + 8) = some (.inr (0, 42, gNf)) := F.2.2.2.2.2.2.2.2.1
theorem is_X10_upper {w : gWd} {a : Nat} (F : is_X10 w a) : gsh w (a + 9) = some (.inr (1, 11, gNf)) := F.2.2.2.2.2.2.2.2.2.1
theorem is_X10_lower {w : gWd} {a : Nat} (F : is_X10 w a) : gsh w (a + 10) = some (.inr (1, 11, gNf)) := F.2.2.2.2.2.2.2.2.2.2.1
theorem is_X10_voltUp {w : gWd} {a : Nat} (F : is_X10 w a) : gsh w (a + 11) = some (.inr (1, 11, gNf)) := F.2.2.2.2.2.2.2.2.2.2.2.1
theorem is_X10_voltLow {w : gWd} {a : Nat} (F : is_X10 w a) : gsh w (a + 12) = some (.inr (1, 11, gNf)) := F.2.2.2.2.2.2.2.2.2.2.2.2
end
section
/-! java/lang/Integer.bitCount -/
def rm_J6_bitCount_0f7a4 : Room := { frames := 0, cells := 0, slots := 0, locals := 0 }
theorem hy_J6_bitCount_0f7a4 : yJ6_bitCount_0f7a4.cls ≠ "java/lang/invoke/MethodHandle" ∧ yJ6_bitCount_0f7a4.cls ≠ "java/lang/invoke/VarHandle" ∧ (parseMethodDescriptor yJ6_bitCount_0f7a4.desc).map (fun d => d.parameters.length) = some 1 := by decide +kernel
set_option maxRecDepth 100000 in
theorem D_J6_bitCount_0f7a4 : gDec cJ6_bitCount_0f7a4 [(0, (.iload_n 0, 1)), (1, (.iload_n 0, 1)), (2, (.iconst 1, 1)), (3, (.iushr, 1)), (4, (.ldc_w 265, 3)), (7, (.iand, 1)), (8, (.isub, 1)), (9, (.istore_n 0, 1)), (10, (.iload_n 0, 1)), (11, (.ldc_w 266, 3)), (14, (.iand, 1)), (15, (.iload_n 0, 1)), (16, (.iconst 2, 1)), (17, (.iushr, 1)), (18, (.ldc_w 266, 3)), (21, (.iand, 1)), (22, (.iadd, 1)), (23, (.istore_n 0, 1)), (24, (.iload_n 0, 1)), (25, (.iload_n 0, 1)), (26, (.iconst 4, 1)), (27, (.iushr, 1)), (28, (.iadd, 1)), (29, (.ldc_w 267, 3)), (32, (.iand, 1)), (33, (.istore_n 0, 1)), (34, (.iload_n 0, 1)), (35, (.iload_n 0, 1)), (36, (.bipush 8, 2)), (38, (.iushr, 1)), (39, (.iadd, 1)), (40, (.istore_n 0, 1)), (41, (.iload_n 0, 1)), (42, (.iload_n 0, 1)), (43, (.bipush 16, 2)), (45, (.iushr, 1)), (46, (.iadd, 1)), (47, (.istore_n 0, 1)), (48, (.iload_n 0, 1)), (49, (.bipush 63, 2)), (51, (.iand, 1)), (52, (.ireturn, 1))] = true := by decide +kernel
theorem lc_J6_bitCount_0f7a4_265 : Jvm.Cond.constant RJ6 265 1431655765 ∈ wsJ6_bitCount_0f7a4 := by decide +kernel
theorem lc_J6_bitCount_0f7a4_266 : Jvm.Cond.constant RJ6 266 858993459 ∈ wsJ6_bitCount_0f7a4 := by decide +kernel
theorem lc_J6_bitCount_0f7a4_267 : Jvm.Cond.constant RJ6 267 252645135 ∈ wsJ6_bitCount_0f7a4 := by decide +kernel
def f_J6_bitCount_0f7a4 (x0 : Int32) (h : gHp) : Option (Int32) := some ((((((((x0 - (((x0.toUInt32 >>> ((1 : Int32).toUInt32 &&& Int32.toUInt32 31)).toInt32) &&& 1431655765)) &&& 858993459) + ((((x0 - (((x0.toUInt32 >>> ((1 : Int32).toUInt32 &&& Int32.toUInt32 31)).toInt32) &&& 1431655765)).toUInt32 >>> ((2 : Int32).toUInt32 &&& Int32.toUInt32 31)).toInt32) &&& 858993459)) + (((((x0 - (((x0.toUInt32 >>> ((1 : Int32).toUInt32 &&& Int32.toUInt32 31)).toInt32) &&& 1431655765)) &&& 858993459) + ((((x0 - (((x0.toUInt32 >>> ((1 : Int32).toUInt32 &&& Int32.toUInt32 31)).toInt32) &&& 1431655765)).toUInt32 >>> ((2 : Int32).toUInt32 &&& Int32.toUInt32 31)).toInt32) &&& 858993459)).toUInt32 >>> ((4 : Int32).toUInt32 &&& Int32.toUInt32 31)).toInt32)) &&& 252645135) + (((((((x0 - (((x0.toUInt32 >>> ((1 : Int32).toUInt32 &&& Int32.toUInt32 31)).toInt32) &&& 1431655765)) &&& 858993459) + ((((x0 - (((x0.toUInt32 >>> ((1 : Int32).toUInt32 &&& Int32.toUInt32 31)).toInt32) &&& 1431655765)).toUInt32 >>> ((2 : Int32).toUInt32 &&& Int32.toUInt32 31)).toInt32) &&& 858993459)) + (((((x0 - (((x0.toUInt32 >>> ((1 : Int32).toUInt32 &&& Int32.toUInt32 31)).toInt32) &&& 1431655765)) &&& 858993459) + ((((x0 - (((x0.toUInt32 >>> ((1 : Int32).toUInt32 &&& Int32.toUInt32 31)).toInt32) &&& 1431655765)).toUInt32 >>> ((2 : Int32).toUInt32 &&& Int32.toUInt32 31)).toInt32) &&& 858993459)).toUInt32 >>> ((4 : Int32).toUInt32 &&& Int32.toUInt32 31)).toInt32)) &&& 252645135).toUInt32 >>> ((8 : Int32).toUInt32 &&& Int32.toUInt32 31)).toInt32)) + ((((((((x0 - (((x0.toUInt32 >>> ((1 : Int32).toUInt32 &&& Int32.toUInt32 31)).toInt32) &&& 1431655765)) &&& 858993459) + ((((x0 - (((x0.toUInt32 >>> ((1 : Int32).toUInt32 &&& Int32.toUInt32 31)).toInt32) &&& 1431655765)).toUInt32 >>> ((2 : Int32).toUInt32 &&& Int32.toUInt32 31)).toInt32) &&& 858993459)) + (((((x0 - (((x0.toUInt32 >>> ((1 : Int32).toUInt32 &&& Int32.toUInt32 31)).toInt32) &&& 1431655765)) &&& 858993459) + ((((x0 - (((x0.toUInt32 >>> ((1 : Int32).toUInt32 &&& Int32.toUInt32 31)).toInt32) &&& 1431655765)).toUInt32 >>> ((2 : Int32).toUInt32 &&& Int32.toUInt32 31)).toInt32) &&& 858993459)).toUInt32 >>> ((4 : Int32).toUInt32 &&& Int32.toUInt32 31)).toInt32)) &&& 252645135) + (((((((x0 - (((x0.toUInt32 >>> ((1 : Int32).toUInt32 &&& Int32.toUInt32 31)).toInt32) &&& 1431655765)) &&& 858993459) + ((((x0 - (((x0.toUInt32 >>> ((1 : Int32).toUInt32 &&& Int32.toUInt32 31)).toInt32) &&& 1431655765)).toUInt32 >>> ((2 : Int32).toUInt32 &&& Int32.toUInt32 31)).toInt32) &&& 858993459)) + (((((x0 - (((x0.toUInt32 >>> ((1 : Int32).toUInt32 &&& Int32.toUInt32 31)).toInt32) &&& 1431655765)) &&& 858993459) + ((((x0 - (((x0.toUInt32 >>> ((1 : Int32).toUInt32 &&& Int32.toUInt32 31)).toInt32) &&& 1431655765)).toUInt32 >>> ((2 : Int32).toUInt32 &&& Int32.toUInt32 31)).toInt32) &&& 858993459)).toUInt32 >>> ((4 : Int32).toUInt32 &&& Int32.toUInt32 31)).toInt32)) &&& 252645135).toUInt32 >>> ((8 : Int32).toUInt32 &&& Int32.toUInt32 31)).toInt32)).toUInt32 >>> ((16 : Int32).toUInt32 &&& Int32.toUInt32 31)).toInt32)) &&& 63)
set_option maxRecDepth 20000 in
set_option maxHeartbeats 4000000 in
theorem m_J6_bitCount_0f7a4 (w : gWd) (h : gHp) (x0 : Int32) {o : Int32} (hF : f_J6_bitCount_0f7a4 x0 h = some o) : gMet w yJ6_bitCount_0f7a4 wsJ6_bitCount_0f7a4 rm_J6_bitCount_0f7a4 [.int x0] h (some (.int o)) h := by
  refine gMet_of (cc := cJ6_bitCount_0f7a4) (maxL := 1) (ret := (some .int)) (fr := 0) (lo := 0) (own := RJ6) [(0, .int x0)] (by decide) rfl rfl (Nat.le_of_ble_eq_true rfl) rfl (Nat.le_refl _) (Nat.le_refl _) (fun g C E => ?_)
  rw [f_J6_bitCount_0f7a4] at hF
  refine gx_iload_n C 0 (gDec_at D_J6_bitCount_0f7a4 0 rfl) rfl rfl ?_
  refine gx_iload_n C 0 (gDec_at D_J6_bitCount_0f7a4 1 rfl) rfl rfl ?_
  refine gx_iconst C (v := 1) (gDec_at D_J6_bitCount_0f7a4 2 rfl) (by decide) ?_
  refine gx_iushr C (gDec_at D_J6_bitCount_0f7a4 3 rfl) ?_
  refine gx_ldc_w C (v := 1431655765) lc_J6_bitCount_0f7a4_265 (gDec_at D_J6_bitCount_0f7a4 4 rfl) ?_
  refine gx_iand C (gDec_at D_J6_bitCount_0f7a4 5 rfl) ?_
  refine gx_isub C (gDec_at D_J6_bitCount_0f7a4 6 rfl) ?_
  refine gx_istore_n C (lv' := [(0, .int (x0 - (((x0.toUInt32 >>> ((1 : Int32).toUInt32 &&& Int32.toUInt32 31)).toInt32) &&& 1431655765)))]) (gDec_at D_J6_bitCount_0f7a4 7 rfl) rfl (Nat.le_of_ble_eq_true rfl) rfl ?_
  refine gx_iload_n C 0 (gDec_at D_J6_bitCount_0f7a4 8 rfl) rfl rfl ?_
  refine gx_ldc_w C (v := 858993459) lc_J6_bitCount_0f7a4_266 (gDec_at D_J6_bitCount_0f7a4 9 rfl) ?_
  refine gx_iand C (gDec_at D_J6_bitCount_0f7a4 10 rfl) ?_
  refine gx_iload_n C 0 (gDec_at D_J6_bitCount_0f7a4 11 rfl) rfl rfl ?_
  refine gx_iconst C (v := 2) (gDec_at D_J6_bitCount_0f7a4 12 rfl) (by decide) ?_
  refine gx_iushr C (gDec_at D_J6_bitCount_0f7a4 13 rfl) ?_
  refine gx_ldc_w C (v := 858993459) lc_J6_bitCount_0f7a4_266 (gDec_at D_J6_bitCount_0f7a4 14 rfl) ?_
  refine gx_iand C (gDec_at D_J6_bitCount_0f7a4 15 rfl) ?_
  refine gx_iadd C (gDec_at D_J6_bitCount_0f7a4 16 rfl) ?_
  refine gx_istore_n C (lv' := [(0, .int (((x0 - (((x0.toUInt32 >>> ((1 : Int32).toUInt32 &&& Int32.toUInt32 31)).toInt32) &&& 1431655765)) &&& 858993459) + ((((x0 - (((x0.toUInt32 >>> ((1 : Int32).toUInt32 &&& Int32.toUInt32 31)).toInt32) &&& 1431655765)).toUInt32 >>> ((2 : Int32).toUInt32 &&& Int32.toUInt32 31)).toInt32) &&& 858993459)))]) (gDec_at D_J6_bitCount_0f7a4 17 rfl) rfl (Nat.le_of_ble_eq_true rfl) rfl ?_
  refine gx_iload_n C 0 (gDec_at D_J6_bitCount_0f7a4 18 rfl) rfl rfl ?_
  refine gx_iload_n C 0 (gDec_at D_J6_bitCount_0f7a4 19 rfl) rfl rfl ?_
  refine gx_iconst C (v := 4) (gDec_at D_J6_bitCount_0f7a4 20 rfl) (by decide) ?_
  refine gx_iushr C (gDec_at D_J6_bitCount_0f7a4 21 rfl) ?_
  refine gx_iadd C (gDec_at D_J6_bitCount_0f7a4 22 rfl) ?_
  refine gx_ldc_w C (v := 252645135) lc_J6_bitCount_0f7a4_267 (gDec_at D_J6_bitCount_0f7a4 23 rfl) ?_
  refine gx_iand C (gDec_at D_J6_bitCount_0f7a4 24 rfl) ?_
  refine gx_istore_n C (lv' := [(0, .int (((((x0 - (((x0.toUInt32 >>> ((1 : Int32).toUInt32 &&& Int32.toUInt32 31)).toInt32) &&& 1431655765)) &&& 858993459) + ((((x0 - (((x0.toUInt32 >>> ((1 : Int32).toUInt32 &&& Int32.toUInt32 31)).toInt32) &&& 1431655765)).toUInt32 >>> ((2 : Int32).toUInt32 &&& Int32.toUInt32 31)).toInt32) &&& 858993459)) + (((((x0 - (((x0.toUInt32 >>> ((1 : Int32).toUInt32 &&& Int32.toUInt32 31)).toInt32) &&& 1431655765)) &&& 858993459) + ((((x0 - (((x0.toUInt32 >>> ((1 : Int32).toUInt32 &&& Int32.toUInt32 31)).toInt32) &&& 1431655765)).toUInt32 >>> ((2 : Int32).toUInt32 &&& Int32.toUInt32 31)).toInt32) &&& 858993459)).toUInt32 >>> ((4 : Int32).toUInt32 &&& Int32.toUInt32 31)).toInt32)) &&& 252645135))]) (gDec_at D_J6_bitCount_0f7a4 25 rfl) rfl (Nat.le_of_ble_eq_true rfl) rfl ?_
  refine gx_iload_n C 0 (gDec_at D_J6_bitCount_0f7a4 26 rfl) rfl rfl ?_
  refine gx_iload_n C 0 (gDec_at D_J6_bitCount_0f7a4 27 rfl) rfl rfl ?_
  refine gx_bipush C (v := 8) (gDec_at D_J6_bitCount_0f7a4 28 rfl) (by decide) ?_
  refine gx_iushr C (gDec_at D_J6_bitCount_0f7a4 29 rfl) ?_
  refine gx_iadd C (gDec_at D_J6_bitCount_0f7a4 30 rfl) ?_
  refine gx_istore_n C (lv' := [(0, .int ((((((x0 - (((x0.toUInt32 >>> ((1 : Int32).toUInt32 &&& Int32.toUInt32 31)).toInt32) &&& 1431655765)) &&& 858993459) + ((((x0 - (((x0.toUInt32 >>> ((1 : Int32).toUInt32 &&& Int32.toUInt32 31)).toInt32) &&& 1431655765)).toUInt32 >>> ((2 : Int32).toUInt32 &&& Int32.toUInt32 31)).toInt32) &&& 858993459)) + (((((x0 - (((x0.toUInt32 >>> ((1 : Int32).toUInt32 &&& Int32.toUInt32 31)).toInt32) &&& 1431655765)) &&& 858993459) + ((((x0 - (((x0.toUInt32 >>> ((1 : Int32).toUInt32 &&& Int32.toUInt32 31)).toInt32) &&& 1431655765)).toUInt32 >>> ((2 : Int32).toUInt32 &&& Int32.toUInt32 31)).toInt32) &&& 858993459)).toUInt32 >>> ((4 : Int32).toUInt32 &&& Int32.toUInt32 31)).toInt32)) &&& 252645135) + (((((((x0 - (((x0.toUInt32 >>> ((1 : Int32).toUInt32 &&& Int32.toUInt32 31)).toInt32) &&& 1431655765)) &&& 858993459) + ((((x0 - (((x0.toUInt32 >>> ((1 : Int32).toUInt32 &&& Int32.toUInt32 31)).toInt32) &&& 1431655765)).toUInt32 >>> ((2 : Int32).toUInt32 &&& Int32.toUInt32 31)).toInt32) &&& 858993459)) + (((((x0 - (((x0.toUInt32 >>> ((1 : Int32).toUInt32 &&& Int32.toUInt32 31)).toInt32) &&& 1431655765)) &&& 858993459) + ((((x0 - (((x0.toUInt32 >>> ((1 : Int32).toUInt32 &&& Int32.toUInt32 31)).toInt32) &&& 1431655765)).toUInt32 >>> ((2 : Int32).toUInt32 &&& Int32.toUInt32 31)).toInt32) &&& 858993459)).toUInt32 >>> ((4 : Int32).toUInt32 &&& Int32.toUInt32 31)).toInt32)) &&& 252645135).toUInt32 >>> ((8 : Int32).toUInt32 &&& Int32.toUInt32 31)).toInt32)))]) (gDec_at D_J6_bitCount_0f7a4 31 rfl) rfl (Nat.le_of_ble_eq_true rfl) rfl ?_
  refine gx_iload_n C 0 (gDec_at D_J6_bitCount_0f7a4 32 rfl) rfl rfl ?_
  refine gx_iload_n C 0 (gDec_at D_J6_bitCount_0f7a4 33 rfl) rfl rfl ?_
  refine gx_bipush C (v := 16) (gDec_at D_J6_bitCount_0f7a4 34 rfl) (by decide) ?_
  refine gx_iushr C (gDec_at D_J6_bitCount_0f7a4 35 rfl) ?_
  refine gx_iadd C (gDec_at D_J6_bitCount_0f7a4 36 rfl) ?_
  refine gx_istore_n C (lv' := [(0, .int (((((((x0 - (((x0.toUInt32 >>> ((1 : Int32).toUInt32 &&& Int32.toUInt32 31)).toInt32) &&& 1431655765)) &&& 858993459) + ((((x0 - (((x0.toUInt32 >>> ((1 : Int32).toUInt32 &&& Int32.toUInt32 31)).toInt32) &&& 1431655765)).toUInt32 >>> ((2 : Int32).toUInt32 &&& Int32.toUInt32 31)).toInt32) &&& 858993459)) + (((((x0 - (((x0.toUInt32 >>> ((1 : Int32).toUInt32 &&& Int32.toUInt32 31)).toInt32) &&& 1431655765)) &&& 858993459) + ((((x0 - (((x0.toUInt32 >>> ((1 : Int32).toUInt32 &&& Int32.toUInt32 31)).toInt32) &&& 1431655765)).toUInt32 >>> ((2 : Int32).toUInt32 &&& Int32.toUInt32 31)).toInt32) &&& 858993459)).toUInt32 >>> ((4 : Int32).toUInt32 &&& Int32.toUInt32 31)).toInt32)) &&& 252645135) + (((((((x0 - (((x0.toUInt32 >>> ((1 : Int32).toUInt32 &&& Int32.toUInt32 31)).toInt32) &&& 1431655765)) &&& 858993459) + ((((x0 - (((x0.toUInt32 >>> ((1 : Int32).toUInt32 &&& Int32.toUInt32 31)).toInt32) &&& 1431655765)).toUInt32 >>> ((2 : Int32).toUInt32 &&& Int32.toUInt32 31)).toInt32) &&& 858993459)) + (((((x0 - (((x0.toUInt32 >>> ((1 : Int32).toUInt32 &&& Int32.toUInt32 31)).toInt32) &&& 1431655765)) &&& 858993459) + ((((x0 - (((x0.toUInt32 >>> ((1 : Int32).toUInt32 &&& Int32.toUInt32 31)).toInt32) &&& 1431655765)).toUInt32 >>> ((2 : Int32).toUInt32 &&& Int32.toUInt32 31)).toInt32) &&& 858993459)).toUInt32 >>> ((4 : Int32).toUInt32 &&& Int32.toUInt32 31)).toInt32)) &&& 252645135).toUInt32 >>> ((8 : Int32).toUInt32 &&& Int32.toUInt32 31)).toInt32)) + ((((((((x0 - (((x0.toUInt32 >>> ((1 : Int32).toUInt32 &&& Int32.toUInt32 31)).toInt32) &&& 1431655765)) &&& 858993459) + ((((x0 - (((x0.toUInt32 >>> ((1 : Int32).toUInt32 &&& Int32.toUInt32 31)).toInt32) &&& 1431655765)).toUInt32 >>> ((2 : Int32).toUInt32 &&& Int32.toUInt32 31)).toInt32) &&& 858993459)) + (((((x0 - (((x0.toUInt32 >>> ((1 : Int32).toUInt32 &&& Int32.toUInt32 31)).toInt32) &&& 1431655765)) &&& 858993459) + ((((x0 - (((x0.toUInt32 >>> ((1 : Int32).toUInt32 &&& Int32.toUInt32 31)).toInt32) &&& 1431655765)).toUInt32 >>> ((2 : Int32).toUInt32 &&& Int32.toUInt32 31)).toInt32) &&& 858993459)).toUInt32 >>> ((4 : Int32).toUInt32 &&& Int32.toUInt32 31)).toInt32)) &&& 252645135) + (((((((x0 - (((x0.toUInt32 >>> ((1 : Int32).toUInt32 &&& Int32.toUInt32 31)).toInt32) &&& 1431655765)) &&& 858993459) + ((((x0 - (((x0.toUInt32 >>> ((1 : Int32).toUInt32 &&& Int32.toUInt32 31)).toInt32) &&& 1431655765)).toUInt32 >>> ((2 : Int32).toUInt32 &&& Int32.toUInt32 31)).toInt32) &&& 858993459)) + (((((x0 - (((x0.toUInt32 >>> ((1 : Int32).toUInt32 &&& Int32.toUInt32 31)).toInt32) &&& 1431655765)) &&& 858993459) + ((((x0 - (((x0.toUInt32 >>> ((1 : Int32).toUInt32 &&& Int32.toUInt32 31)).toInt32) &&& 1431655765)).toUInt32 >>> ((2 : Int32).toUInt32 &&& Int32.toUInt32 31)).toInt32) &&& 858993459)).toUInt32 >>> ((4 : Int32).toUInt32 &&& Int32.toUInt32 31)).toInt32)) &&& 252645135).toUInt32 >>> ((8 : Int32).toUInt32 &&& Int32.toUInt32 31)).toInt32)).toUInt32 >>> ((16 : Int32).toUInt32 &&& Int32.toUInt32 31)).toInt32)))]) (gDec_at D_J6_bitCount_0f7a4 37 rfl) rfl (Nat.le_of_ble_eq_true rfl) rfl ?_
  refine gx_iload_n C 0 (gDec_at D_J6_bitCount_0f7a4 38 rfl) rfl rfl ?_
  refine gx_bipush C (v := 63) (gDec_at D_J6_bitCount_0f7a4 39 rfl) (by decide) ?_
  refine gx_iand C (gDec_at D_J6_bitCount_0f7a4 40 rfl) ?_
  cases hF
  exact gx_iret C E (gDec_at D_J6_bitCount_0f7a4 41 rfl)
/-! LadderBench$Fraction.commonDivisor -/
def rm_X2_commonDivisor : Room := { frames := 0, cells := 0, slots := 0, locals := 0 }
theorem hy_X2_commonDivisor : yX2_commonDivisor.cls ≠ "java/lang/invoke/MethodHandle" ∧ yX2_commonDivisor.cls ≠ "java/lang/invoke/VarHandle" ∧ (parseMethodDescriptor yX2_commonDivisor.desc).map (fun d => d.parameters.length) = some 2 := by decide +kernel
set_option maxRecDepth 100000 in
theorem D_X2_commonDivisor : gDec cX2_commonDivisor [(0, (.lload_n 0, 1)), (1, (.lconst 0, 1)), (2, (.lcmp, 1)), (3, (.ifCond .ge 8, 3)), (6, (.lload_n 0, 1)), (7, (.lneg, 1)), (8, (.goto 4, 3)), (11, (.lload_n 0, 1)), (12, (.lstore 4, 2)), (14, (.lload_n 2, 1)), (15, (.lconst 0, 1)), (16, (.lcmp, 1)), (17, (.ifCond .ge 8, 3)), (20, (.lload_n 2, 1)), (21, (.lneg, 1)), (22, (.goto 4, 3)), (25, (.lload_n 2, 1)), (26, (.lstore 6, 2)), (28, (.iconst 0, 1)), (29, (.istore 8, 2)), (31, (.iload 8, 2)), (33, (.sipush 1000, 3)), (36, (.if_icmp .ge 31, 3)), (39, (.lload 6, 2)), (41, (.lconst 0, 1)), (42, (.lcmp, 1)), (43, (.ifCond .eq 24, 3)), (46, (.lload 4, 2)), (48, (.lload 6, 2)), (50, (.lrem, 1)), (51, (.lstore 9, 2)), (53, (.lload 6, 2)), (55, (.lstore 4, 2)), (57, (.lload 9, 2)), (59, (.lstore 6, 2)), (61, (.iinc 8 1, 3)), (64, (.goto (-33), 3)), (67, (.lload 4, 2)), (69, (.lconst 1, 1)), (70, (.lcmp, 1)), (71, (.ifCond .ge 7, 3)), (74, (.lconst 1, 1)), (75, (.goto 5, 3)), (78, (.lload 4, 2)), (80, (.lreturn, 1))] = true := by decide +kernel
def f_X2_commonDivisor_31 (h : gHp) : Nat → Int64 → Int64 → Int32 → Option (Int64)
  | 0, _, _, _ => none
  | n + 1, l4, l6, x8 => if 1000 ≤ x8 then some l4 else if l6 = 0 then some l4 else if l6 = 0 then none else f_X2_commonDivisor_31 h n l6 (l4 - l4 / l6 * l6) (x8 + 1)
set_option maxRecDepth 20000 in
set_option maxHeartbeats 4000000 in
theorem w_X2_commonDivisor_31 {w : gWd} {g : gCx} (C : gC w g cX2_commonDivisor wsX2_commonDivisor RX2 11 0 0) (h : gHp)  {o : Int64} (hk : gX w g 11 h 67 [(4, .long o)] []) : ∀ (n : Nat) (l4 : Int64) (l6 : Int64) (x8 : Int32), f_X2_commonDivisor_31 h n l4 l6 x8 = some o → gX w g 11 h 31 [(4, .long l4), (6, .long l6), (8, .int x8)] [] := by
  intro n
  induction n with
  | zero => intro _ _ _ hF; cases hF
  | succ n ih =>
    intro l4 l6 x8 hF
    rw [f_X2_commonDivisor_31] at hF
    refine gx_iload C 2 (gDec_at D_X2_commonDivisor 20 rfl) rfl ?_
    refine gx_sipush C (v := 1000) (gDec_at D_X2_commonDivisor 21 rfl) (by decide) ?_
    refine gx_icmp_ge C 67 (gDec_at D_X2_commonDivisor 22 rfl) (by decide) (fun c => ?_) (fun c => ?_)
    · replace hF := gPos c hF
      cases hF
      exact gx_sub [0] rfl hk
    · replace hF := gNeg c hF
      refine gx_lload C 1 (gDec_at D_X2_commonDivisor 23 rfl) rfl ?_
      refine gx_lconst C (v := 0) (gDec_at D_X2_commonDivisor 24 rfl) (by decide) ?_
      refine gx_lcmp_eq C 67 (gDec_at D_X2_commonDivisor 25 rfl) (gDec_at D_X2_commonDivisor 26 rfl) (by decide) (fun c => ?_) (fun c => ?_)
      · replace hF := gPos c hF
        cases hF
        exact gx_sub [0] rfl hk
      · replace hF := gNeg c hF
        refine gx_lload C 0 (gDec_at D_X2_commonDivisor 27 rfl) rfl ?_
        refine gx_lload C 1 (gDec_at D_X2_commonDivisor 28 rfl) rfl ?_
        obtain ⟨z7, hF⟩ := gGn hF
        refine gx_lrem C (gDec_at D_X2_commonDivisor 29 rfl) z7 ?_
        refine gx_lstore C (lv' := [(9, .long (l4 - l4 / l6 * l6)), (4, .long l4), (6, .long l6), (8, .int x8)]) (gDec_at D_X2_commonDivisor 30 rfl) (Nat.le_of_ble_eq_true rfl) rfl ?_
        refine gx_lload C 2 (gDec_at D_X2_commonDivisor 31 rfl) rfl ?_
        refine gx_lstore C (lv' := [(4, .long l6), (9, .long (l4 - l4 / l6 * l6)), (6, .long l6), (8, .int x8)]) (gDec_at D_X2_commonDivisor 32 rfl) (Nat.le_of_ble_eq_true rfl) rfl ?_
        refine gx_lload C 1 (gDec_at D_X2_commonDivisor 33 rfl) rfl ?_
        refine gx_lstore C (lv' := [(6, .long (l4 - l4 / l6 * l6)), (4, .long l6), (9, .long (l4 - l4 / l6 * l6)), (8, .int x8)]) (gDec_at D_X2_commonDivisor 34 rfl) (Nat.le_of_ble_eq_true rfl) rfl ?_
        refine gx_iinc C (j := 3) (v := x8 + 1) (lv' := [(8, .int (x8 + 1)), (6, .long (l4 - l4 / l6 * l6)), (4, .long l6), (9, .long (l4 - l4 / l6 * l6))]) (gDec_at D_X2_commonDivisor 35 rfl) rfl (by rfl) (Nat.le_of_ble_eq_true rfl) rfl ?_
        refine gx_goto C 31 (gDec_at D_X2_commonDivisor 36 rfl) (by decide) ?_
        exact gx_sub [2, 1, 0] rfl (ih l6 (l4 - l4 / l6 * l6) (x8 + 1) hF)
def f_X2_commonDivisor (l0 : Int64) (l2 : Int64) (h : gHp) : Option (Int64) := (if 0 ≤ l0 then some l0 else some (-l0)).bind fun v1 => (if 0 ≤ l2 then some l2 else some (-l2)).bind fun v4 => (f_X2_commonDivisor_31 h gFuel v1 v4 0).bind fun v8 => if 1 ≤ v8 then some v8 else some 1
set_option maxRecDepth 20000 in
set_option maxHeartbeats 4000000 in
theorem m_X2_commonDivisor (w : gWd) (h : gHp) (l0 : Int64) (l2 : Int64) {o : Int64} (hF : f_X2_commonDivisor l0 l2 h = some o) : gMet w yX2_commonDivisor wsX2_commonDivisor rm_X2_commonDivisor [.long l0, .long l2] h (some (.long o)) h := by
  refine gMet_of (cc := cX2_commonDivisor) (maxL := 11) (ret := (some .long)) (fr := 0) (lo := 0) (own := RX2) [(0, .long l0), (2, .long l2)] (by decide) rfl rfl (Nat.le_of_ble_eq_true rfl) rfl (Nat.le_refl _) (Nat.le_refl _) (fun g C E => ?_)
  rw [f_X2_commonDivisor] at hF
  refine gx_lload_n C 0 (gDec_at D_X2_commonDivisor 0 rfl) rfl rfl ?_
  refine gx_lconst C (v := 0) (gDec_at D_X2_commonDivisor 1 rfl) (by decide) ?_
  obtain ⟨v1, hv2, hF⟩ := gBind hF
  have k3 : gX w g 11 h 12 [(2, .long l2)] (.long v1 :: []) := by
    refine gx_lstore C (lv' := [(4, .long v1), (2, .long l2)]) (gDec_at D_X2_commonDivisor 8 rfl) (Nat.le_of_ble_eq_true rfl) rfl ?_
    refine gx_lload_n C 1 (gDec_at D_X2_commonDivisor 9 rfl) rfl rfl ?_
    refine gx_lconst C (v := 0) (gDec_at D_X2_commonDivisor 10 rfl) (by decide) ?_
    obtain ⟨v4, hv5, hF⟩ := gBind hF
    have k6 : gX w g 11 h 26 [(4, .long v1)] (.long v4 :: []) := by
      refine gx_lstore C (lv' := [(6, .long v4), (4, .long v1)]) (gDec_at D_X2_commonDivisor 17 rfl) (Nat.le_of_ble_eq_true rfl) rfl ?_
      refine gx_iconst C (v := 0) (gDec_at D_X2_commonDivisor 18 rfl) (by decide) ?_
      refine gx_istore C (lv' := [(8, .int 0), (6, .long v4), (4, .long v1)]) (gDec_at D_X2_commonDivisor 19 rfl) (Nat.le_of_ble_eq_true rfl) rfl ?_
      obtain ⟨v8, hv9, hF⟩ := gBind hF
      have k10 : gX w g 11 h 67 [(4, .long v8)] [] := by
        refine gx_lload C 0 (gDec_at D_X2_commonDivisor 37 rfl) rfl ?_
        refine gx_lconst C (v := 1) (gDec_at D_X2_commonDivisor 38 rfl) (by decide) ?_
        refine gx_lcmp_ge C 78 (gDec_at D_X2_commonDivisor 39 rfl) (gDec_at D_X2_commonDivisor 40 rfl) (by decide) (fun c => ?_) (fun c => ?_)
        · replace hF := gPos c hF
          refine gx_lload C 0 (gDec_at D_X2_commonDivisor 43 rfl) rfl ?_
          cases hF
          exact gx_lret C E (gDec_at D_X2_commonDivisor 44 rfl)
        · replace hF := gNeg c hF
          refine gx_lconst C (v := 1) (gDec_at D_X2_commonDivisor 41 rfl) (by decide) ?_
          refine gx_goto C 80 (gDec_at D_X2_commonDivisor 42 rfl) (by decide) ?_
          cases hF
          exact gx_lret C E (gDec_at D_X2_commonDivisor 44 rfl)
      exact gx_sub [2, 1, 0] rfl (w_X2_commonDivisor_31 C h k10 gFuel v1 v4 0 hv9)
    replace hF := hv5
    refine gx_lcmp_ge C 25 (gDec_at D_X2_commonDivisor 11 rfl) (gDec_at D_X2_commonDivisor 12 rfl) (by decide) (fun c => ?_) (fun c => ?_)
    · replace hF := gPos c hF
      refine gx_lload_n C 1 (gDec_at D_X2_commonDivisor 16 rfl) rfl rfl ?_
      cases hF
      exact gx_sub [0] rfl k6
    · replace hF := gNeg c hF
      refine gx_lload_n C 1 (gDec_at D_X2_commonDivisor 13 rfl) rfl rfl ?_
      refine gx_lneg C (gDec_at D_X2_commonDivisor 14 rfl) ?_
      refine gx_goto C 26 (gDec_at D_X2_commonDivisor 15 rfl) (by decide) ?_
      cases hF
      exact gx_sub [0] rfl k6
  replace hF := hv2
  refine gx_lcmp_ge C 11 (gDec_at D_X2_commonDivisor 2 rfl) (gDec_at D_X2_commonDivisor 3 rfl) (by decide) (fun c => ?_) (fun c => ?_)
  · replace hF := gPos c hF
    refine gx_lload_n C 0 (gDec_at D_X2_commonDivisor 7 rfl) rfl rfl ?_
    cases hF
    exact gx_sub [1] rfl k3
  · replace hF := gNeg c hF
    refine gx_lload_n C 0 (gDec_at D_X2_commonDivisor 4 rfl) rfl rfl ?_
    refine gx_lneg C (gDec_at D_X2_commonDivisor 5 rfl) ?_
    refine gx_goto C 12 (gDec_at D_X2_commonDivisor 6 rfl) (by decide) ?_
    cases hF
    exact gx_sub [1] rfl k3
/-! LadderBench$Fraction.put -/
def rm_X2_put : Room := { frames := 1, cells := 0, slots := 0, locals := 30 }
set_option maxRecDepth 20000 in
theorem ggX2_put_X2_commonDivisor : GoodIn wsX2_put wsX2_commonDivisor := goodIn_r _ [6] (by decide +kernel) (by decide +kernel)
set_option maxRecDepth 20000 in
theorem gX2_put_X2_commonDivisor : GoodIn wsX2_put (va_wsS RX2 18 yX2_commonDivisor wsX2_commonDivisor) := goodIn_app (goodIn_of _ (by decide +kernel)) ggX2_put_X2_commonDivisor
theorem hy_X2_put : yX2_put.cls = RX2 ∧ yX2_put.cls ≠ "java/lang/invoke/MethodHandle" ∧ yX2_put.cls ≠ "java/lang/invoke/VarHandle" ∧ (parseMethodDescriptor yX2_put.desc).map (fun d => d.parameters.length) = some 2 := by decide +kernel
set_option maxRecDepth 100000 in
theorem D_X2_put : gDec cX2_put [(0, (.lload_n 1, 1)), (1, (.lload_n 3, 1)), (2, (.invokestatic 18, 3)), (5, (.lstore 5, 2)), (7, (.aload_n 0, 1)), (8, (.lload_n 1, 1)), (9, (.lload 5, 2)), (11, (.ldiv, 1)), (12, (.putfield 9, 3)), (15, (.aload_n 0, 1)), (16, (.lload_n 3, 1)), (17, (.lload 5, 2)), (19, (.ldiv, 1)), (20, (.putfield 15, 3)), (23, (.return_, 1))] = true := by decide +kernel
set_option maxRecDepth 100000 in
theorem in_X2_put_X2 : ∀ x ∈ u_ws RX2 TX2 2, x ∈ wsX2_put := by decide +kernel
theorem flw_X2_put_9 : gFw wsX2_put RX2 9 2 0 .long := ⟨RX2, TX2, 2, tyX2, rfl, by decide, in_X2_put_X2, by decide +kernel, tyX2_ok, nmX2, rfl, by decide +kernel⟩
theorem flw_X2_put_15 : gFw wsX2_put RX2 15 2 1 .long := ⟨RX2, TX2, 2, tyX2, rfl, by decide, in_X2_put_X2, by decide +kernel, tyX2_ok, nmX2, rfl, by decide +kernel⟩
def f_X2_put (a0 : Nat) (l1 : Int64) (l3 : Int64) (h : gHp) : Option (gHp) := (f_X2_commonDivisor l1 l3 h).bind fun v2 => if v2 = 0 then none else if v2 = 0 then none else some (gsL (gsL h a0 0 (l1 / v2)) a0 1 (l3 / v2))
set_option maxRecDepth 20000 in
set_option maxHeartbeats 4000000 in
theorem m_X2_put (w : gWd) (h : gHp) {a0 : Nat} (A0 : is_X2 w a0) (l1 : Int64) (l3 : Int64) {o : gHp} (hF : f_X2_put a0 l1 l3 h = some o) : gMet w yX2_put wsX2_put rm_X2_put [.ref a0, .long l1, .long l3] h (none) o := by
  refine gMet_of (cc := cX2_put) (maxL := 7) (ret := none) (fr := 1) (lo := 30) (own := RX2) [(0, .ref a0), (1, .long l1), (3, .long l3)] (by decide) rfl rfl (Nat.le_of_ble_eq_true rfl) rfl (Nat.le_refl _) (Nat.le_refl _) (fun g C E => ?_)
  rw [f_X2_put] at hF
  refine gx_lload_n C 1 (gDec_at D_X2_put 0 rfl) rfl rfl ?_
  refine gx_lload_n C 2 (gDec_at D_X2_put 1 rfl) rfl rfl ?_
  obtain ⟨v2, hv1, hF⟩ := gBind hF
  refine gx_callS1 C (st := []) 2 [.long l1, .long l3] (m_X2_commonDivisor w h l1 l3 hv1) gX2_put_X2_commonDivisor rfl rfl rfl hy_X2_commonDivisor (Nat.le_of_ble_eq_true rfl) (Nat.le_of_ble_eq_true rfl) rfl rfl (Nat.le_of_ble_eq_true rfl) (gDec_at D_X2_put 2 rfl) ?_
  refine gx_lstore C (lv' := [(5, .long v2), (0, .ref a0), (1, .long l1), (3, .long l3)]) (gDec_at D_X2_put 3 rfl) (Nat.le_of_ble_eq_true rfl) rfl ?_
  refine gx_aload_n C 1 (gDec_at D_X2_put 4 rfl) rfl rfl ?_
  refine gx_lload_n C 2 (gDec_at D_X2_put 5 rfl) rfl rfl ?_
  refine gx_lload C 0 (gDec_at D_X2_put 6 rfl) rfl ?_
  obtain ⟨z3, hF⟩ := gGn hF
  refine gx_ldiv C (gDec_at D_X2_put 7 rfl) z3 ?_
  refine gx_putL C flw_X2_put_9 (is_X2_sh A0) rfl rfl rfl (gDec_at D_X2_put 8 rfl) ?_
  refine gx_aload_n C 1 (gDec_at D_X2_put 9 rfl) rfl rfl ?_
  refine gx_lload_n C 3 (gDec_at D_X2_put 10 rfl) rfl rfl ?_
  refine gx_lload C 0 (gDec_at D_X2_put 11 rfl) rfl ?_
  obtain ⟨z4, hF⟩ := gGn hF
  refine gx_ldiv C (gDec_at D_X2_put 12 rfl) z4 ?_
  refine gx_putL C flw_X2_put_15 (is_X2_sh A0) rfl rfl rfl (gDec_at D_X2_put 13 rfl) ?_
  cases hF
  exact gx_vret C E (gDec_at D_X2_put 14 rfl)
/-! LadderBench$Fraction.copy -/
def rm_X2_copy : Room := { frames := 0, cells := 0, slots := 0, locals := 0 }
theorem hy_X2_copy : yX2_copy.cls = RX2 ∧ yX2_copy.cls ≠ "java/lang/invoke/MethodHandle" ∧ yX2_copy.cls ≠ "java/lang/invoke/VarHandle" ∧ (parseMethodDescriptor yX2_copy.desc).map (fun d => d.parameters.length) = some 1 := by decide +kernel
set_option maxRecDepth 100000 in
theorem D_X2_copy : gDec cX2_copy [(0, (.aload_n 0, 1)), (1, (.aload_n 1, 1)), (2, (.getfield 9, 3)), (5, (.putfield 9, 3)), (8, (.aload_n 0, 1)), (9, (.aload_n 1, 1)), (10, (.getfield 15, 3)), (13, (.putfield 15, 3)), (16, (.return_, 1))] = true := by decide +kernel
set_option maxRecDepth 100000 in
theorem in_X2_copy_X2 : ∀ x ∈ u_ws RX2 TX2 2, x ∈ wsX2_copy := by decide +kernel
theorem fl_X2_copy_9 : gF wsX2_copy RX2 9 2 0 := ⟨RX2, TX2, 2, rfl, by decide, in_X2_copy_X2, by decide +kernel⟩
theorem flw_X2_copy_9 : gFw wsX2_copy RX2 9 2 0 .long := ⟨RX2, TX2, 2, tyX2, rfl, by decide, in_X2_copy_X2, by decide +kernel, tyX2_ok, nmX2, rfl, by decide +kernel⟩
theorem fl_X2_copy_15 : gF wsX2_copy RX2 15 2 1 := ⟨RX2, TX2, 2, rfl, by decide, in_X2_copy_X2, by decide +kernel⟩
theorem flw_X2_copy_15 : gFw wsX2_copy RX2 15 2 1 .long := ⟨RX2, TX2, 2, tyX2, rfl, by decide, in_X2_copy_X2, by decide +kernel, tyX2_ok, nmX2, rfl, by decide +kernel⟩
def f_X2_copy (a0 : Nat) (a1 : Nat) (h : gHp) : Option (gHp) := some (gsL (gsL h a0 0 (h.2 a1 0)) a0 1 ((gsL h a0 0 (h.2 a1 0)).2 a1 1))
set_option maxRecDepth 20000 in
set_option maxHeartbeats 4000000 in
theorem m_X2_copy (w : gWd) (h : gHp) {a0 : Nat} (A0 : is_X2 w a0) {a1 : Nat} (A1 : is_X2 w a1) {o : gHp} (hF : f_X2_copy a0 a1 h = some o) : gMet w yX2_copy wsX2_copy rm_X2_copy [.ref a0, .ref a1] h (none) o := by
  refine gMet_of (cc := cX2_copy) (maxL := 2) (ret := none) (fr := 0) (lo := 0) (own := RX2) [(0, .ref a0), (1, .ref a1)] (by decide) rfl rfl (Nat.le_of_ble_eq_true rfl) rfl (Nat.le_refl _) (Nat.le_refl _) (fun g C E => ?_)
  rw [f_X2_copy] at hF
  refine gx_aload_n C 0 (gDec_at D_X2_copy 0 rfl) rfl rfl ?_
  refine gx_aload_n C 1 (gDec_at D_X2_copy 1 rfl) rfl rfl ?_
  refine gx_getl C fl_X2_copy_9 (is_X2_sh A1) rfl (gDec_at D_X2_copy 2 rfl) ?_
  refine gx_putL C flw_X2_copy_9 (is_X2_sh A0) rfl rfl rfl (gDec_at D_X2_copy 3 rfl) ?_
  refine gx_aload_n C 0 (gDec_at D_X2_copy 4 rfl) rfl rfl ?_
  refine gx_aload_n C 1 (gDec_at D_X2_copy 5 rfl) rfl rfl ?_
  refine gx_getl C fl_X2_copy_15 (is_X2_sh A1) rfl (gDec_at D_X2_copy 6 rfl) ?_
  refine gx_putL C flw_X2_copy_15 (is_X2_sh A0) rfl rfl rfl (gDec_at D_X2_copy 7 rfl) ?_
  cases hF
  exact gx_vret C E (gDec_at D_X2_copy 8 rfl)
/-! LadderBench$Fraction.invert -/
def rm_X2_invert : Room := { frames := 0, cells := 0, slots := 0, locals := 0 }
theorem hy_X2_invert : yX2_invert.cls = RX2 ∧ yX2_invert.cls ≠ "java/lang/invoke/MethodHandle" ∧ yX2_invert.cls ≠ "java/lang/invoke/VarHandle" ∧ (parseMethodDescriptor yX2_invert.desc).map (fun d => d.parameters.length) = some 0 := by decide +kernel
set_option maxRecDepth 100000 in
theorem D_X2_invert : gDec cX2_invert [(0, (.aload_n 0, 1)), (1, (.getfield 9, 3)), (4, (.lstore_n 1, 1)), (5, (.aload_n 0, 1)), (6, (.aload_n 0, 1)), (7, (.getfield 15, 3)), (10, (.putfield 9, 3)), (13, (.aload_n 0, 1)), (14, (.lload_n 1, 1)), (15, (.putfield 15, 3)), (18, (.return_, 1))] = true := by decide +kernel
set_option maxRecDepth 100000 in
theorem in_X2_invert_X2 : ∀ x ∈ u_ws RX2 TX2 2, x ∈ wsX2_invert := by decide +kernel
theorem fl_X2_invert_9 : gF wsX2_invert RX2 9 2 0 := ⟨RX2, TX2, 2, rfl, by decide, in_X2_invert_X2, by decide +kernel⟩
theorem fl_X2_invert_15 : gF wsX2_invert RX2 15 2 1 := ⟨RX2, TX2, 2, rfl, by decide, in_X2_invert_X2, by decide +kernel⟩
theorem flw_X2_invert_9 : gFw wsX2_invert RX2 9 2 0 .long := ⟨RX2, TX2, 2, tyX2, rfl, by decide, in_X2_invert_X2, by decide +kernel, tyX2_ok, nmX2, rfl, by decide +kernel⟩
theorem flw_X2_invert_15 : gFw wsX2_invert RX2 15 2 1 .long := ⟨RX2, TX2, 2, tyX2, rfl, by decide, in_X2_invert_X2, by decide +kernel, tyX2_ok, nmX2, rfl, by decide +kernel⟩
def f_X2_invert (a0 : Nat) (h : gHp) : Option (gHp) := some (gsL (gsL h a0 0 (h.2 a0 1)) a0 1 (h.2 a0 0))
set_option maxRecDepth 20000 in
set_option maxHeartbeats 4000000 in
theorem m_X2_invert (w : gWd) (h : gHp) {a0 : Nat} (A0 : is_X2 w a0) {o : gHp} (hF : f_X2_invert a0 h = some o) : gMet w yX2_invert wsX2_invert rm_X2_invert [.ref a0] h (none) o := by
  refine gMet_of (cc := cX2_invert) (maxL := 3) (ret := none) (fr := 0) (lo := 0) (own := RX2) [(0, .ref a0)] (by decide) rfl rfl (Nat.le_of_ble_eq_true rfl) rfl (Nat.le_refl _) (Nat.le_refl _) (fun g C E => ?_)
  rw [f_X2_invert] at hF
  refine gx_aload_n C 0 (gDec_at D_X2_invert 0 rfl) rfl rfl ?_
  refine gx_getl C fl_X2_invert_9 (is_X2_sh A0) rfl (gDec_at D_X2_invert 1 rfl) ?_
  refine gx_lstore_n C (lv' := [(1, .long (h.2 a0 0)), (0, .ref a0)]) (gDec_at D_X2_invert 2 rfl) rfl (Nat.le_of_ble_eq_true rfl) rfl ?_
  refine gx_aload_n C 1 (gDec_at D_X2_invert 3 rfl) rfl rfl ?_
  refine gx_aload_n C 1 (gDec_at D_X2_invert 4 rfl) rfl rfl ?_
  refine gx_getl C fl_X2_invert_15 (is_X2_sh A0) rfl (gDec_at D_X2_invert 5 rfl) ?_
  refine gx_putL C flw_X2_invert_9 (is_X2_sh A0) rfl rfl rfl (gDec_at D_X2_invert 6 rfl) ?_
  refine gx_aload_n C 1 (gDec_at D_X2_invert 7 rfl) rfl rfl ?_
  refine gx_lload_n C 0 (gDec_at D_X2_invert 8 rfl) rfl rfl ?_
  refine gx_putL C flw_X2_invert_15 (is_X2_sh A0) rfl rfl rfl (gDec_at D_X2_invert 9 rfl) ?_
  cases hF
  exact gx_vret C E (gDec_at D_X2_invert 10 rfl)
/-! LadderBench$Fraction.add -/
def rm_X2_add : Room := { frames := 2, cells := 0, slots := 0, locals := 56 }
set_option maxRecDepth 20000 in
theorem ggX2_add_X2_commonDivisor : GoodIn wsX2_add wsX2_commonDivisor := goodIn_r _ [10] (by decide +kernel) (by decide +kernel)
set_option maxRecDepth 20000 in
theorem gX2_add_X2_commonDivisor : GoodIn wsX2_add (va_wsS RX2 18 yX2_commonDivisor wsX2_commonDivisor) := goodIn_app (goodIn_of _ (by decide +kernel)) ggX2_add_X2_commonDivisor
set_option maxRecDepth 20000 in
theorem ggX2_add_X2_put : GoodIn wsX2_add wsX2_put := goodIn_r _ [7, 2, 1, 8, 9, 6, 10, 11, 12] (by decide +kernel) (by decide +kernel)
set_option maxRecDepth 20000 in
theorem gX2_add_X2_put : GoodIn wsX2_add (wsV RX2 22 RX2 yX2_put wsX2_put) := goodIn_app (goodIn_of _ (by decide +kernel)) ggX2_add_X2_put
theorem hy_X2_add : yX2_add.cls = RX2 ∧ yX2_add.cls ≠ "java/lang/invoke/MethodHandle" ∧ yX2_add.cls ≠ "java/lang/invoke/VarHandle" ∧ (parseMethodDescriptor yX2_add.desc).map (fun d => d.parameters.length) = some 2 := by decide +kernel
set_option maxRecDepth 100000 in
theorem D_X2_add : gDec cX2_add [(0, (.aload_n 0, 1)), (1, (.getfield 15, 3)), (4, (.lconst 0, 1)), (5, (.lcmp, 1)), (6, (.ifCond .eq 12, 3)), (9, (.aload_n 1, 1)), (10, (.getfield 15, 3)), (13, (.lconst 0, 1)), (14, (.lcmp, 1)), (15, (.ifCond .ne 10, 3)), (18, (.aload_n 0, 1)), (19, (.lconst 1, 1)), (20, (.lconst 0, 1)), (21, (.invokevirtual 22, 3)), (24, (.return_, 1)), (25, (.aload_n 0, 1)), (26, (.getfield 15, 3)), (29, (.aload_n 1, 1)), (30, (.getfield 15, 3)), (33, (.invokestatic 18, 3)), (36, (.lstore_n 3, 1)), (37, (.aload_n 1, 1)), (38, (.getfield 15, 3)), (41, (.lload_n 3, 1)), (42, (.ldiv, 1)), (43, (.lstore 5, 2)), (45, (.aload_n 0, 1)), (46, (.getfield 15, 3)), (49, (.lload_n 3, 1)), (50, (.ldiv, 1)), (51, (.lstore 7, 2)), (53, (.aload_n 0, 1)), (54, (.aload_n 0, 1)), (55, (.getfield 9, 3)), (58, (.lload 5, 2)), (60, (.lmul, 1)), (61, (.iload_n 2, 1)), (62, (.i2l, 1)), (63, (.aload_n 1, 1)), (64, (.getfield 9, 3)), (67, (.lmul, 1)), (68, (.lload 7, 2)), (70, (.lmul, 1)), (71, (.ladd, 1)), (72, (.aload_n 0, 1)), (73, (.getfield 15, 3)), (76, (.lload 5, 2)), (78, (.lmul, 1)), (79, (.invokevirtual 22, 3)), (82, (.return_, 1))] = true := by decide +kernel
set_option maxRecDepth 100000 in
theorem in_X2_add_X2 : ∀ x ∈ u_ws RX2 TX2 2, x ∈ wsX2_add := by decide +kernel
theorem fl_X2_add_15 : gF wsX2_add RX2 15 2 1 := ⟨RX2, TX2, 2, rfl, by decide, in_X2_add_X2, by decide +kernel⟩
theorem fl_X2_add_9 : gF wsX2_add RX2 9 2 0 := ⟨RX2, TX2, 2, rfl, by decide, in_X2_add_X2, by decide +kernel⟩
def f_X2_add_18 (a0 : Nat) (h : gHp) : Option (gHp) := (f_X2_put a0 1 0 h).bind fun v2 => some v2
set_option maxRecDepth 20000 in
set_option maxHeartbeats 4000000 in
theorem w_X2_add_18 {w : gWd} {g : gCx} (C : gC w g cX2_add wsX2_add RX2 9 2 56) {a0 : Nat} (A0 : is_X2 w a0) (h : gHp)  {o : gHp}  (E : gEn w g none (none) o) (hF : f_X2_add_18 a0 h = some o) : gX w g 9 h 18 [(0, .ref a0)] ([]) := by
  rw [f_X2_add_18] at hF
  refine gx_aload_n C 0 (gDec_at D_X2_add 10 rfl) rfl rfl ?_
  refine gx_lconst C (v := 1) (gDec_at D_X2_add 11 rfl) (by decide) ?_
  refine gx_lconst C (v := 0) (gDec_at D_X2_add 12 rfl) (by decide) ?_
  obtain ⟨v2, hv1, hF⟩ := gBind hF
  refine gx_callV0 C (st := []) 2 [.long 1, .long 0] (m_X2_put w h A0 1 0 hv1) gX2_add_X2_put rfl rfl rfl hy_X2_put (Nat.le_of_ble_eq_true rfl) (Nat.le_of_ble_eq_true rfl) (is_X2_sh A0) rfl rfl rfl (Nat.le_of_ble_eq_true rfl) (gDec_at D_X2_add 13 rfl) ?_
  cases hF
  exact gx_vret C E (gDec_at D_X2_add 14 rfl)
def f_X2_add (a0 : Nat) (a1 : Nat) (x2 : Int32) (h : gHp) : Option (gHp) := if (h.2 a0 1) = 0 then f_X2_add_18 a0 h else if (h.2 a1 1) = 0 then f_X2_add_18 a0 h else (f_X2_commonDivisor (h.2 a0 1) (h.2 a1 1) h).bind fun v4 => if v4 = 0 then none else if v4 = 0 then none else (f_X2_put a0 (((h.2 a0 0) * ((h.2 a1 1) / v4)) + ((x2.toInt64 * (h.2 a1 0)) * ((h.2 a0 1) / v4))) ((h.2 a0 1) * ((h.2 a1 1) / v4)) h).bind fun v8 => some v8
set_option maxRecDepth 20000 in
set_option maxHeartbeats 4000000 in
theorem m_X2_add (w : gWd) (h : gHp) {a0 : Nat} (A0 : is_X2 w a0) {a1 : Nat} (A1 : is_X2 w a1) (x2 : Int32) {o : gHp} (hF : f_X2_add a0 a1 x2 h = some o) : gMet w yX2_add wsX2_add rm_X2_add [.ref a0, .ref a1, .int x2] h (none) o := by
  refine gMet_of (cc := cX2_add) (maxL := 9) (ret := none) (fr := 2) (lo := 56) (own := RX2) [(0, .ref a0), (1, .ref a1), (2, .int x2)] (by decide) rfl rfl (Nat.le_of_ble_eq_true rfl) rfl (Nat.le_refl _) (Nat.le_refl _) (fun g C E => ?_)
  rw [f_X2_add] at hF
  refine gx_aload_n C 0 (gDec_at D_X2_add 0 rfl) rfl rfl ?_
  refine gx_getl C fl_X2_add_15 (is_X2_sh A0) rfl (gDec_at D_X2_add 1 rfl) ?_
  refine gx_lconst C (v := 0) (gDec_at D_X2_add 2 rfl) (by decide) ?_
  refine gx_lcmp_eq C 18 (gDec_at D_X2_add 3 rfl) (gDec_at D_X2_add 4 rfl) (by decide) (fun c => ?_) (fun c => ?_)
  · replace hF := gPos c hF
    exact gx_sub [0] rfl (w_X2_add_18 C A0 h   E hF)
  · replace hF := gNeg c hF
    refine gx_aload_n C 1 (gDec_at D_X2_add 5 rfl) rfl rfl ?_
    refine gx_getl C fl_X2_add_15 (is_X2_sh A1) rfl (gDec_at D_X2_add 6 rfl) ?_
    refine gx_lconst C (v := 0) (gDec_at D_X2_add 7 rfl) (by decide) ?_
    refine gx_lcmp_ne C 25 (gDec_at D_X2_add 8 rfl) (gDec_at D_X2_add 9 rfl) (by decide) (fun c => ?_) (fun c => ?_)
    · replace hF := gNeg c hF
      refine gx_aload_n C 0 (gDec_at D_X2_add 15 rfl) rfl rfl ?_
      refine gx_getl C fl_X2_add_15 (is_X2_sh A0) rfl (gDec_at D_X2_add 16 rfl) ?_
      refine gx_aload_n C 1 (gDec_at D_X2_add 17 rfl) rfl rfl ?_
      refine gx_getl C fl_X2_add_15 (is_X2_sh A1) rfl (gDec_at D_X2_add 18 rfl) ?_
      obtain ⟨v4, hv3, hF⟩ := gBind hF
      refine gx_callS1 C (st := []) 2 [.long (h.2 a0 1), .long (h.2 a1 1)] (m_X2_commonDivisor w h (h.2 a0 1) (h.2 a1 1) hv3) gX2_add_X2_commonDivisor rfl rfl rfl hy_X2_commonDivisor (Nat.le_of_ble_eq_true rfl) (Nat.le_of_ble_eq_true rfl) rfl rfl (Nat.le_of_ble_eq_true rfl) (gDec_at D_X2_add 19 rfl) ?_
      refine gx_lstore_n C (lv' := [(3, .long v4), (0, .ref a0), (1, .ref a1), (2, .int x2)]) (gDec_at D_X2_add 20 rfl) rfl (Nat.le_of_ble_eq_true rfl) rfl ?_
      refine gx_aload_n C 2 (gDec_at D_X2_add 21 rfl) rfl rfl ?_
      refine gx_getl C fl_X2_add_15 (is_X2_sh A1) rfl (gDec_at D_X2_add 22 rfl) ?_
      refine gx_lload_n C 0 (gDec_at D_X2_add 23 rfl) rfl rfl ?_
      obtain ⟨z5, hF⟩ := gGn hF
      refine gx_ldiv C (gDec_at D_X2_add 24 rfl) z5 ?_
      refine gx_lstore C (lv' := [(5, .long ((h.2 a1 1) / v4)), (3, .long v4), (0, .ref a0), (1, .ref a1), (2, .int x2)]) (gDec_at D_X2_add 25 rfl) (Nat.le_of_ble_eq_true rfl) rfl ?_
      refine gx_aload_n C 2 (gDec_at D_X2_add 26 rfl) rfl rfl ?_
      refine gx_getl C fl_X2_add_15 (is_X2_sh A0) rfl (gDec_at D_X2_add 27 rfl) ?_
      refine gx_lload_n C 1 (gDec_at D_X2_add 28 rfl) rfl rfl ?_
      obtain ⟨z6, hF⟩ := gGn hF
      refine gx_ldiv C (gDec_at D_X2_add 29 rfl) z6 ?_
      refine gx_lstore C (lv' := [(7, .long ((h.2 a0 1) / v4)), (5, .long ((h.2 a1 1) / v4)), (3, .long v4), (0, .ref a0), (1, .ref a1), (2, .int x2)]) (gDec_at D_X2_add 30 rfl) (Nat.le_of_ble_eq_true rfl) rfl ?_
      refine gx_aload_n C 3 (gDec_at D_X2_add 31 rfl) rfl rfl ?_
      refine gx_aload_n C 3 (gDec_at D_X2_add 32 rfl) rfl rfl ?_
      refine gx_getl C fl_X2_add_9 (is_X2_sh A0) rfl (gDec_at D_X2_add 33 rfl) ?_
      refine gx_lload C 1 (gDec_at D_X2_add 34 rfl) rfl ?_
      refine gx_lmul C (gDec_at D_X2_add 35 rfl) ?_
      refine gx_iload_n C 5 (gDec_at D_X2_add 36 rfl) rfl rfl ?_
      refine gx_i2l C (gDec_at D_X2_add 37 rfl) ?_
      refine gx_aload_n C 4 (gDec_at D_X2_add 38 rfl) rfl rfl ?_
      refine gx_getl C fl_X2_add_9 (is_X2_sh A1) rfl (gDec_at D_X2_add 39 rfl) ?_
      refine gx_lmul C (gDec_at D_X2_add 40 rfl) ?_
      refine gx_lload C 0 (gDec_at D_X2_add 41 rfl) rfl ?_
      refine gx_lmul C (gDec_at D_X2_add 42 rfl) ?_
      refine gx_ladd C (gDec_at D_X2_add 43 rfl) ?_
      refine gx_aload_n C 3 (gDec_at D_X2_add 44 rfl) rfl rfl ?_
      refine gx_getl C fl_X2_add_15 (is_X2_sh A0) rfl (gDec_at D_X2_add 45 rfl) ?_
      refine gx_lload C 1 (gDec_at D_X2_add 46 rfl) rfl ?_
      refine gx_lmul C (gDec_at D_X2_add 47 rfl) ?_
      obtain ⟨v8, hv7, hF⟩ := gBind hF
      refine gx_callV0 C (st := []) 2 [.long (((h.2 a0 0) * ((h.2 a1 1) / v4)) + ((x2.toInt64 * (h.2 a1 0)) * ((h.2 a0 1) / v4))), .long ((h.2 a0 1) * ((h.2 a1 1) / v4))] (m_X2_put w h A0 (((h.2 a0 0) * ((h.2 a1 1) / v4)) + ((x2.toInt64 * (h.2 a1 0)) * ((h.2 a0 1) / v4))) ((h.2 a0 1) * ((h.2 a1 1) / v4)) hv7) gX2_add_X2_put rfl rfl rfl hy_X2_put (Nat.le_of_ble_eq_true rfl) (Nat.le_of_ble_eq_true rfl) (is_X2_sh A0) rfl rfl rfl (Nat.le_of_ble_eq_true rfl) (gDec_at D_X2_add 48 rfl) ?_
      cases hF
      exact gx_vret C E (gDec_at D_X2_add 49 rfl)
    · replace hF := gPos c hF
      exact gx_sub [0] rfl (w_X2_add_18 C A0 h   E hF)
/-! LadderBench$Fraction.isInfinite -/
def rm_X2_isInfinite : Room := { frames := 0, cells := 0, slots := 0, locals := 0 }
theorem hy_X2_isInfinite : yX2_isInfinite.cls = RX2 ∧ yX2_isInfinite.cls ≠ "java/lang/invoke/MethodHandle" ∧ yX2_isInfinite.cls ≠ "java/lang/invoke/VarHandle" ∧ (parseMethodDescriptor yX2_isInfinite.desc).map (fun d => d.parameters.length) = some 0 := by decide +kernel
set_option maxRecDepth 100000 in
theorem D_X2_isInfinite : gDec cX2_isInfinite [(0, (.aload_n 0, 1)), (1, (.getfield 15, 3)), (4, (.lconst 0, 1)), (5, (.lcmp, 1)), (6, (.ifCond .ne 7, 3)), (9, (.iconst 1, 1)), (10, (.goto 4, 3)), (13, (.iconst 0, 1)), (14, (.ireturn, 1))] = true := by decide +kernel
set_option maxRecDepth 100000 in
theorem in_X2_isInfinite_X2 : ∀ x ∈ u_ws RX2 TX2 2, x ∈ wsX2_isInfinite := by decide +kernel
theorem fl_X2_isInfinite_15 : gF wsX2_isInfinite RX2 15 2 1 := ⟨RX2, TX2, 2, rfl, by decide, in_X2_isInfinite_X2, by decide +kernel⟩
def f_X2_isInfinite (a0 : Nat) (h : gHp) : Option (Bool) := if (h.2 a0 1) = 0 then some true else some false
set_option maxRecDepth 20000 in
set_option maxHeartbeats 4000000 in
theorem m_X2_isInfinite (w : gWd) (h : gHp) {a0 : Nat} (A0 : is_X2 w a0) {o : Bool} (hF : f_X2_isInfinite a0 h = some o) : gMet w yX2_isInfinite wsX2_isInfinite rm_X2_isInfinite [.ref a0] h (some (.int (gZ o))) h := by
  refine gMet_of (cc := cX2_isInfinite) (maxL := 1) (ret := (some .boolean)) (fr := 0) (lo := 0) (own := RX2) [(0, .ref a0)] (by decide) rfl rfl (Nat.le_of_ble_eq_true rfl) rfl (Nat.le_refl _) (Nat.le_refl _) (fun g C E => ?_)
  rw [f_X2_isInfinite] at hF
  refine gx_aload_n C 0 (gDec_at D_X2_isInfinite 0 rfl) rfl rfl ?_
  refine gx_getl C fl_X2_isInfinite_15 (is_X2_sh A0) rfl (gDec_at D_X2_isInfinite 1 rfl) ?_
  refine gx_lconst C (v := 0) (gDec_at D_X2_isInfinite 2 rfl) (by decide) ?_
  refine gx_lcmp_ne C 13 (gDec_at D_X2_isInfinite 3 rfl) (gDec_at D_X2_isInfinite 4 rfl) (by decide) (fun c => ?_) (fun c => ?_)
  · replace hF := gNeg c hF
    refine gx_iconst C (v := 0) (gDec_at D_X2_isInfinite 7 rfl) (by decide) ?_
    cases hF
    exact gx_zret (b := false) C E (gDec_at D_X2_isInfinite 8 rfl)
  · replace hF := gPos c hF
    refine gx_iconst C (v := 1) (gDec_at D_X2_isInfinite 5 rfl) (by decide) ?_
    refine gx_goto C 14 (gDec_at D_X2_isInfinite 6 rfl) (by decide) ?_
    cases hF
    exact gx_zret (b := true) C E (gDec_at D_X2_isInfinite 8 rfl)
/-! LadderBench$Fraction.isZero -/
def rm_X2_isZero : Room := { frames := 0, cells := 0, slots := 0, locals := 0 }
theorem hy_X2_isZero : yX2_isZero.cls = RX2 ∧ yX2_isZero.cls ≠ "java/lang/invoke/MethodHandle" ∧ yX2_isZero.cls ≠ "java/lang/invoke/VarHandle" ∧ (parseMethodDescriptor yX2_isZero.desc).map (fun d => d.parameters.length) = some 0 := by decide +kernel
set_option maxRecDepth 100000 in
theorem D_X2_isZero : gDec cX2_isZero [(0, (.aload_n 0, 1)), (1, (.getfield 9, 3)), (4, (.lconst 0, 1)), (5, (.lcmp, 1)), (6, (.ifCond .ne 7, 3)), (9, (.iconst 1, 1)), (10, (.goto 4, 3)), (13, (.iconst 0, 1)), (14, (.ireturn, 1))] = true := by decide +kernel
set_option maxRecDepth 100000 in
theorem in_X2_isZero_X2 : ∀ x ∈ u_ws RX2 TX2 2, x ∈ wsX2_isZero := by decide +kernel
theorem fl_X2_isZero_9 : gF wsX2_isZero RX2 9 2 0 := ⟨RX2, TX2, 2, rfl, by decide, in_X2_isZero_X2, by decide +kernel⟩
def f_X2_isZero (a0 : Nat) (h : gHp) : Option (Bool) := if (h.2 a0 0) = 0 then some true else some false
set_option maxRecDepth 20000 in
set_option maxHeartbeats 4000000 in
theorem m_X2_isZero (w : gWd) (h : gHp) {a0 : Nat} (A0 : is_X2 w a0) {o : Bool} (hF : f_X2_isZero a0 h = some o) : gMet w yX2_isZero wsX2_isZero rm_X2_isZero [.ref a0] h (some (.int (gZ o))) h := by
  refine gMet_of (cc := cX2_isZero) (maxL := 1) (ret := (some .boolean)) (fr := 0) (lo := 0) (own := RX2) [(0, .ref a0)] (by decide) rfl rfl (Nat.le_of_ble_eq_true rfl) rfl (Nat.le_refl _) (Nat.le_refl _) (fun g C E => ?_)
  rw [f_X2_isZero] at hF
  refine gx_aload_n C 0 (gDec_at D_X2_isZero 0 rfl) rfl rfl ?_
  refine gx_getl C fl_X2_isZero_9 (is_X2_sh A0) rfl (gDec_at D_X2_isZero 1 rfl) ?_
  refine gx_lconst C (v := 0) (gDec_at D_X2_isZero 2 rfl) (by decide) ?_
  refine gx_lcmp_ne C 13 (gDec_at D_X2_isZero 3 rfl) (gDec_at D_X2_isZero 4 rfl) (by decide) (fun c => ?_) (fun c => ?_)
  · replace hF := gNeg c hF
    refine gx_iconst C (v := 0) (gDec_at D_X2_isZero 7 rfl) (by decide) ?_
    cases hF
    exact gx_zret (b := false) C E (gDec_at D_X2_isZero 8 rfl)
  · replace hF := gPos c hF
    refine gx_iconst C (v := 1) (gDec_at D_X2_isZero 5 rfl) (by decide) ?_
    refine gx_goto C 14 (gDec_at D_X2_isZero 6 rfl) (by decide) ?_
    cases hF
    exact gx_zret (b := true) C E (gDec_at D_X2_isZero 8 rfl)
/-! LadderBench$Fraction.multiply -/
def rm_X2_multiply : Room := { frames := 1, cells := 0, slots := 0, locals := 30 }
set_option maxRecDepth 20000 in
theorem ggX2_multiply_X2_commonDivisor : GoodIn wsX2_multiply wsX2_commonDivisor := goodIn_r _ [6] (by decide +kernel) (by decide +kernel)
set_option maxRecDepth 20000 in
theorem gX2_multiply_X2_commonDivisor : GoodIn wsX2_multiply (va_wsS RX2 18 yX2_commonDivisor wsX2_commonDivisor) := goodIn_app (goodIn_of _ (by decide +kernel)) ggX2_multiply_X2_commonDivisor
theorem hy_X2_multiply : yX2_multiply.cls = RX2 ∧ yX2_multiply.cls ≠ "java/lang/invoke/MethodHandle" ∧ yX2_multiply.cls ≠ "java/lang/invoke/VarHandle" ∧ (parseMethodDescriptor yX2_multiply.desc).map (fun d => d.parameters.length) = some 1 := by decide +kernel
set_option maxRecDepth 100000 in
theorem D_X2_multiply : gDec cX2_multiply [(0, (.aload_n 0, 1)), (1, (.getfield 9, 3)), (4, (.aload_n 1, 1)), (5, (.getfield 15, 3)), (8, (.invokestatic 18, 3)), (11, (.lstore_n 2, 1)), (12, (.aload_n 1, 1)), (13, (.getfield 9, 3)), (16, (.aload_n 0, 1)), (17, (.getfield 15, 3)), (20, (.invokestatic 18, 3)), (23, (.lstore 4, 2)), (25, (.aload_n 0, 1)), (26, (.getfield 9, 3)), (29, (.lload_n 2, 1)), (30, (.ldiv, 1)), (31, (.aload_n 1, 1)), (32, (.getfield 9, 3)), (35, (.lload 4, 2)), (37, (.ldiv, 1)), (38, (.lmul, 1)), (39, (.lstore 6, 2)), (41, (.aload_n 0, 1)), (42, (.aload_n 0, 1)), (43, (.getfield 15, 3)), (46, (.lload 4, 2)), (48, (.ldiv, 1)), (49, (.aload_n 1, 1)), (50, (.getfield 15, 3)), (53, (.lload_n 2, 1)), (54, (.ldiv, 1)), (55, (.lmul, 1)), (56, (.putfield 15, 3)), (59, (.aload_n 0, 1)), (60, (.lload 6, 2)), (62, (.putfield 9, 3)), (65, (.return_, 1))] = true := by decide +kernel
set_option maxRecDepth 100000 in
theorem in_X2_multiply_X2 : ∀ x ∈ u_ws RX2 TX2 2, x ∈ wsX2_multiply := by decide +kernel
theorem fl_X2_multiply_9 : gF wsX2_multiply RX2 9 2 0 := ⟨RX2, TX2, 2, rfl, by decide, in_X2_multiply_X2, by decide +kernel⟩
theorem fl_X2_multiply_15 : gF wsX2_multiply RX2 15 2 1 := ⟨RX2, TX2, 2, rfl, by decide, in_X2_multiply_X2, by decide +kernel⟩
theorem flw_X2_multiply_15 : gFw wsX2_multiply RX2 15 2 1 .long := ⟨RX2, TX2, 2, tyX2, rfl, by decide, in_X2_multiply_X2, by decide +kernel, tyX2_ok, nmX2, rfl, by decide +kernel⟩
theorem flw_X2_multiply_9 : gFw wsX2_multiply RX2 9 2 0 .long := ⟨RX2, TX2, 2, tyX2, rfl, by decide, in_X2_multiply_X2, by decide +kernel, tyX2_ok, nmX2, rfl, by decide +kernel⟩
def f_X2_multiply (a0 : Nat) (a1 : Nat) (h : gHp) : Option (gHp) := (f_X2_commonDivisor (h.2 a0 0) (h.2 a1 1) h).bind fun v2 => (f_X2_commonDivisor (h.2 a1 0) (h.2 a0 1) h).bind fun v4 => if v2 = 0 then none else if v4 = 0 then none else if v4 = 0 then none else if v2 = 0 then none else some (gsL (gsL h a0 1 (((h.2 a0 1) / v4) * ((h.2 a1 1) / v2))) a0 0 (((h.2 a0 0) / v2) * ((h.2 a1 0) / v4)))
set_option maxRecDepth 20000 in
set_option maxHeartbeats 4000000 in
theorem m_X2_multiply (w : gWd) (h : gHp) {a0 : Nat} (A0 : is_X2 w a0) {a1 : Nat} (A1 : is_X2 w a1) {o : gHp} (hF : f_X2_multiply a0 a1 h = some o) : gMet w yX2_multiply wsX2_multiply rm_X2_multiply [.ref a0, .ref a1] h (none) o := by
  refine gMet_of (cc := cX2_multiply) (maxL := 8) (ret := none) (fr := 1) (lo := 30) (own := RX2) [(0, .ref a0), (1, .ref a1)] (by decide) rfl rfl (Nat.le_of_ble_eq_true rfl) rfl (Nat.le_refl _) (Nat.le_refl _) (fun g C E => ?_)
  rw [f_X2_multiply] at hF
  refine gx_aload_n C 0 (gDec_at D_X2_multiply 0 rfl) rfl rfl ?_
  refine gx_getl C fl_X2_multiply_9 (is_X2_sh A0) rfl (gDec_at D_X2_multiply 1 rfl) ?_
  refine gx_aload_n C 1 (gDec_at D_X2_multiply 2 rfl) rfl rfl ?_
  refine gx_getl C fl_X2_multiply_15 (is_X2_sh A1) rfl (gDec_at D_X2_multiply 3 rfl) ?_
  obtain ⟨v2, hv1, hF⟩ := gBind hF
  refine gx_callS1 C (st := []) 2 [.long (h.2 a0 0), .long (h.2 a1 1)] (m_X2_commonDivisor w h (h.2 a0 0) (h.2 a1 1) hv1) gX2_multiply_X2_commonDivisor rfl rfl rfl hy_X2_commonDivisor (Nat.le_of_ble_eq_true rfl) (Nat.le_of_ble_eq_true rfl) rfl rfl (Nat.le_of_ble_eq_true rfl) (gDec_at D_X2_multiply 4 rfl) ?_
  refine gx_lstore_n C (lv' := [(2, .long v2), (0, .ref a0), (1, .ref a1)]) (gDec_at D_X2_multiply 5 rfl) rfl (Nat.le_of_ble_eq_true rfl) rfl ?_
  refine gx_aload_n C 2 (gDec_at D_X2_multiply 6 rfl) rfl rfl ?_
  refine gx_getl C fl_X2_multiply_9 (is_X2_sh A1) rfl (gDec_at D_X2_multiply 7 rfl) ?_
  refine gx_aload_n C 1 (gDec_at D_X2_multiply 8 rfl) rfl rfl ?_
  refine gx_getl C fl_X2_multiply_15 (is_X2_sh A0) rfl (gDec_at D_X2_multiply 9 rfl) ?_
  obtain ⟨v4, hv3, hF⟩ := gBind hF
  refine gx_callS1 C (st := []) 2 [.long (h.2 a1 0), .long (h.2 a0 1)] (m_X2_commonDivisor w h (h.2 a1 0) (h.2 a0 1) hv3) gX2_multiply_X2_commonDivisor rfl rfl rfl hy_X2_commonDivisor (Nat.le_of_ble_eq_true rfl) (Nat.le_of_ble_eq_true rfl) rfl rfl (Nat.le_of_ble_eq_true rfl) (gDec_at D_X2_multiply 10 rfl) ?_
  refine gx_lstore C (lv' := [(4, .long v4), (2, .long v2), (0, .ref a0), (1, .ref a1)]) (gDec_at D_X2_multiply 11 rfl) (Nat.le_of_ble_eq_true rfl) rfl ?_
  refine gx_aload_n C 2 (gDec_at D_X2_multiply 12 rfl) rfl rfl ?_
  refine gx_getl C fl_X2_multiply_9 (is_X2_sh A0) rfl (gDec_at D_X2_multiply 13 rfl) ?_
  refine gx_lload_n C 1 (gDec_at D_X2_multiply 14 rfl) rfl rfl ?_
  obtain ⟨z5, hF⟩ := gGn hF
  refine gx_ldiv C (gDec_at D_X2_multiply 15 rfl) z5 ?_
  refine gx_aload_n C 3 (gDec_at D_X2_multiply 16 rfl) rfl rfl ?_
  refine gx_getl C fl_X2_multiply_9 (is_X2_sh A1) rfl (gDec_at D_X2_multiply 17 rfl) ?_
  refine gx_lload C 0 (gDec_at D_X2_multiply 18 rfl) rfl ?_
  obtain ⟨z6, hF⟩ := gGn hF
  refine gx_ldiv C (gDec_at D_X2_multiply 19 rfl) z6 ?_
  refine gx_lmul C (gDec_at D_X2_multiply 20 rfl) ?_
  refine gx_lstore C (lv' := [(6, .long (((h.2 a0 0) / v2) * ((h.2 a1 0) / v4))), (4, .long v4), (2, .long v2), (0, .ref a0), (1, .ref a1)]) (gDec_at D_X2_multiply 21 rfl) (Nat.le_of_ble_eq_true rfl) rfl ?_
  refine gx_aload_n C 3 (gDec_at D_X2_multiply 22 rfl) rfl rfl ?_
  refine gx_aload_n C 3 (gDec_at D_X2_multiply 23 rfl) rfl rfl ?_
  refine gx_getl C fl_X2_multiply_15 (is_X2_sh A0) rfl (gDec_at D_X2_multiply 24 rfl) ?_
  refine gx_lload C 1 (gDec_at D_X2_multiply 25 rfl) rfl ?_
  obtain ⟨z7, hF⟩ := gGn hF
  refine gx_ldiv C (gDec_at D_X2_multiply 26 rfl) z7 ?_
  refine gx_aload_n C 4 (gDec_at D_X2_multiply 27 rfl) rfl rfl ?_
  refine gx_getl C fl_X2_multiply_15 (is_X2_sh A1) rfl (gDec_at D_X2_multiply 28 rfl) ?_
  refine gx_lload_n C 2 (gDec_at D_X2_multiply 29 rfl) rfl rfl ?_
  obtain ⟨z8, hF⟩ := gGn hF
  refine gx_ldiv C (gDec_at D_X2_multiply 30 rfl) z8 ?_
  refine gx_lmul C (gDec_at D_X2_multiply 31 rfl) ?_
  refine gx_putL C flw_X2_multiply_15 (is_X2_sh A0) rfl rfl rfl (gDec_at D_X2_multiply 32 rfl) ?_
  refine gx_aload_n C 3 (gDec_at D_X2_multiply 33 rfl) rfl rfl ?_
  refine gx_lload C 0 (gDec_at D_X2_multiply 34 rfl) rfl ?_
  refine gx_putL C flw_X2_multiply_9 (is_X2_sh A0) rfl rfl rfl (gDec_at D_X2_multiply 35 rfl) ?_
  cases hF
  exact gx_vret C E (gDec_at D_X2_multiply 36 rfl)
/-! LadderBench$Fraction.half -/
def rm_X2_half : Room := { frames := 0, cells := 0, slots := 0, locals := 0 }
theorem hy_X2_half : yX2_half.cls = RX2 ∧ yX2_half.cls ≠ "java/lang/invoke/MethodHandle" ∧ yX2_half.cls ≠ "java/lang/invoke/VarHandle" ∧ (parseMethodDescriptor yX2_half.desc).map (fun d => d.parameters.length) = some 1 := by decide +kernel
set_option maxRecDepth 100000 in
theorem D_X2_half : gDec cX2_half [(0, (.iload_n 1, 1)), (1, (.ifCond .ne 10, 3)), (4, (.aload_n 0, 1)), (5, (.getfield 9, 3)), (8, (.goto 7, 3)), (11, (.aload_n 0, 1)), (12, (.getfield 15, 3)), (15, (.lreturn, 1))] = true := by decide +kernel
set_option maxRecDepth 100000 in
theorem in_X2_half_X2 : ∀ x ∈ u_ws RX2 TX2 2, x ∈ wsX2_half := by decide +kernel
theorem fl_X2_half_15 : gF wsX2_half RX2 15 2 1 := ⟨RX2, TX2, 2, rfl, by decide, in_X2_half_X2, by decide +kernel⟩
theorem fl_X2_half_9 : gF wsX2_half RX2 9 2 0 := ⟨RX2, TX2, 2, rfl, by decide, in_X2_half_X2, by decide +kernel⟩
def f_X2_half (a0 : Nat) (x1 : Int32) (h : gHp) : Option (Int64) := if x1 = 0 then some (h.2 a0 0) else some (h.2 a0 1)
set_option maxRecDepth 20000 in
set_option maxHeartbeats 4000000 in
theorem m_X2_half (w : gWd) (h : gHp) {a0 : Nat} (A0 : is_X2 w a0) (x1 : Int32) {o : Int64} (hF : f_X2_half a0 x1 h = some o) : gMet w yX2_half wsX2_half rm_X2_half [.ref a0, .int x1] h (some (.long o)) h := by
  refine gMet_of (cc := cX2_half) (maxL := 2) (ret := (some .long)) (fr := 0) (lo := 0) (own := RX2) [(0, .ref a0), (1, .int x1)] (by decide) rfl rfl (Nat.le_of_ble_eq_true rfl) rfl (Nat.le_refl _) (Nat.le_refl _) (fun g C E => ?_)
  rw [f_X2_half] at hF
  refine gx_iload_n C 1 (gDec_at D_X2_half 0 rfl) rfl rfl ?_
  refine gx_if_ne C 11 (gDec_at D_X2_half 1 rfl) (by decide) (fun c => ?_) (fun c => ?_)
  · replace hF := gNeg c hF
    refine gx_aload_n C 0 (gDec_at D_X2_half 5 rfl) rfl rfl ?_
    refine gx_getl C fl_X2_half_15 (is_X2_sh A0) rfl (gDec_at D_X2_half 6 rfl) ?_
    cases hF
    exact gx_lret C E (gDec_at D_X2_half 7 rfl)
  · replace hF := gPos c hF
    refine gx_aload_n C 0 (gDec_at D_X2_half 2 rfl) rfl rfl ?_
    refine gx_getl C fl_X2_half_9 (is_X2_sh A0) rfl (gDec_at D_X2_half 3 rfl) ?_
    refine gx_goto C 15 (gDec_at D_X2_half 4 rfl) (by decide) ?_
    cases hF
    exact gx_lret C E (gDec_at D_X2_half 7 rfl)
/-! java/lang/Math.floorDiv -/
def rm_J9_floorDiv_f86c9 : Room := { frames := 0, cells := 0, slots := 0, locals := 0 }
theorem hy_J9_floorDiv_f86c9 : yJ9_floorDiv_f86c9.cls ≠ "java/lang/invoke/MethodHandle" ∧ yJ9_floorDiv_f86c9.cls ≠ "java/lang/invoke/VarHandle" ∧ (parseMethodDescriptor yJ9_floorDiv_f86c9.desc).map (fun d => d.parameters.length) = some 2 := by decide +kernel
set_option maxRecDepth 100000 in
theorem D_J9_floorDiv_f86c9 : gDec cJ9_floorDiv_f86c9 [(0, (.lload_n 0, 1)), (1, (.lload_n 2, 1)), (2, (.ldiv, 1)), (3, (.lstore 4, 2)), (5, (.lload_n 0, 1)), (6, (.lload_n 2, 1)), (7, (.lxor, 1)), (8, (.lconst 0, 1)), (9, (.lcmp, 1)), (10, (.ifCond .ge 17, 3)), (13, (.lload 4, 2)), (15, (.lload_n 2, 1)), (16, (.lmul, 1)), (17, (.lload_n 0, 1)), (18, (.lcmp, 1)), (19, (.ifCond .eq 8, 3)), (22, (.lload 4, 2)), (24, (.lconst 1, 1)), (25, (.lsub, 1)), (26, (.lreturn, 1)), (27, (.lload 4, 2)), (29, (.lreturn, 1))] = true := by decide +kernel
def f_J9_floorDiv_f86c9 (l0 : Int64) (l2 : Int64) (h : gHp) : Option (Int64) := if l2 = 0 then none else if 0 ≤ (l0 ^^^ l2) then some (l0 / l2) else if ((l0 / l2) * l2) = l0 then some (l0 / l2) else some ((l0 / l2) - 1)
set_option maxRecDepth 20000 in
set_option maxHeartbeats 4000000 in
theorem m_J9_floorDiv_f86c9 (w : gWd) (h : gHp) (l0 : Int64) (l2 : Int64) {o : Int64} (hF : f_J9_floorDiv_f86c9 l0 l2 h = some o) : gMet w yJ9_floorDiv_f86c9 wsJ9_floorDiv_f86c9 rm_J9_floorDiv_f86c9 [.long l0, .long l2] h (some (.long o)) h := by
  refine gMet_of (cc := cJ9_floorDiv_f86c9) (maxL := 6) (ret := (some .long)) (fr := 0) (lo := 0) (own := RJ9) [(0, .long l0), (2, .long l2)] (by decide) rfl rfl (Nat.le_of_ble_eq_true rfl) rfl (Nat.le_refl _) (Nat.le_refl _) (fun g C E => ?_)
  rw [f_J9_floorDiv_f86c9] at hF
  refine gx_lload_n C 0 (gDec_at D_J9_floorDiv_f86c9 0 rfl) rfl rfl ?_
  refine gx_lload_n C 1 (gDec_at D_J9_floorDiv_f86c9 1 rfl) rfl rfl ?_
  obtain ⟨z1, hF⟩ := gGn hF
  refine gx_ldiv C (gDec_at D_J9_floorDiv_f86c9 2 rfl) z1 ?_
  refine gx_lstore C (lv' := [(4, .long (l0 / l2)), (0, .long l0), (2, .long l2)]) (gDec_at D_J9_floorDiv_f86c9 3 rfl) (Nat.le_of_ble_eq_true rfl) rfl ?_
  refine gx_lload_n C 1 (gDec_at D_J9_floorDiv_f86c9 4 rfl) rfl rfl ?_
  refine gx_lload_n C 2 (gDec_at D_J9_floorDiv_f86c9 5 rfl) rfl rfl ?_
  refine gx_lxor C (gDec_at D_J9_floorDiv_f86c9 6 rfl) ?_
  refine gx_lconst C (v := 0) (gDec_at D_J9_floorDiv_f86c9 7 rfl) (by decide) ?_
  refine gx_lcmp_ge C 27 (gDec_at D_J9_floorDiv_f86c9 8 rfl) (gDec_at D_J9_floorDiv_f86c9 9 rfl) (by decide) (fun c => ?_) (fun c => ?_)
  · replace hF := gPos c hF
    refine gx_lload C 0 (gDec_at D_J9_floorDiv_f86c9 20 rfl) rfl ?_
    cases hF
    exact gx_lret C E (gDec_at D_J9_floorDiv_f86c9 21 rfl)
  · replace hF := gNeg c hF
    refine gx_lload C 0 (gDec_at D_J9_floorDiv_f86c9 10 rfl) rfl ?_
    refine gx_lload_n C 2 (gDec_at D_J9_floorDiv_f86c9 11 rfl) rfl rfl ?_
    refine gx_lmul C (gDec_at D_J9_floorDiv_f86c9 12 rfl) ?_
    refine gx_lload_n C 1 (gDec_at D_J9_floorDiv_f86c9 13 rfl) rfl rfl ?_
    refine gx_lcmp_eq C 27 (gDec_at D_J9_floorDiv_f86c9 14 rfl) (gDec_at D_J9_floorDiv_f86c9 15 rfl) (by decide) (fun c => ?_) (fun c => ?_)
    · replace hF := gPos c hF
      refine gx_lload C 0 (gDec_at D_J9_floorDiv_f86c9 20 rfl) rfl ?_
      cases hF
      exact gx_lret C E (gDec_at D_J9_floorDiv_f86c9 21 rfl)
    · replace hF := gNeg c hF
      refine gx_lload C 0 (gDec_at D_J9_floorDiv_f86c9 16 rfl) rfl ?_
      refine gx_lconst C (v := 1) (gDec_at D_J9_floorDiv_f86c9 17 rfl) (by decide) ?_
      refine gx_lsub C (gDec_at D_J9_floorDiv_f86c9 18 rfl) ?_
      cases hF
      exact gx_lret C E (gDec_at D_J9_floorDiv_f86c9 19 rfl)
end
section
theorem zz_last : True := trivial
end
