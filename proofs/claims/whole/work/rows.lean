section
-- ===== PART A: goes FIRST, ahead of the names: the tables' words, and 'selects' of the private methods out of them =====
/-- a private method of a class that the tables say can be made, by its rows of tables_1 -/
def lw_okq (q : MethodName × Nat) : Prop := (q.1.cls ≠ "java/lang/invoke/MethodHandle" ∧ q.1.cls ≠ "java/lang/invoke/VarHandle") ∧ Cond.instantiable q.1.cls q.2 ∈ tables_1 ∧ Cond.privateMethod q.1 ∈ tables_1 ∧ Cond.instanceMethod q.1 ∈ tables_1
theorem lw_p0 : lw_okq (⟨"UnfinishedFair", "found", "(I)I"⟩, 7) := ⟨⟨by decide +kernel, by decide +kernel⟩, List.mem_of_getElem? (i := 21) (by decide +kernel), List.mem_of_getElem? (i := 223) (by decide +kernel), List.mem_of_getElem? (i := 224) (by decide +kernel)⟩
theorem lw_p1 : lw_okq (⟨"UnfinishedFair", "isThing", "(I)Z"⟩, 7) := ⟨⟨by decide +kernel, by decide +kernel⟩, List.mem_of_getElem? (i := 21) (by decide +kernel), List.mem_of_getElem? (i := 273) (by decide +kernel), List.mem_of_getElem? (i := 274) (by decide +kernel)⟩
theorem lw_p2 : lw_okq (⟨"UnfinishedFair", "trialYearsToFinish", "(II)I"⟩, 7) := ⟨⟨by decide +kernel, by decide +kernel⟩, List.mem_of_getElem? (i := 21) (by decide +kernel), List.mem_of_getElem? (i := 487) (by decide +kernel), List.mem_of_getElem? (i := 488) (by decide +kernel)⟩
theorem lw_p3 : lw_okq (⟨"UnfinishedFair", "trialGoesAsTold", "(LUnfinishedFair$Sheet;I)Z"⟩, 7) := ⟨⟨by decide +kernel, by decide +kernel⟩, List.mem_of_getElem? (i := 21) (by decide +kernel), List.mem_of_getElem? (i := 697) (by decide +kernel), List.mem_of_getElem? (i := 698) (by decide +kernel)⟩
theorem lw_p4 : lw_okq (⟨"UnfinishedFairModel", "becomes", "(II)I"⟩, 15) := ⟨⟨by decide +kernel, by decide +kernel⟩, List.mem_of_getElem? (i := 726) (by decide +kernel), List.mem_of_getElem? (i := 791) (by decide +kernel), List.mem_of_getElem? (i := 792) (by decide +kernel)⟩
theorem lw_p5 : lw_okq (⟨"UnfinishedFairModel", "finds", "(I)I"⟩, 15) := ⟨⟨by decide +kernel, by decide +kernel⟩, List.mem_of_getElem? (i := 726) (by decide +kernel), List.mem_of_getElem? (i := 796) (by decide +kernel), List.mem_of_getElem? (i := 797) (by decide +kernel)⟩
theorem lw_p6 : lw_okq (⟨"UnfinishedFairModel", "his", "(II)I"⟩, 15) := ⟨⟨by decide +kernel, by decide +kernel⟩, List.mem_of_getElem? (i := 726) (by decide +kernel), List.mem_of_getElem? (i := 804) (by decide +kernel), List.mem_of_getElem? (i := 805) (by decide +kernel)⟩
theorem lw_p7 : lw_okq (⟨"UnfinishedFairModel", "withOf", "(I)I"⟩, 15) := ⟨⟨by decide +kernel, by decide +kernel⟩, List.mem_of_getElem? (i := 726) (by decide +kernel), List.mem_of_getElem? (i := 808) (by decide +kernel), List.mem_of_getElem? (i := 809) (by decide +kernel)⟩
theorem lw_p8 : lw_okq (⟨"UnfinishedFairModel", "it", "(II)I"⟩, 15) := ⟨⟨by decide +kernel, by decide +kernel⟩, List.mem_of_getElem? (i := 726) (by decide +kernel), List.mem_of_getElem? (i := 812) (by decide +kernel), List.mem_of_getElem? (i := 813) (by decide +kernel)⟩
theorem lw_p9 : lw_okq (⟨"UnfinishedFairModel", "openOf", "(I)I"⟩, 15) := ⟨⟨by decide +kernel, by decide +kernel⟩, List.mem_of_getElem? (i := 726) (by decide +kernel), List.mem_of_getElem? (i := 816) (by decide +kernel), List.mem_of_getElem? (i := 817) (by decide +kernel)⟩
theorem lw_p10 : lw_okq (⟨"UnfinishedFairModel", "isDone", "(I)Z"⟩, 15) := ⟨⟨by decide +kernel, by decide +kernel⟩, List.mem_of_getElem? (i := 726) (by decide +kernel), List.mem_of_getElem? (i := 820) (by decide +kernel), List.mem_of_getElem? (i := 821) (by decide +kernel)⟩
theorem lw_p11 : lw_okq (⟨"UnfinishedFairModel", "comesAs", "(IIII)I"⟩, 15) := ⟨⟨by decide +kernel, by decide +kernel⟩, List.mem_of_getElem? (i := 726) (by decide +kernel), List.mem_of_getElem? (i := 829) (by decide +kernel), List.mem_of_getElem? (i := 830) (by decide +kernel)⟩
theorem lw_p12 : lw_okq (⟨"UnfinishedFairModel", "put", "(III)V"⟩, 15) := ⟨⟨by decide +kernel, by decide +kernel⟩, List.mem_of_getElem? (i := 726) (by decide +kernel), List.mem_of_getElem? (i := 833) (by decide +kernel), List.mem_of_getElem? (i := 834) (by decide +kernel)⟩
theorem lw_p13 : lw_okq (⟨"UnfinishedFairModel", "isThing", "(I)Z"⟩, 15) := ⟨⟨by decide +kernel, by decide +kernel⟩, List.mem_of_getElem? (i := 726) (by decide +kernel), List.mem_of_getElem? (i := 841) (by decide +kernel), List.mem_of_getElem? (i := 842) (by decide +kernel)⟩
theorem lw_p14 : lw_okq (⟨"UnfinishedFairModel", "tires", "(I)I"⟩, 15) := ⟨⟨by decide +kernel, by decide +kernel⟩, List.mem_of_getElem? (i := 726) (by decide +kernel), List.mem_of_getElem? (i := 845) (by decide +kernel), List.mem_of_getElem? (i := 846) (by decide +kernel)⟩
theorem lw_p15 : lw_okq (⟨"UnfinishedFairModel", "asked", "(I)I"⟩, 15) := ⟨⟨by decide +kernel, by decide +kernel⟩, List.mem_of_getElem? (i := 726) (by decide +kernel), List.mem_of_getElem? (i := 849) (by decide +kernel), List.mem_of_getElem? (i := 850) (by decide +kernel)⟩
def lw_privs_1 : List (MethodName × Nat) := [(⟨"UnfinishedFair", "found", "(I)I"⟩, 7), (⟨"UnfinishedFair", "isThing", "(I)Z"⟩, 7), (⟨"UnfinishedFair", "trialYearsToFinish", "(II)I"⟩, 7), (⟨"UnfinishedFair", "trialGoesAsTold", "(LUnfinishedFair$Sheet;I)Z"⟩, 7), (⟨"UnfinishedFairModel", "becomes", "(II)I"⟩, 15), (⟨"UnfinishedFairModel", "finds", "(I)I"⟩, 15), (⟨"UnfinishedFairModel", "his", "(II)I"⟩, 15), (⟨"UnfinishedFairModel", "withOf", "(I)I"⟩, 15), (⟨"UnfinishedFairModel", "it", "(II)I"⟩, 15), (⟨"UnfinishedFairModel", "openOf", "(I)I"⟩, 15), (⟨"UnfinishedFairModel", "isDone", "(I)Z"⟩, 15), (⟨"UnfinishedFairModel", "comesAs", "(IIII)I"⟩, 15), (⟨"UnfinishedFairModel", "put", "(III)V"⟩, 15), (⟨"UnfinishedFairModel", "isThing", "(I)Z"⟩, 15), (⟨"UnfinishedFairModel", "tires", "(I)I"⟩, 15), (⟨"UnfinishedFairModel", "asked", "(I)I"⟩, 15)]
theorem lw_r1 : ∀ q ∈ lw_privs_1, lw_okq q := List.forall_mem_cons.mpr ⟨lw_p0, List.forall_mem_cons.mpr ⟨lw_p1, List.forall_mem_cons.mpr ⟨lw_p2, List.forall_mem_cons.mpr ⟨lw_p3, List.forall_mem_cons.mpr ⟨lw_p4, List.forall_mem_cons.mpr ⟨lw_p5, List.forall_mem_cons.mpr ⟨lw_p6, List.forall_mem_cons.mpr ⟨lw_p7, List.forall_mem_cons.mpr ⟨lw_p8, List.forall_mem_cons.mpr ⟨lw_p9, List.forall_mem_cons.mpr ⟨lw_p10, List.forall_mem_cons.mpr ⟨lw_p11, List.forall_mem_cons.mpr ⟨lw_p12, List.forall_mem_cons.mpr ⟨lw_p13, List.forall_mem_cons.mpr ⟨lw_p14, List.forall_mem_cons.mpr ⟨lw_p15, fun _ h => absurd h List.not_mem_nil⟩⟩⟩⟩⟩⟩⟩⟩⟩⟩⟩⟩⟩⟩⟩⟩
theorem lw_p16 : lw_okq (⟨"UnfinishedFairModel", "goesOn", "(II)I"⟩, 15) := ⟨⟨by decide +kernel, by decide +kernel⟩, List.mem_of_getElem? (i := 726) (by decide +kernel), List.mem_of_getElem? (i := 857) (by decide +kernel), List.mem_of_getElem? (i := 858) (by decide +kernel)⟩
theorem lw_p17 : lw_okq (⟨"UnfinishedFairModel", "bids", "(II)I"⟩, 15) := ⟨⟨by decide +kernel, by decide +kernel⟩, List.mem_of_getElem? (i := 726) (by decide +kernel), List.mem_of_getElem? (i := 861) (by decide +kernel), List.mem_of_getElem? (i := 862) (by decide +kernel)⟩
theorem lw_p18 : lw_okq (⟨"UnfinishedFairModel", "canLeave", "(I)Z"⟩, 15) := ⟨⟨by decide +kernel, by decide +kernel⟩, List.mem_of_getElem? (i := 726) (by decide +kernel), List.mem_of_getElem? (i := 882) (by decide +kernel), List.mem_of_getElem? (i := 883) (by decide +kernel)⟩
theorem lw_p19 : lw_okq (⟨"UnfinishedFairModel", "leaves", "(I)I"⟩, 15) := ⟨⟨by decide +kernel, by decide +kernel⟩, List.mem_of_getElem? (i := 726) (by decide +kernel), List.mem_of_getElem? (i := 886) (by decide +kernel), List.mem_of_getElem? (i := 887) (by decide +kernel)⟩
theorem lw_p20 : lw_okq (⟨"UnfinishedFairModel", "gets", "(III)V"⟩, 15) := ⟨⟨by decide +kernel, by decide +kernel⟩, List.mem_of_getElem? (i := 726) (by decide +kernel), List.mem_of_getElem? (i := 890) (by decide +kernel), List.mem_of_getElem? (i := 891) (by decide +kernel)⟩
theorem lw_p21 : lw_okq (⟨"UnfinishedFairModel", "winner", "(I)I"⟩, 15) := ⟨⟨by decide +kernel, by decide +kernel⟩, List.mem_of_getElem? (i := 726) (by decide +kernel), List.mem_of_getElem? (i := 899) (by decide +kernel), List.mem_of_getElem? (i := 900) (by decide +kernel)⟩
theorem lw_p22 : lw_okq (⟨"UnfinishedFairModel", "orNone", "(I)I"⟩, 15) := ⟨⟨by decide +kernel, by decide +kernel⟩, List.mem_of_getElem? (i := 726) (by decide +kernel), List.mem_of_getElem? (i := 903) (by decide +kernel), List.mem_of_getElem? (i := 904) (by decide +kernel)⟩
theorem lw_p23 : lw_okq (⟨"UnfinishedFairModel", "goesFor", "(I)V"⟩, 15) := ⟨⟨by decide +kernel, by decide +kernel⟩, List.mem_of_getElem? (i := 726) (by decide +kernel), List.mem_of_getElem? (i := 912) (by decide +kernel), List.mem_of_getElem? (i := 913) (by decide +kernel)⟩
theorem lw_p24 : lw_okq (⟨"UnfinishedFairModel", "goes", "()V"⟩, 15) := ⟨⟨by decide +kernel, by decide +kernel⟩, List.mem_of_getElem? (i := 726) (by decide +kernel), List.mem_of_getElem? (i := 916) (by decide +kernel), List.mem_of_getElem? (i := 917) (by decide +kernel)⟩
theorem lw_p25 : lw_okq (⟨"UnfinishedFairModel", "worksOn", "(I)V"⟩, 15) := ⟨⟨by decide +kernel, by decide +kernel⟩, List.mem_of_getElem? (i := 726) (by decide +kernel), List.mem_of_getElem? (i := 920) (by decide +kernel), List.mem_of_getElem? (i := 921) (by decide +kernel)⟩
theorem lw_p26 : lw_okq (⟨"UnfinishedFairModel", "doneOnes", "()I"⟩, 15) := ⟨⟨by decide +kernel, by decide +kernel⟩, List.mem_of_getElem? (i := 726) (by decide +kernel), List.mem_of_getElem? (i := 927) (by decide +kernel), List.mem_of_getElem? (i := 928) (by decide +kernel)⟩
theorem lw_p27 : lw_okq (⟨"UnfinishedFairModel", "sums", "(I)I"⟩, 15) := ⟨⟨by decide +kernel, by decide +kernel⟩, List.mem_of_getElem? (i := 726) (by decide +kernel), List.mem_of_getElem? (i := 935) (by decide +kernel), List.mem_of_getElem? (i := 936) (by decide +kernel)⟩
theorem lw_p28 : lw_okq (⟨"UnfinishedFairModel", "allMade", "()I"⟩, 15) := ⟨⟨by decide +kernel, by decide +kernel⟩, List.mem_of_getElem? (i := 726) (by decide +kernel), List.mem_of_getElem? (i := 939) (by decide +kernel), List.mem_of_getElem? (i := 940) (by decide +kernel)⟩
theorem lw_p29 : lw_okq (⟨"UnfinishedFairModel", "thinks", "()V"⟩, 15) := ⟨⟨by decide +kernel, by decide +kernel⟩, List.mem_of_getElem? (i := 726) (by decide +kernel), List.mem_of_getElem? (i := 947) (by decide +kernel), List.mem_of_getElem? (i := 948) (by decide +kernel)⟩
theorem lw_p30 : lw_okq (⟨"UnfinishedFairModel", "putsBack", "()V"⟩, 15) := ⟨⟨by decide +kernel, by decide +kernel⟩, List.mem_of_getElem? (i := 726) (by decide +kernel), List.mem_of_getElem? (i := 954) (by decide +kernel), List.mem_of_getElem? (i := 955) (by decide +kernel)⟩
theorem lw_p31 : lw_okq (⟨"UnfinishedFairModel", "doneIn", "(II)I"⟩, 15) := ⟨⟨by decide +kernel, by decide +kernel⟩, List.mem_of_getElem? (i := 726) (by decide +kernel), List.mem_of_getElem? (i := 966) (by decide +kernel), List.mem_of_getElem? (i := 967) (by decide +kernel)⟩
def lw_privs_2 : List (MethodName × Nat) := [(⟨"UnfinishedFairModel", "goesOn", "(II)I"⟩, 15), (⟨"UnfinishedFairModel", "bids", "(II)I"⟩, 15), (⟨"UnfinishedFairModel", "canLeave", "(I)Z"⟩, 15), (⟨"UnfinishedFairModel", "leaves", "(I)I"⟩, 15), (⟨"UnfinishedFairModel", "gets", "(III)V"⟩, 15), (⟨"UnfinishedFairModel", "winner", "(I)I"⟩, 15), (⟨"UnfinishedFairModel", "orNone", "(I)I"⟩, 15), (⟨"UnfinishedFairModel", "goesFor", "(I)V"⟩, 15), (⟨"UnfinishedFairModel", "goes", "()V"⟩, 15), (⟨"UnfinishedFairModel", "worksOn", "(I)V"⟩, 15), (⟨"UnfinishedFairModel", "doneOnes", "()I"⟩, 15), (⟨"UnfinishedFairModel", "sums", "(I)I"⟩, 15), (⟨"UnfinishedFairModel", "allMade", "()I"⟩, 15), (⟨"UnfinishedFairModel", "thinks", "()V"⟩, 15), (⟨"UnfinishedFairModel", "putsBack", "()V"⟩, 15), (⟨"UnfinishedFairModel", "doneIn", "(II)I"⟩, 15)]
theorem lw_r2 : ∀ q ∈ lw_privs_2, lw_okq q := List.forall_mem_cons.mpr ⟨lw_p16, List.forall_mem_cons.mpr ⟨lw_p17, List.forall_mem_cons.mpr ⟨lw_p18, List.forall_mem_cons.mpr ⟨lw_p19, List.forall_mem_cons.mpr ⟨lw_p20, List.forall_mem_cons.mpr ⟨lw_p21, List.forall_mem_cons.mpr ⟨lw_p22, List.forall_mem_cons.mpr ⟨lw_p23, List.forall_mem_cons.mpr ⟨lw_p24, List.forall_mem_cons.mpr ⟨lw_p25, List.forall_mem_cons.mpr ⟨lw_p26, List.forall_mem_cons.mpr ⟨lw_p27, List.forall_mem_cons.mpr ⟨lw_p28, List.forall_mem_cons.mpr ⟨lw_p29, List.forall_mem_cons.mpr ⟨lw_p30, List.forall_mem_cons.mpr ⟨lw_p31, fun _ h => absurd h List.not_mem_nil⟩⟩⟩⟩⟩⟩⟩⟩⟩⟩⟩⟩⟩⟩⟩⟩
theorem lw_p32 : lw_okq (⟨"UnfinishedFairModel", "areDone", "()Z"⟩, 15) := ⟨⟨by decide +kernel, by decide +kernel⟩, List.mem_of_getElem? (i := 726) (by decide +kernel), List.mem_of_getElem? (i := 978) (by decide +kernel), List.mem_of_getElem? (i := 979) (by decide +kernel)⟩
theorem lw_p33 : lw_okq (⟨"UnfinishedFairModel", "soonestBy", "(III)I"⟩, 15) := ⟨⟨by decide +kernel, by decide +kernel⟩, List.mem_of_getElem? (i := 726) (by decide +kernel), List.mem_of_getElem? (i := 986) (by decide +kernel), List.mem_of_getElem? (i := 987) (by decide +kernel)⟩
theorem lw_p34 : lw_okq (⟨"UnfinishedFairModel", "reads", "()V"⟩, 15) := ⟨⟨by decide +kernel, by decide +kernel⟩, List.mem_of_getElem? (i := 726) (by decide +kernel), List.mem_of_getElem? (i := 1022) (by decide +kernel), List.mem_of_getElem? (i := 1023) (by decide +kernel)⟩
theorem lw_p35 : lw_okq (⟨"UnfinishedFairModel", "isByte", "(III)Z"⟩, 15) := ⟨⟨by decide +kernel, by decide +kernel⟩, List.mem_of_getElem? (i := 726) (by decide +kernel), List.mem_of_getElem? (i := 1026) (by decide +kernel), List.mem_of_getElem? (i := 1027) (by decide +kernel)⟩
theorem lw_p36 : lw_okq (⟨"UnfinishedFairModel", "wordHere", "()I"⟩, 15) := ⟨⟨by decide +kernel, by decide +kernel⟩, List.mem_of_getElem? (i := 726) (by decide +kernel), List.mem_of_getElem? (i := 1030) (by decide +kernel), List.mem_of_getElem? (i := 1031) (by decide +kernel)⟩
theorem lw_p37 : lw_okq (⟨"UnfinishedFairModel", "isName", "(II)Z"⟩, 15) := ⟨⟨by decide +kernel, by decide +kernel⟩, List.mem_of_getElem? (i := 726) (by decide +kernel), List.mem_of_getElem? (i := 1034) (by decide +kernel), List.mem_of_getElem? (i := 1035) (by decide +kernel)⟩
theorem lw_p38 : lw_okq (⟨"UnfinishedFairModel", "item", "()V"⟩, 15) := ⟨⟨by decide +kernel, by decide +kernel⟩, List.mem_of_getElem? (i := 726) (by decide +kernel), List.mem_of_getElem? (i := 1040) (by decide +kernel), List.mem_of_getElem? (i := 1041) (by decide +kernel)⟩
theorem lw_p39 : lw_okq (⟨"UnfinishedFairModel", "thingItem", "()V"⟩, 15) := ⟨⟨by decide +kernel, by decide +kernel⟩, List.mem_of_getElem? (i := 726) (by decide +kernel), List.mem_of_getElem? (i := 1044) (by decide +kernel), List.mem_of_getElem? (i := 1045) (by decide +kernel)⟩
theorem lw_p40 : lw_okq (⟨"UnfinishedFairModel", "number", "(II)I"⟩, 15) := ⟨⟨by decide +kernel, by decide +kernel⟩, List.mem_of_getElem? (i := 726) (by decide +kernel), List.mem_of_getElem? (i := 1048) (by decide +kernel), List.mem_of_getElem? (i := 1049) (by decide +kernel)⟩
theorem lw_p41 : lw_okq (⟨"UnfinishedFairModel", "perhaps", "(IIII)I"⟩, 15) := ⟨⟨by decide +kernel, by decide +kernel⟩, List.mem_of_getElem? (i := 726) (by decide +kernel), List.mem_of_getElem? (i := 1052) (by decide +kernel), List.mem_of_getElem? (i := 1053) (by decide +kernel)⟩
theorem lw_p42 : lw_okq (⟨"UnfinishedFairModel", "passes", "(I)Z"⟩, 15) := ⟨⟨by decide +kernel, by decide +kernel⟩, List.mem_of_getElem? (i := 726) (by decide +kernel), List.mem_of_getElem? (i := 1056) (by decide +kernel), List.mem_of_getElem? (i := 1057) (by decide +kernel)⟩
theorem lw_p43 : lw_okq (⟨"UnfinishedFairModel", "personItem", "()V"⟩, 15) := ⟨⟨by decide +kernel, by decide +kernel⟩, List.mem_of_getElem? (i := 726) (by decide +kernel), List.mem_of_getElem? (i := 1060) (by decide +kernel), List.mem_of_getElem? (i := 1061) (by decide +kernel)⟩
theorem lw_p44 : lw_okq (⟨"UnfinishedFairModel", "notThere", "(I)I"⟩, 15) := ⟨⟨by decide +kernel, by decide +kernel⟩, List.mem_of_getElem? (i := 726) (by decide +kernel), List.mem_of_getElem? (i := 1076) (by decide +kernel), List.mem_of_getElem? (i := 1077) (by decide +kernel)⟩
theorem lw_p45 : lw_okq (⟨"UnfinishedFairModel", "notCopied", "(IIIII)I"⟩, 15) := ⟨⟨by decide +kernel, by decide +kernel⟩, List.mem_of_getElem? (i := 726) (by decide +kernel), List.mem_of_getElem? (i := 1088) (by decide +kernel), List.mem_of_getElem? (i := 1089) (by decide +kernel)⟩
theorem lw_p46 : lw_okq (⟨"UnfinishedFairModel", "notAsked", "(II)I"⟩, 15) := ⟨⟨by decide +kernel, by decide +kernel⟩, List.mem_of_getElem? (i := 726) (by decide +kernel), List.mem_of_getElem? (i := 1100) (by decide +kernel), List.mem_of_getElem? (i := 1101) (by decide +kernel)⟩
theorem lw_p47 : lw_okq (⟨"UnfinishedFairModel", "isBook", "(II)Z"⟩, 15) := ⟨⟨by decide +kernel, by decide +kernel⟩, List.mem_of_getElem? (i := 726) (by decide +kernel), List.mem_of_getElem? (i := 1108) (by decide +kernel), List.mem_of_getElem? (i := 1109) (by decide +kernel)⟩
def lw_privs_3 : List (MethodName × Nat) := [(⟨"UnfinishedFairModel", "areDone", "()Z"⟩, 15), (⟨"UnfinishedFairModel", "soonestBy", "(III)I"⟩, 15), (⟨"UnfinishedFairModel", "reads", "()V"⟩, 15), (⟨"UnfinishedFairModel", "isByte", "(III)Z"⟩, 15), (⟨"UnfinishedFairModel", "wordHere", "()I"⟩, 15), (⟨"UnfinishedFairModel", "isName", "(II)Z"⟩, 15), (⟨"UnfinishedFairModel", "item", "()V"⟩, 15), (⟨"UnfinishedFairModel", "thingItem", "()V"⟩, 15), (⟨"UnfinishedFairModel", "number", "(II)I"⟩, 15), (⟨"UnfinishedFairModel", "perhaps", "(IIII)I"⟩, 15), (⟨"UnfinishedFairModel", "passes", "(I)Z"⟩, 15), (⟨"UnfinishedFairModel", "personItem", "()V"⟩, 15), (⟨"UnfinishedFairModel", "notThere", "(I)I"⟩, 15), (⟨"UnfinishedFairModel", "notCopied", "(IIIII)I"⟩, 15), (⟨"UnfinishedFairModel", "notAsked", "(II)I"⟩, 15), (⟨"UnfinishedFairModel", "isBook", "(II)Z"⟩, 15)]
theorem lw_r3 : ∀ q ∈ lw_privs_3, lw_okq q := List.forall_mem_cons.mpr ⟨lw_p32, List.forall_mem_cons.mpr ⟨lw_p33, List.forall_mem_cons.mpr ⟨lw_p34, List.forall_mem_cons.mpr ⟨lw_p35, List.forall_mem_cons.mpr ⟨lw_p36, List.forall_mem_cons.mpr ⟨lw_p37, List.forall_mem_cons.mpr ⟨lw_p38, List.forall_mem_cons.mpr ⟨lw_p39, List.forall_mem_cons.mpr ⟨lw_p40, List.forall_mem_cons.mpr ⟨lw_p41, List.forall_mem_cons.mpr ⟨lw_p42, List.forall_mem_cons.mpr ⟨lw_p43, List.forall_mem_cons.mpr ⟨lw_p44, List.forall_mem_cons.mpr ⟨lw_p45, List.forall_mem_cons.mpr ⟨lw_p46, List.forall_mem_cons.mpr ⟨lw_p47, fun _ h => absurd h List.not_mem_nil⟩⟩⟩⟩⟩⟩⟩⟩⟩⟩⟩⟩⟩⟩⟩⟩
theorem lw_p48 : lw_okq (⟨"UnfinishedFairModel", "howMany", "()I"⟩, 15) := ⟨⟨by decide +kernel, by decide +kernel⟩, List.mem_of_getElem? (i := 726) (by decide +kernel), List.mem_of_getElem? (i := 1128) (by decide +kernel), List.mem_of_getElem? (i := 1129) (by decide +kernel)⟩
def lw_privs_4 : List (MethodName × Nat) := [(⟨"UnfinishedFairModel", "howMany", "()I"⟩, 15)]
theorem lw_r4 : ∀ q ∈ lw_privs_4, lw_okq q := List.forall_mem_cons.mpr ⟨lw_p48, fun _ h => absurd h List.not_mem_nil⟩
def lw_privs : List (MethodName × Nat) := lw_privs_1 ++ (lw_privs_2 ++ (lw_privs_3 ++ (lw_privs_4)))
def lw_tbl : List Cond := k2_sels lw_privs ++ tables_1
theorem lw_privs_ok : ∀ q ∈ lw_privs, lw_okq q := by
  show ∀ q ∈ lw_privs_1 ++ (lw_privs_2 ++ (lw_privs_3 ++ (lw_privs_4))), lw_okq q
  exact List.forall_mem_append.mpr ⟨lw_r1, List.forall_mem_append.mpr ⟨lw_r2, List.forall_mem_append.mpr ⟨lw_r3, lw_r4⟩⟩⟩
end
section
def RX0 : String := "UnfinishedFair$Boat"
def TX0 : u_T := fun k => match k with
  | _ => ("UnfinishedFair$Kind", "title", "Ljava/lang/String;", true)
def tyX0 : Nat → FieldType := fun k => match k with
  | _ => .object "java/lang/String"
theorem nmX0 : ∀ a, a < 1 → ∀ b, b < 1 → a ≠ b → (TX0 a).2.1 ≠ (TX0 b).2.1 := by decide +kernel
theorem tyX0_ok : ∀ k, k < 1 → parseFieldDescriptor (TX0 k).2.2.1 = some (tyX0 k) := by decide +kernel
abbrev cX0_init : ByteArray := prog_2_method_1_code
def yX0_init : MethodName := ⟨RX0, "<init>", "(Ljava/lang/String;)V"⟩
abbrev cX0_goesOn : ByteArray := prog_2_method_2_code
def yX0_goesOn : MethodName := ⟨RX0, "goesOn", "(III)I"⟩
abbrev cX0_tires : ByteArray := prog_2_method_3_code
def yX0_tires : MethodName := ⟨RX0, "tires", "()I"⟩
abbrev cX0_bid : ByteArray := prog_2_method_4_code
def yX0_bid : MethodName := ⟨RX0, "bid", "(III)I"⟩
abbrev cX0_asked : ByteArray := prog_2_method_5_code
def yX0_asked : MethodName := ⟨RX0, "asked", "(II)I"⟩
def RX1 : String := "UnfinishedFair$Bridge"
def TX1 : u_T := fun k => match k with
  | _ => ("UnfinishedFair$Kind", "title", "Ljava/lang/String;", true)
def tyX1 : Nat → FieldType := fun k => match k with
  | _ => .object "java/lang/String"
theorem nmX1 : ∀ a, a < 1 → ∀ b, b < 1 → a ≠ b → (TX1 a).2.1 ≠ (TX1 b).2.1 := by decide +kernel
theorem tyX1_ok : ∀ k, k < 1 → parseFieldDescriptor (TX1 k).2.2.1 = some (tyX1 k) := by decide +kernel
abbrev cX1_init : ByteArray := prog_3_method_1_code
def yX1_init : MethodName := ⟨RX1, "<init>", "(Ljava/lang/String;)V"⟩
abbrev cX1_goesOn : ByteArray := prog_3_method_2_code
def yX1_goesOn : MethodName := ⟨RX1, "goesOn", "(III)I"⟩
abbrev cX1_bid : ByteArray := prog_3_method_3_code
def yX1_bid : MethodName := ⟨RX1, "bid", "(III)I"⟩
def RX2 : String := "UnfinishedFair$Common"
def TX2 : u_T := fun k => match k with
  | 0 => ("UnfinishedFair$Common", "natures", "[LUnfinishedFair$Kind;", true)
  | 1 => ("UnfinishedFair$Common", "skills", "[I", true)
  | 2 => ("UnfinishedFair$Common", "zeals", "[I", true)
  | 3 => ("UnfinishedFair$Common", "mades", "[I", true)
  | 4 => ("UnfinishedFair$Common", "kinds", "[I", true)
  | 5 => ("UnfinishedFair$Common", "dones", "[I", true)
  | 6 => ("UnfinishedFair$Common", "withs", "[I", true)
  | 7 => ("UnfinishedFair$Common", "dusts", "[I", true)
  | 8 => ("UnfinishedFair$Common", "held", "[I", true)
  | 9 => ("UnfinishedFair$Common", "year", "I", false)
  | _ => ("UnfinishedFair$Common", "size", "I", false)
def tyX2 : Nat → FieldType := fun k => match k with
  | 0 => .array (.object "UnfinishedFair$Kind")
  | 1 => .array .int
  | 2 => .array .int
  | 3 => .array .int
  | 4 => .array .int
  | 5 => .array .int
  | 6 => .array .int
  | 7 => .array .int
  | 8 => .array .int
  | 9 => .int
  | _ => .int
theorem nmX2 : ∀ a, a < 11 → ∀ b, b < 11 → a ≠ b → (TX2 a).2.1 ≠ (TX2 b).2.1 := by decide +kernel
theorem tyX2_ok : ∀ k, k < 11 → parseFieldDescriptor (TX2 k).2.2.1 = some (tyX2 k) := by decide +kernel
abbrev cX2_init : ByteArray := prog_4_method_1_code
def yX2_init : MethodName := ⟨RX2, "<init>", "([LUnfinishedFair$Kind;)V"⟩
abbrev cX2_become : ByteArray := prog_4_method_2_code
def yX2_become : MethodName := ⟨RX2, "become", "(LUnfinishedFair$Common;)V"⟩
abbrev cX2_isFull : ByteArray := prog_4_method_3_code
def yX2_isFull : MethodName := ⟨RX2, "isFull", "()Z"⟩
abbrev cX2_add : ByteArray := prog_4_method_4_code
def yX2_add : MethodName := ⟨RX2, "add", "(IIII)V"⟩
abbrev cX2_natureOf : ByteArray := prog_4_method_5_code
def yX2_natureOf : MethodName := ⟨RX2, "natureOf", "(I)LUnfinishedFair$Kind;"⟩
abbrev cX2_isFinished : ByteArray := prog_4_method_6_code
def yX2_isFinished : MethodName := ⟨RX2, "isFinished", "(I)Z"⟩
abbrev cX2_canBeLeft : ByteArray := prog_4_method_7_code
def yX2_canBeLeft : MethodName := ⟨RX2, "canBeLeft", "(I)Z"⟩
abbrev cX2_isForTheFair : ByteArray := prog_4_method_8_code
def yX2_isForTheFair : MethodName := ⟨RX2, "isForTheFair", "(I)Z"⟩
abbrev cX2_letGo : ByteArray := prog_4_method_9_code
def yX2_letGo : MethodName := ⟨RX2, "letGo", "(I)V"⟩
abbrev cX2_goYears : ByteArray := prog_4_method_10_code
def yX2_goYears : MethodName := ⟨RX2, "goYears", "(I)V"⟩
abbrev cX2_goYear : ByteArray := prog_4_method_11_code
def yX2_goYear : MethodName := ⟨RX2, "goYear", "()V"⟩
abbrev cX2_workOn : ByteArray := prog_4_method_12_code
def yX2_workOn : MethodName := ⟨RX2, "workOn", "(I)V"⟩
abbrev cX2_countHeld : ByteArray := prog_4_method_13_code
def yX2_countHeld : MethodName := ⟨RX2, "countHeld", "()V"⟩
abbrev cX2_offer : ByteArray := prog_4_method_14_code
def yX2_offer : MethodName := ⟨RX2, "offer", "(I)V"⟩
abbrev cX2_takerOf : ByteArray := prog_4_method_15_code
def yX2_takerOf : MethodName := ⟨RX2, "takerOf", "(I)I"⟩
abbrev cX2_finishedSet : ByteArray := prog_4_method_16_code
def yX2_finishedSet : MethodName := ⟨RX2, "finishedSet", "()I"⟩
abbrev cX2_isAllFinished : ByteArray := prog_4_method_17_code
def yX2_isAllFinished : MethodName := ⟨RX2, "isAllFinished", "()Z"⟩
abbrev cX2_heldSet : ByteArray := prog_4_method_18_code
def yX2_heldSet : MethodName := ⟨RX2, "heldSet", "(I)I"⟩
abbrev cX2_doneOfAll : ByteArray := prog_4_method_19_code
def yX2_doneOfAll : MethodName := ⟨RX2, "doneOfAll", "()I"⟩
abbrev cX2_dustOfAll : ByteArray := prog_4_method_20_code
def yX2_dustOfAll : MethodName := ⟨RX2, "dustOfAll", "()I"⟩
abbrev cX2_madeOfAll : ByteArray := prog_4_method_21_code
def yX2_madeOfAll : MethodName := ⟨RX2, "madeOfAll", "()I"⟩
def RX3 : String := "UnfinishedFair$Jersey"
def TX3 : u_T := fun k => match k with
  | _ => ("UnfinishedFair$Kind", "title", "Ljava/lang/String;", true)
def tyX3 : Nat → FieldType := fun k => match k with
  | _ => .object "java/lang/String"
theorem nmX3 : ∀ a, a < 1 → ∀ b, b < 1 → a ≠ b → (TX3 a).2.1 ≠ (TX3 b).2.1 := by decide +kernel
theorem tyX3_ok : ∀ k, k < 1 → parseFieldDescriptor (TX3 k).2.2.1 = some (tyX3 k) := by decide +kernel
abbrev cX3_init : ByteArray := prog_5_method_1_code
def yX3_init : MethodName := ⟨RX3, "<init>", "(Ljava/lang/String;)V"⟩
abbrev cX3_goesOn : ByteArray := prog_5_method_2_code
def yX3_goesOn : MethodName := ⟨RX3, "goesOn", "(III)I"⟩
abbrev cX3_bid : ByteArray := prog_5_method_3_code
def yX3_bid : MethodName := ⟨RX3, "bid", "(III)I"⟩
def RX4 : String := "UnfinishedFair$Kind"
def TX4 : u_T := fun k => match k with
  | _ => ("UnfinishedFair$Kind", "title", "Ljava/lang/String;", true)
def tyX4 : Nat → FieldType := fun k => match k with
  | _ => .object "java/lang/String"
theorem nmX4 : ∀ a, a < 1 → ∀ b, b < 1 → a ≠ b → (TX4 a).2.1 ≠ (TX4 b).2.1 := by decide +kernel
theorem tyX4_ok : ∀ k, k < 1 → parseFieldDescriptor (TX4 k).2.2.1 = some (tyX4 k) := by decide +kernel
abbrev cX4_init : ByteArray := prog_6_method_1_code
def yX4_init : MethodName := ⟨RX4, "<init>", "(Ljava/lang/String;)V"⟩
abbrev cX4_goesOn : ByteArray := prog_6_method_2_code
def yX4_goesOn : MethodName := ⟨RX4, "goesOn", "(III)I"⟩
abbrev cX4_tires : ByteArray := prog_6_method_3_code
def yX4_tires : MethodName := ⟨RX4, "tires", "()I"⟩
abbrev cX4_bid : ByteArray := prog_6_method_4_code
def yX4_bid : MethodName := ⟨RX4, "bid", "(III)I"⟩
abbrev cX4_asked : ByteArray := prog_6_method_5_code
def yX4_asked : MethodName := ⟨RX4, "asked", "(II)I"⟩
def RX5 : String := "UnfinishedFair$Letter"
def TX5 : u_T := fun k => match k with
  | _ => ("UnfinishedFair$Kind", "title", "Ljava/lang/String;", true)
def tyX5 : Nat → FieldType := fun k => match k with
  | _ => .object "java/lang/String"
theorem nmX5 : ∀ a, a < 1 → ∀ b, b < 1 → a ≠ b → (TX5 a).2.1 ≠ (TX5 b).2.1 := by decide +kernel
theorem tyX5_ok : ∀ k, k < 1 → parseFieldDescriptor (TX5 k).2.2.1 = some (tyX5 k) := by decide +kernel
abbrev cX5_init : ByteArray := prog_7_method_1_code
def yX5_init : MethodName := ⟨RX5, "<init>", "(Ljava/lang/String;)V"⟩
abbrev cX5_goesOn : ByteArray := prog_7_method_2_code
def yX5_goesOn : MethodName := ⟨RX5, "goesOn", "(III)I"⟩
abbrev cX5_tires : ByteArray := prog_7_method_3_code
def yX5_tires : MethodName := ⟨RX5, "tires", "()I"⟩
abbrev cX5_asked : ByteArray := prog_7_method_4_code
def yX5_asked : MethodName := ⟨RX5, "asked", "(II)I"⟩
def RX6 : String := "UnfinishedFair$Quarrel"
def TX6 : u_T := fun k => match k with
  | _ => ("UnfinishedFair$Kind", "title", "Ljava/lang/String;", true)
def tyX6 : Nat → FieldType := fun k => match k with
  | _ => .object "java/lang/String"
theorem nmX6 : ∀ a, a < 1 → ∀ b, b < 1 → a ≠ b → (TX6 a).2.1 ≠ (TX6 b).2.1 := by decide +kernel
theorem tyX6_ok : ∀ k, k < 1 → parseFieldDescriptor (TX6 k).2.2.1 = some (tyX6 k) := by decide +kernel
abbrev cX6_init : ByteArray := prog_8_method_1_code
def yX6_init : MethodName := ⟨RX6, "<init>", "(Ljava/lang/String;)V"⟩
abbrev cX6_goesOn : ByteArray := prog_8_method_2_code
def yX6_goesOn : MethodName := ⟨RX6, "goesOn", "(III)I"⟩
abbrev cX6_tires : ByteArray := prog_8_method_3_code
def yX6_tires : MethodName := ⟨RX6, "tires", "()I"⟩
abbrev cX6_bid : ByteArray := prog_8_method_4_code
def yX6_bid : MethodName := ⟨RX6, "bid", "(III)I"⟩
abbrev cX6_asked : ByteArray := prog_8_method_5_code
def yX6_asked : MethodName := ⟨RX6, "asked", "(II)I"⟩
def RX7 : String := "UnfinishedFair$Sheet"
def TX7 : u_T := fun k => match k with
  | 0 => ("UnfinishedFair$Sheet", "numbers", "[J", true)
  | 1 => ("UnfinishedFair$Sheet", "bits", "I", false)
  | _ => ("UnfinishedFair$Sheet", "length", "I", false)
def tyX7 : Nat → FieldType := fun k => match k with
  | 0 => .array .long
  | 1 => .int
  | _ => .int
theorem nmX7 : ∀ a, a < 3 → ∀ b, b < 3 → a ≠ b → (TX7 a).2.1 ≠ (TX7 b).2.1 := by decide +kernel
theorem tyX7_ok : ∀ k, k < 3 → parseFieldDescriptor (TX7 k).2.2.1 = some (tyX7 k) := by decide +kernel
abbrev cX7_init : ByteArray := prog_9_method_1_code
def yX7_init : MethodName := ⟨RX7, "<init>", "()V"⟩
abbrev cX7_begin : ByteArray := prog_9_method_2_code
def yX7_begin : MethodName := ⟨RX7, "begin", "(II)V"⟩
abbrev cX7_isMissing : ByteArray := prog_9_method_3_code
def yX7_isMissing : MethodName := ⟨RX7, "isMissing", "()Z"⟩
abbrev cX7_put : ByteArray := prog_9_method_4_code
def yX7_put : MethodName := ⟨RX7, "put", "(IJ)V"⟩
abbrev cX7_hasSpan : ByteArray := prog_9_method_5_code
def yX7_hasSpan : MethodName := ⟨RX7, "hasSpan", "(II)Z"⟩
def RX8 : String := "UnfinishedFair$Tape"
def TX8 : u_T := fun k => match k with
  | 0 => ("UnfinishedFair$Tape", "natures", "[LUnfinishedFair$Kind;", true)
  | 1 => ("UnfinishedFair$Tape", "bytes", "[B", true)
  | 2 => ("UnfinishedFair$Tape", "length", "I", false)
  | 3 => ("UnfinishedFair$Tape", "sort", "I", false)
  | 4 => ("UnfinishedFair$Tape", "place", "I", false)
  | _ => ("UnfinishedFair$Tape", "behind", "I", false)
def tyX8 : Nat → FieldType := fun k => match k with
  | 0 => .array (.object "UnfinishedFair$Kind")
  | 1 => .array .byte
  | 2 => .int
  | 3 => .int
  | 4 => .int
  | _ => .int
theorem nmX8 : ∀ a, a < 6 → ∀ b, b < 6 → a ≠ b → (TX8 a).2.1 ≠ (TX8 b).2.1 := by decide +kernel
theorem tyX8_ok : ∀ k, k < 6 → parseFieldDescriptor (TX8 k).2.2.1 = some (tyX8 k) := by decide +kernel
abbrev cX8_init : ByteArray := prog_10_method_1_code
def yX8_init : MethodName := ⟨RX8, "<init>", "([LUnfinishedFair$Kind;)V"⟩
abbrev cX8_hasRoomFor : ByteArray := prog_10_method_2_code
def yX8_hasRoomFor : MethodName := ⟨RX8, "hasRoomFor", "(I)Z"⟩
abbrev cX8_append : ByteArray := prog_10_method_3_code
def yX8_append : MethodName := ⟨RX8, "append", "(II)V"⟩
abbrev cX8_tellTo : ByteArray := prog_10_method_4_code
def yX8_tellTo : MethodName := ⟨RX8, "tellTo", "(LUnfinishedFair$Common;)I"⟩
abbrev cX8_takeItem : ByteArray := prog_10_method_5_code
def yX8_takeItem : MethodName := ⟨RX8, "takeItem", "(LUnfinishedFair$Common;)Z"⟩
abbrev cX8_takeThing : ByteArray := prog_10_method_6_code
def yX8_takeThing : MethodName := ⟨RX8, "takeThing", "(LUnfinishedFair$Common;I)Z"⟩
abbrev cX8_takeTrait : ByteArray := prog_10_method_7_code
def yX8_takeTrait : MethodName := ⟨RX8, "takeTrait", "([II)Z"⟩
abbrev cX8_takeNumber : ByteArray := prog_10_method_8_code
def yX8_takeNumber : MethodName := ⟨RX8, "takeNumber", "(I)I"⟩
abbrev cX8_kindAtHand : ByteArray := prog_10_method_9_code
def yX8_kindAtHand : MethodName := ⟨RX8, "kindAtHand", "()I"⟩
abbrev cX8_isAtWord : ByteArray := prog_10_method_10_code
def yX8_isAtWord : MethodName := ⟨RX8, "isAtWord", "(Ljava/lang/String;)Z"⟩
abbrev cX8_nextToken : ByteArray := prog_10_method_11_code
def yX8_nextToken : MethodName := ⟨RX8, "nextToken", "()V"⟩
abbrev cX8_sortOf : ByteArray := prog_10_method_12_code
def yX8_sortOf : MethodName := ⟨RX8, "sortOf", "(I)I"⟩
abbrev cX8_valueAtHand : ByteArray := prog_10_method_13_code
def yX8_valueAtHand : MethodName := ⟨RX8, "valueAtHand", "()I"⟩
def RX9 : String := "UnfinishedFair"
def TX9 : u_T := fun k => match k with
  | 0 => ("UnfinishedFair", "live", "LUnfinishedFair$Common;", true)
  | 1 => ("UnfinishedFair", "trial", "LUnfinishedFair$Common;", true)
  | 2 => ("UnfinishedFair", "kept", "LUnfinishedFair$Common;", true)
  | 3 => ("UnfinishedFair", "isKept", "Z", false)
  | 4 => ("UnfinishedFair", "tape", "LUnfinishedFair$Tape;", true)
  | 5 => ("UnfinishedFair", "sheets", "[LUnfinishedFair$Sheet;", true)
  | _ => ("UnfinishedFair", "findings", "[I", true)
def tyX9 : Nat → FieldType := fun k => match k with
  | 0 => .object "UnfinishedFair$Common"
  | 1 => .object "UnfinishedFair$Common"
  | 2 => .object "UnfinishedFair$Common"
  | 3 => .boolean
  | 4 => .object "UnfinishedFair$Tape"
  | 5 => .array (.object "UnfinishedFair$Sheet")
  | _ => .array .int
theorem nmX9 : ∀ a, a < 7 → ∀ b, b < 7 → a ≠ b → (TX9 a).2.1 ≠ (TX9 b).2.1 := by decide +kernel
theorem tyX9_ok : ∀ k, k < 7 → parseFieldDescriptor (TX9 k).2.2.1 = some (tyX9 k) := by decide +kernel
abbrev cX9_init : ByteArray := prog_1_method_1_code
def yX9_init : MethodName := ⟨RX9, "<init>", "()V"⟩
abbrev cX9_person : ByteArray := prog_1_method_2_code
def yX9_person : MethodName := ⟨RX9, "person", "(III)I"⟩
abbrev cX9_personOf : ByteArray := prog_1_method_3_code
def yX9_personOf : MethodName := ⟨RX9, "personOf", "(II)I"⟩
abbrev cX9_thing : ByteArray := prog_1_method_4_code
def yX9_thing : MethodName := ⟨RX9, "thing", "(II)I"⟩
abbrev cX9_of : ByteArray := prog_1_method_5_code
def yX9_of : MethodName := ⟨RX9, "of", "(II)I"⟩
abbrev cX9_by : ByteArray := prog_1_method_6_code
def yX9_by : MethodName := ⟨RX9, "by", "(III)I"⟩
abbrev cX9_set : ByteArray := prog_1_method_7_code
def yX9_set : MethodName := ⟨RX9, "set", "(III)I"⟩
abbrev cX9_turn : ByteArray := prog_1_method_8_code
def yX9_turn : MethodName := ⟨RX9, "turn", "(II)I"⟩
abbrev cX9_as : ByteArray := prog_1_method_9_code
def yX9_as : MethodName := ⟨RX9, "as", "(II)I"⟩
abbrev cX9_leave : ByteArray := prog_1_method_10_code
def yX9_leave : MethodName := ⟨RX9, "leave", "(I)I"⟩
abbrev cX9_goesTo : ByteArray := prog_1_method_11_code
def yX9_goesTo : MethodName := ⟨RX9, "goesTo", "(I)I"⟩
abbrev cX9_years : ByteArray := prog_1_method_12_code
def yX9_years : MethodName := ⟨RX9, "years", "(I)I"⟩
abbrev cX9_now : ByteArray := prog_1_method_13_code
def yX9_now : MethodName := ⟨RX9, "now", "(I)I"⟩
abbrev cX9_on : ByteArray := prog_1_method_14_code
def yX9_on : MethodName := ⟨RX9, "on", "(III)I"⟩
abbrev cX9_then : ByteArray := prog_1_method_15_code
def yX9_then : MethodName := ⟨RX9, "then", "(III)I"⟩
abbrev cX9_finished : ByteArray := prog_1_method_16_code
def yX9_finished : MethodName := ⟨RX9, "finished", "(I)I"⟩
abbrev cX9_comes : ByteArray := prog_1_method_17_code
def yX9_comes : MethodName := ⟨RX9, "comes", "(II)I"⟩
abbrev cX9_all : ByteArray := prog_1_method_18_code
def yX9_all : MethodName := ⟨RX9, "all", "()I"⟩
abbrev cX9_give : ByteArray := prog_1_method_19_code
def yX9_give : MethodName := ⟨RX9, "give", "(I)I"⟩
abbrev cX9_kind : ByteArray := prog_1_method_20_code
def yX9_kind : MethodName := ⟨RX9, "kind", "(I)I"⟩
abbrev cX9_zeal : ByteArray := prog_1_method_21_code
def yX9_zeal : MethodName := ⟨RX9, "zeal", "(III)I"⟩
abbrev cX9_skill : ByteArray := prog_1_method_22_code
def yX9_skill : MethodName := ⟨RX9, "skill", "(II)I"⟩
abbrev cX9_maker : ByteArray := prog_1_method_23_code
def yX9_maker : MethodName := ⟨RX9, "maker", "(I)I"⟩
abbrev cX9_drop : ByteArray := prog_1_method_24_code
def yX9_drop : MethodName := ⟨RX9, "drop", "(I)I"⟩
abbrev cX9_feed : ByteArray := prog_1_method_25_code
def yX9_feed : MethodName := ⟨RX9, "feed", "(II)I"⟩
abbrev cX9_wipe : ByteArray := prog_1_method_26_code
def yX9_wipe : MethodName := ⟨RX9, "wipe", "()I"⟩
abbrev cX9_common : ByteArray := prog_1_method_27_code
def yX9_common : MethodName := ⟨RX9, "common", "()I"⟩
abbrev cX9_sheet : ByteArray := prog_1_method_28_code
def yX9_sheet : MethodName := ⟨RX9, "sheet", "(III)I"⟩
abbrev cX9_write : ByteArray := prog_1_method_29_code
def yX9_write : MethodName := ⟨RX9, "write", "(IIJ)J"⟩
abbrev cX9_copy : ByteArray := prog_1_method_30_code
def yX9_copy : MethodName := ⟨RX9, "copy", "(IIIII)I"⟩
abbrev cX9_lays : ByteArray := prog_1_method_31_code
def yX9_lays : MethodName := ⟨RX9, "lays", "(I)I"⟩
abbrev cX9_book : ByteArray := prog_1_method_32_code
def yX9_book : MethodName := ⟨RX9, "book", "(II)I"⟩
abbrev cX9_read : ByteArray := prog_1_method_33_code
def yX9_read : MethodName := ⟨RX9, "read", "(III)I"⟩
abbrev cX9_image : ByteArray := prog_1_method_34_code
def yX9_image : MethodName := ⟨RX9, "image", "()I"⟩
abbrev cX9_undo : ByteArray := prog_1_method_35_code
def yX9_undo : MethodName := ⟨RX9, "undo", "()I"⟩
abbrev cX9_tear : ByteArray := prog_1_method_36_code
def yX9_tear : MethodName := ⟨RX9, "tear", "()I"⟩
abbrev cX9_count : ByteArray := prog_1_method_37_code
def yX9_count : MethodName := ⟨RX9, "count", "(I)I"⟩
abbrev cX9_status : ByteArray := prog_1_method_38_code
def yX9_status : MethodName := ⟨RX9, "status", "(I)I"⟩
abbrev cX9_found : ByteArray := prog_1_method_39_code
def yX9_found : MethodName := ⟨RX9, "found", "(I)I"⟩
abbrev cX9_isThing : ByteArray := prog_1_method_40_code
def yX9_isThing : MethodName := ⟨RX9, "isThing", "(I)Z"⟩
abbrev cX9_trialYearsToFinish : ByteArray := prog_1_method_41_code
def yX9_trialYearsToFinish : MethodName := ⟨RX9, "trialYearsToFinish", "(II)I"⟩
abbrev cX9_trialGoesAsTold : ByteArray := prog_1_method_42_code
def yX9_trialGoesAsTold : MethodName := ⟨RX9, "trialGoesAsTold", "(LUnfinishedFair$Sheet;I)Z"⟩
abbrev cX9_isWithin : ByteArray := prog_1_method_43_code
def yX9_isWithin : MethodName := ⟨RX9, "isWithin", "(III)Z"⟩
abbrev cX9_isPerson : ByteArray := prog_1_method_44_code
def yX9_isPerson : MethodName := ⟨RX9, "isPerson", "(I)Z"⟩
abbrev cX9_isKind : ByteArray := prog_1_method_45_code
def yX9_isKind : MethodName := ⟨RX9, "isKind", "(I)Z"⟩
abbrev cX9_isSheet : ByteArray := prog_1_method_46_code
def yX9_isSheet : MethodName := ⟨RX9, "isSheet", "(I)Z"⟩
abbrev cX9_isWidth : ByteArray := prog_1_method_47_code
def yX9_isWidth : MethodName := ⟨RX9, "isWidth", "(I)Z"⟩
abbrev cX9_isOrIsUnder : ByteArray := prog_1_method_48_code
def yX9_isOrIsUnder : MethodName := ⟨RX9, "isOrIsUnder", "(II)Z"⟩
abbrev cX9_exchange : ByteArray := prog_1_method_49_code
def yX9_exchange : MethodName := ⟨RX9, "exchange", "([III)I"⟩
abbrev cX9_sum : ByteArray := prog_1_method_50_code
def yX9_sum : MethodName := ⟨RX9, "sum", "([II)I"⟩
def RX10 : String := "UnfinishedFairModel"
def TX10 : u_T := fun k => match k with
  | 0 => ("UnfinishedFairModel", "m", "[I", true)
  | 1 => ("UnfinishedFairModel", "kept", "[I", true)
  | 2 => ("UnfinishedFairModel", "was", "[I", true)
  | 3 => ("UnfinishedFairModel", "isKept", "Z", false)
  | 4 => ("UnfinishedFairModel", "found", "[I", true)
  | 5 => ("UnfinishedFairModel", "tape", "[I", true)
  | 6 => ("UnfinishedFairModel", "taped", "I", false)
  | 7 => ("UnfinishedFairModel", "token", "I", false)
  | 8 => ("UnfinishedFairModel", "begin", "I", false)
  | 9 => ("UnfinishedFairModel", "at", "I", false)
  | 10 => ("UnfinishedFairModel", "value", "I", false)
  | 11 => ("UnfinishedFairModel", "bad", "Z", false)
  | 12 => ("UnfinishedFairModel", "bitsOf", "[I", true)
  | 13 => ("UnfinishedFairModel", "sizeOf", "[I", true)
  | _ => ("UnfinishedFairModel", "cells", "[J", true)
def tyX10 : Nat → FieldType := fun k => match k with
  | 0 => .array .int
  | 1 => .array .int
  | 2 => .array .int
  | 3 => .boolean
  | 4 => .array .int
  | 5 => .array .int
  | 6 => .int
  | 7 => .int
  | 8 => .int
  | 9 => .int
  | 10 => .int
  | 11 => .boolean
  | 12 => .array .int
  | 13 => .array .int
  | _ => .array .long
theorem nmX10 : ∀ a, a < 15 → ∀ b, b < 15 → a ≠ b → (TX10 a).2.1 ≠ (TX10 b).2.1 := by decide +kernel
theorem tyX10_ok : ∀ k, k < 15 → parseFieldDescriptor (TX10 k).2.2.1 = some (tyX10 k) := by decide +kernel
abbrev cX10_init : ByteArray := prog_12_method_1_code
def yX10_init : MethodName := ⟨RX10, "<init>", "()V"⟩
abbrev cX10_finds : ByteArray := prog_12_method_2_code
def yX10_finds : MethodName := ⟨RX10, "finds", "(I)I"⟩
abbrev cX10_orNone : ByteArray := prog_12_method_3_code
def yX10_orNone : MethodName := ⟨RX10, "orNone", "(I)I"⟩
abbrev cX10_in : ByteArray := prog_12_method_4_code
def yX10_in : MethodName := ⟨RX10, "in", "(JII)Z"⟩
abbrev cX10_held : ByteArray := prog_12_method_5_code
def yX10_held : MethodName := ⟨RX10, "held", "(III)I"⟩
abbrev cX10_copyAll : ByteArray := prog_12_method_6_code
def yX10_copyAll : MethodName := ⟨RX10, "copyAll", "([I[I)V"⟩
abbrev cX10_becomes : ByteArray := prog_12_method_7_code
def yX10_becomes : MethodName := ⟨RX10, "becomes", "(II)I"⟩
abbrev cX10_isThing : ByteArray := prog_12_method_8_code
def yX10_isThing : MethodName := ⟨RX10, "isThing", "(I)Z"⟩
abbrev cX10_isPerson : ByteArray := prog_12_method_9_code
def yX10_isPerson : MethodName := ⟨RX10, "isPerson", "(I)Z"⟩
abbrev cX10_it : ByteArray := prog_12_method_10_code
def yX10_it : MethodName := ⟨RX10, "it", "(II)I"⟩
abbrev cX10_put : ByteArray := prog_12_method_11_code
def yX10_put : MethodName := ⟨RX10, "put", "(III)V"⟩
abbrev cX10_his : ByteArray := prog_12_method_12_code
def yX10_his : MethodName := ⟨RX10, "his", "(II)I"⟩
abbrev cX10_gets : ByteArray := prog_12_method_13_code
def yX10_gets : MethodName := ⟨RX10, "gets", "(III)V"⟩
abbrev cX10_isDone : ByteArray := prog_12_method_14_code
def yX10_isDone : MethodName := ⟨RX10, "isDone", "(I)Z"⟩
abbrev cX10_mayBe : ByteArray := prog_12_method_15_code
def yX10_mayBe : MethodName := ⟨RX10, "mayBe", "(II)Z"⟩
abbrev cX10_person : ByteArray := prog_12_method_16_code
def yX10_person : MethodName := ⟨RX10, "person", "(III)I"⟩
abbrev cX10_withOf : ByteArray := prog_12_method_17_code
def yX10_withOf : MethodName := ⟨RX10, "withOf", "(I)I"⟩
abbrev cX10_openOf : ByteArray := prog_12_method_18_code
def yX10_openOf : MethodName := ⟨RX10, "openOf", "(I)I"⟩
abbrev cX10_personOf : ByteArray := prog_12_method_19_code
def yX10_personOf : MethodName := ⟨RX10, "personOf", "(II)I"⟩
abbrev cX10_goesOn : ByteArray := prog_12_method_20_code
def yX10_goesOn : MethodName := ⟨RX10, "goesOn", "(II)I"⟩
abbrev cX10_tires : ByteArray := prog_12_method_21_code
def yX10_tires : MethodName := ⟨RX10, "tires", "(I)I"⟩
abbrev cX10_bids : ByteArray := prog_12_method_22_code
def yX10_bids : MethodName := ⟨RX10, "bids", "(II)I"⟩
abbrev cX10_asked : ByteArray := prog_12_method_23_code
def yX10_asked : MethodName := ⟨RX10, "asked", "(I)I"⟩
abbrev cX10_comesAs : ByteArray := prog_12_method_24_code
def yX10_comesAs : MethodName := ⟨RX10, "comesAs", "(IIII)I"⟩
abbrev cX10_thing : ByteArray := prog_12_method_25_code
def yX10_thing : MethodName := ⟨RX10, "thing", "(II)I"⟩
abbrev cX10_of : ByteArray := prog_12_method_26_code
def yX10_of : MethodName := ⟨RX10, "of", "(II)I"⟩
abbrev cX10_by : ByteArray := prog_12_method_27_code
def yX10_by : MethodName := ⟨RX10, "by", "(III)I"⟩
abbrev cX10_set : ByteArray := prog_12_method_28_code
def yX10_set : MethodName := ⟨RX10, "set", "(III)I"⟩
abbrev cX10_turn : ByteArray := prog_12_method_29_code
def yX10_turn : MethodName := ⟨RX10, "turn", "(II)I"⟩
abbrev cX10_as : ByteArray := prog_12_method_30_code
def yX10_as : MethodName := ⟨RX10, "as", "(II)I"⟩
abbrev cX10_canLeave : ByteArray := prog_12_method_31_code
def yX10_canLeave : MethodName := ⟨RX10, "canLeave", "(I)Z"⟩
abbrev cX10_leaves : ByteArray := prog_12_method_32_code
def yX10_leaves : MethodName := ⟨RX10, "leaves", "(I)I"⟩
abbrev cX10_leave : ByteArray := prog_12_method_33_code
def yX10_leave : MethodName := ⟨RX10, "leave", "(I)I"⟩
abbrev cX10_winner : ByteArray := prog_12_method_34_code
def yX10_winner : MethodName := ⟨RX10, "winner", "(I)I"⟩
abbrev cX10_goesTo : ByteArray := prog_12_method_35_code
def yX10_goesTo : MethodName := ⟨RX10, "goesTo", "(I)I"⟩
abbrev cX10_worksOn : ByteArray := prog_12_method_36_code
def yX10_worksOn : MethodName := ⟨RX10, "worksOn", "(I)V"⟩
abbrev cX10_goes : ByteArray := prog_12_method_37_code
def yX10_goes : MethodName := ⟨RX10, "goes", "()V"⟩
abbrev cX10_goesFor : ByteArray := prog_12_method_38_code
def yX10_goesFor : MethodName := ⟨RX10, "goesFor", "(I)V"⟩
abbrev cX10_doneOnes : ByteArray := prog_12_method_39_code
def yX10_doneOnes : MethodName := ⟨RX10, "doneOnes", "()I"⟩
abbrev cX10_areDone : ByteArray := prog_12_method_40_code
def yX10_areDone : MethodName := ⟨RX10, "areDone", "()Z"⟩
abbrev cX10_years : ByteArray := prog_12_method_41_code
def yX10_years : MethodName := ⟨RX10, "years", "(I)I"⟩
abbrev cX10_sums : ByteArray := prog_12_method_42_code
def yX10_sums : MethodName := ⟨RX10, "sums", "(I)I"⟩
abbrev cX10_allMade : ByteArray := prog_12_method_43_code
def yX10_allMade : MethodName := ⟨RX10, "allMade", "()I"⟩
abbrev cX10_now : ByteArray := prog_12_method_44_code
def yX10_now : MethodName := ⟨RX10, "now", "(I)I"⟩
abbrev cX10_thinks : ByteArray := prog_12_method_45_code
def yX10_thinks : MethodName := ⟨RX10, "thinks", "()V"⟩
abbrev cX10_putsBack : ByteArray := prog_12_method_46_code
def yX10_putsBack : MethodName := ⟨RX10, "putsBack", "()V"⟩
abbrev cX10_on : ByteArray := prog_12_method_47_code
def yX10_on : MethodName := ⟨RX10, "on", "(III)I"⟩
abbrev cX10_then : ByteArray := prog_12_method_48_code
def yX10_then : MethodName := ⟨RX10, "then", "(III)I"⟩
abbrev cX10_doneIn : ByteArray := prog_12_method_49_code
def yX10_doneIn : MethodName := ⟨RX10, "doneIn", "(II)I"⟩
abbrev cX10_finished : ByteArray := prog_12_method_50_code
def yX10_finished : MethodName := ⟨RX10, "finished", "(I)I"⟩
abbrev cX10_comes : ByteArray := prog_12_method_51_code
def yX10_comes : MethodName := ⟨RX10, "comes", "(II)I"⟩
abbrev cX10_all : ByteArray := prog_12_method_52_code
def yX10_all : MethodName := ⟨RX10, "all", "()I"⟩
abbrev cX10_soonestBy : ByteArray := prog_12_method_53_code
def yX10_soonestBy : MethodName := ⟨RX10, "soonestBy", "(III)I"⟩
abbrev cX10_give : ByteArray := prog_12_method_54_code
def yX10_give : MethodName := ⟨RX10, "give", "(I)I"⟩
abbrev cX10_kind : ByteArray := prog_12_method_55_code
def yX10_kind : MethodName := ⟨RX10, "kind", "(I)I"⟩
abbrev cX10_zeal : ByteArray := prog_12_method_56_code
def yX10_zeal : MethodName := ⟨RX10, "zeal", "(III)I"⟩
abbrev cX10_skill : ByteArray := prog_12_method_57_code
def yX10_skill : MethodName := ⟨RX10, "skill", "(II)I"⟩
abbrev cX10_maker : ByteArray := prog_12_method_58_code
def yX10_maker : MethodName := ⟨RX10, "maker", "(I)I"⟩
abbrev cX10_drop : ByteArray := prog_12_method_59_code
def yX10_drop : MethodName := ⟨RX10, "drop", "(I)I"⟩
abbrev cX10_feed : ByteArray := prog_12_method_60_code
def yX10_feed : MethodName := ⟨RX10, "feed", "(II)I"⟩
abbrev cX10_wipe : ByteArray := prog_12_method_61_code
def yX10_wipe : MethodName := ⟨RX10, "wipe", "()I"⟩
abbrev cX10_isByte : ByteArray := prog_12_method_62_code
def yX10_isByte : MethodName := ⟨RX10, "isByte", "(III)Z"⟩
abbrev cX10_isName : ByteArray := prog_12_method_63_code
def yX10_isName : MethodName := ⟨RX10, "isName", "(II)Z"⟩
abbrev cX10_wordHere : ByteArray := prog_12_method_64_code
def yX10_wordHere : MethodName := ⟨RX10, "wordHere", "()I"⟩
abbrev cX10_reads : ByteArray := prog_12_method_65_code
def yX10_reads : MethodName := ⟨RX10, "reads", "()V"⟩
abbrev cX10_passes : ByteArray := prog_12_method_66_code
def yX10_passes : MethodName := ⟨RX10, "passes", "(I)Z"⟩
abbrev cX10_number : ByteArray := prog_12_method_67_code
def yX10_number : MethodName := ⟨RX10, "number", "(II)I"⟩
abbrev cX10_perhaps : ByteArray := prog_12_method_68_code
def yX10_perhaps : MethodName := ⟨RX10, "perhaps", "(IIII)I"⟩
abbrev cX10_thingItem : ByteArray := prog_12_method_69_code
def yX10_thingItem : MethodName := ⟨RX10, "thingItem", "()V"⟩
abbrev cX10_personItem : ByteArray := prog_12_method_70_code
def yX10_personItem : MethodName := ⟨RX10, "personItem", "()V"⟩
abbrev cX10_item : ByteArray := prog_12_method_71_code
def yX10_item : MethodName := ⟨RX10, "item", "()V"⟩
abbrev cX10_common : ByteArray := prog_12_method_72_code
def yX10_common : MethodName := ⟨RX10, "common", "()I"⟩
abbrev cX10_isSheet : ByteArray := prog_12_method_73_code
def yX10_isSheet : MethodName := ⟨RX10, "isSheet", "(I)Z"⟩
abbrev cX10_sheet : ByteArray := prog_12_method_74_code
def yX10_sheet : MethodName := ⟨RX10, "sheet", "(III)I"⟩
abbrev cX10_notThere : ByteArray := prog_12_method_75_code
def yX10_notThere : MethodName := ⟨RX10, "notThere", "(I)I"⟩
abbrev cX10_cutTo : ByteArray := prog_12_method_76_code
def yX10_cutTo : MethodName := ⟨RX10, "cutTo", "(IJ)J"⟩
abbrev cX10_write : ByteArray := prog_12_method_77_code
def yX10_write : MethodName := ⟨RX10, "write", "(IIJ)J"⟩
abbrev cX10_notCopied : ByteArray := prog_12_method_78_code
def yX10_notCopied : MethodName := ⟨RX10, "notCopied", "(IIIII)I"⟩
abbrev cX10_copy : ByteArray := prog_12_method_79_code
def yX10_copy : MethodName := ⟨RX10, "copy", "(IIIII)I"⟩
abbrev cX10_lays : ByteArray := prog_12_method_80_code
def yX10_lays : MethodName := ⟨RX10, "lays", "(I)I"⟩
abbrev cX10_notAsked : ByteArray := prog_12_method_81_code
def yX10_notAsked : MethodName := ⟨RX10, "notAsked", "(II)I"⟩
abbrev cX10_book : ByteArray := prog_12_method_82_code
def yX10_book : MethodName := ⟨RX10, "book", "(II)I"⟩
abbrev cX10_isBook : ByteArray := prog_12_method_83_code
def yX10_isBook : MethodName := ⟨RX10, "isBook", "(II)Z"⟩
abbrev cX10_read : ByteArray := prog_12_method_84_code
def yX10_read : MethodName := ⟨RX10, "read", "(III)I"⟩
abbrev cX10_image : ByteArray := prog_12_method_85_code
def yX10_image : MethodName := ⟨RX10, "image", "()I"⟩
abbrev cX10_undo : ByteArray := prog_12_method_86_code
def yX10_undo : MethodName := ⟨RX10, "undo", "()I"⟩
abbrev cX10_tear : ByteArray := prog_12_method_87_code
def yX10_tear : MethodName := ⟨RX10, "tear", "()I"⟩
abbrev cX10_howMany : ByteArray := prog_12_method_88_code
def yX10_howMany : MethodName := ⟨RX10, "howMany", "()I"⟩
abbrev cX10_count : ByteArray := prog_12_method_89_code
def yX10_count : MethodName := ⟨RX10, "count", "(I)I"⟩
abbrev cX10_status : ByteArray := prog_12_method_90_code
def yX10_status : MethodName := ⟨RX10, "status", "(I)I"⟩
def RJx145de : String := "java/io/Serializable"
def TJx145de : u_T := fun k => match k with
  | _ => ("", "", "", false)
def tyJx145de : Nat → FieldType := fun k => match k with
  | _ => .int
theorem nmJx145de : ∀ a, a < 0 → ∀ b, b < 0 → a ≠ b → (TJx145de a).2.1 ≠ (TJx145de b).2.1 := by decide +kernel
theorem tyJx145de_ok : ∀ k, k < 0 → parseFieldDescriptor (TJx145de k).2.2.1 = some (tyJx145de k) := by decide +kernel
def RJx9f9b0 : String := "java/lang/CharSequence"
def TJx9f9b0 : u_T := fun k => match k with
  | _ => ("", "", "", false)
def tyJx9f9b0 : Nat → FieldType := fun k => match k with
  | _ => .int
theorem nmJx9f9b0 : ∀ a, a < 0 → ∀ b, b < 0 → a ≠ b → (TJx9f9b0 a).2.1 ≠ (TJx9f9b0 b).2.1 := by decide +kernel
theorem tyJx9f9b0_ok : ∀ k, k < 0 → parseFieldDescriptor (TJx9f9b0 k).2.2.1 = some (tyJx9f9b0 k) := by decide +kernel
def RJxb160c : String := "java/lang/Comparable"
def TJxb160c : u_T := fun k => match k with
  | _ => ("", "", "", false)
def tyJxb160c : Nat → FieldType := fun k => match k with
  | _ => .int
theorem nmJxb160c : ∀ a, a < 0 → ∀ b, b < 0 → a ≠ b → (TJxb160c a).2.1 ≠ (TJxb160c b).2.1 := by decide +kernel
theorem tyJxb160c_ok : ∀ k, k < 0 → parseFieldDescriptor (TJxb160c k).2.2.1 = some (tyJxb160c k) := by decide +kernel
def RJ6 : String := "java/lang/Integer"
def TJ6 : u_T := fun k => match k with
  | _ => ("", "", "", false)
def tyJ6 : Nat → FieldType := fun k => match k with
  | _ => .int
theorem nmJ6 : ∀ a, a < 0 → ∀ b, b < 0 → a ≠ b → (TJ6 a).2.1 ≠ (TJ6 b).2.1 := by decide +kernel
theorem tyJ6_ok : ∀ k, k < 0 → parseFieldDescriptor (TJ6 k).2.2.1 = some (tyJ6 k) := by decide +kernel
abbrev cJ6_bitCount_0f7a4 : ByteArray := prog_13_method_49_code
def yJ6_bitCount_0f7a4 : MethodName := ⟨RJ6, "bitCount", "(I)I"⟩
def RJ9 : String := "java/lang/Math"
def TJ9 : u_T := fun k => match k with
  | _ => ("", "", "", false)
def tyJ9 : Nat → FieldType := fun k => match k with
  | _ => .int
theorem nmJ9 : ∀ a, a < 0 → ∀ b, b < 0 → a ≠ b → (TJ9 a).2.1 ≠ (TJ9 b).2.1 := by decide +kernel
theorem tyJ9_ok : ∀ k, k < 0 → parseFieldDescriptor (TJ9 k).2.2.1 = some (tyJ9 k) := by decide +kernel
abbrev cJ9_max_7cf53 : ByteArray := prog_14_method_65_code
def yJ9_max_7cf53 : MethodName := ⟨RJ9, "max", "(II)I"⟩
abbrev cJ9_min_7cf53 : ByteArray := prog_14_method_69_code
def yJ9_min_7cf53 : MethodName := ⟨RJ9, "min", "(II)I"⟩
def RJ0 : String := "java/lang/String"
def TJ0 : u_T := fun k => match k with
  | _ => ("", "", "", false)
def tyJ0 : Nat → FieldType := fun k => match k with
  | _ => .int
theorem nmJ0 : ∀ a, a < 0 → ∀ b, b < 0 → a ≠ b → (TJ0 a).2.1 ≠ (TJ0 b).2.1 := by decide +kernel
theorem tyJ0_ok : ∀ k, k < 0 → parseFieldDescriptor (TJ0 k).2.2.1 = some (tyJ0 k) := by decide +kernel
abbrev cJ0_length_8abf5 : ByteArray := prog_15_method_54_code
def yJ0_length_8abf5 : MethodName := ⟨RJ0, "length", "()I"⟩
abbrev cJ0_charAt_5068e : ByteArray := prog_15_method_56_code
def yJ0_charAt_5068e : MethodName := ⟨RJ0, "charAt", "(I)C"⟩
abbrev cJ0_coder_7d493 : ByteArray := prog_15_method_152_code
def yJ0_coder_7d493 : MethodName := ⟨RJ0, "coder", "()B"⟩
abbrev cJ0_isLatin1_aae02 : ByteArray := prog_15_method_154_code
def yJ0_isLatin1_aae02 : MethodName := ⟨RJ0, "isLatin1", "()Z"⟩
abbrev cJ0_checkIndex_df160 : ByteArray := prog_15_method_155_code
def yJ0_checkIndex_df160 : MethodName := ⟨RJ0, "checkIndex", "(II)V"⟩
def RJ1 : String := "java/lang/StringLatin1"
def TJ1 : u_T := fun k => match k with
  | _ => ("", "", "", false)
def tyJ1 : Nat → FieldType := fun k => match k with
  | _ => .int
theorem nmJ1 : ∀ a, a < 0 → ∀ b, b < 0 → a ≠ b → (TJ1 a).2.1 ≠ (TJ1 b).2.1 := by decide +kernel
theorem tyJ1_ok : ∀ k, k < 0 → parseFieldDescriptor (TJ1 k).2.2.1 = some (tyJ1 k) := by decide +kernel
abbrev cJ1_charAt_3b067 : ByteArray := prog_16_method_2_code
def yJ1_charAt_3b067 : MethodName := ⟨RJ1, "charAt", "([BI)C"⟩
def RJ2 : String := "java/lang/StringUTF16"
def TJ2 : u_T := fun k => match k with
  | _ => ("", "", "", false)
def tyJ2 : Nat → FieldType := fun k => match k with
  | _ => .int
theorem nmJ2 : ∀ a, a < 0 → ∀ b, b < 0 → a ≠ b → (TJ2 a).2.1 ≠ (TJ2 b).2.1 := by decide +kernel
theorem tyJ2_ok : ∀ k, k < 0 → parseFieldDescriptor (TJ2 k).2.2.1 = some (tyJ2 k) := by decide +kernel
abbrev cJ2_getChar_3b067 : ByteArray := prog_17_method_5_code
def yJ2_getChar_3b067 : MethodName := ⟨RJ2, "getChar", "([BI)C"⟩
abbrev cJ2_length_9d52b : ByteArray := prog_17_method_6_code
def yJ2_length_9d52b : MethodName := ⟨RJ2, "length", "([B)I"⟩
abbrev cJ2_charAt_3b067 : ByteArray := prog_17_method_83_code
def yJ2_charAt_3b067 : MethodName := ⟨RJ2, "charAt", "([BI)C"⟩
abbrev cJ2_checkIndex_2214a : ByteArray := prog_17_method_91_code
def yJ2_checkIndex_2214a : MethodName := ⟨RJ2, "checkIndex", "(I[B)V"⟩
def RJ10 : String := "java/lang/System"
def TJ10 : u_T := fun k => match k with
  | _ => ("", "", "", false)
def tyJ10 : Nat → FieldType := fun k => match k with
  | _ => .int
theorem nmJ10 : ∀ a, a < 0 → ∀ b, b < 0 → a ≠ b → (TJ10 a).2.1 ≠ (TJ10 b).2.1 := by decide +kernel
theorem tyJ10_ok : ∀ k, k < 0 → parseFieldDescriptor (TJ10 k).2.2.1 = some (tyJ10 k) := by decide +kernel
def RJxfd54e : String := "java/lang/constant/Constable"
def TJxfd54e : u_T := fun k => match k with
  | _ => ("", "", "", false)
def tyJxfd54e : Nat → FieldType := fun k => match k with
  | _ => .int
theorem nmJxfd54e : ∀ a, a < 0 → ∀ b, b < 0 → a ≠ b → (TJxfd54e a).2.1 ≠ (TJxfd54e b).2.1 := by decide +kernel
theorem tyJxfd54e_ok : ∀ k, k < 0 → parseFieldDescriptor (TJxfd54e k).2.2.1 = some (tyJxfd54e k) := by decide +kernel
def RJx3cf43 : String := "java/lang/constant/ConstantDesc"
def TJx3cf43 : u_T := fun k => match k with
  | _ => ("", "", "", false)
def tyJx3cf43 : Nat → FieldType := fun k => match k with
  | _ => .int
theorem nmJx3cf43 : ∀ a, a < 0 → ∀ b, b < 0 → a ≠ b → (TJx3cf43 a).2.1 ≠ (TJx3cf43 b).2.1 := by decide +kernel
theorem tyJx3cf43_ok : ∀ k, k < 0 → parseFieldDescriptor (TJx3cf43 k).2.2.1 = some (tyJx3cf43 k) := by decide +kernel
def RJ7 : String := "java/util/Arrays"
def TJ7 : u_T := fun k => match k with
  | _ => ("", "", "", false)
def tyJ7 : Nat → FieldType := fun k => match k with
  | _ => .int
theorem nmJ7 : ∀ a, a < 0 → ∀ b, b < 0 → a ≠ b → (TJ7 a).2.1 ≠ (TJ7 b).2.1 := by decide +kernel
theorem tyJ7_ok : ∀ k, k < 0 → parseFieldDescriptor (TJ7 k).2.2.1 = some (tyJ7 k) := by decide +kernel
abbrev cJ7_fill_d0a16 : ByteArray := prog_19_method_101_code
def yJ7_fill_d0a16 : MethodName := ⟨RJ7, "fill", "([JJ)V"⟩
abbrev cJ7_fill_53178 : ByteArray := prog_19_method_103_code
def yJ7_fill_53178 : MethodName := ⟨RJ7, "fill", "([II)V"⟩
def RJ3 : String := "jdk/internal/util/Preconditions"
def TJ3 : u_T := fun k => match k with
  | _ => ("", "", "", false)
def tyJ3 : Nat → FieldType := fun k => match k with
  | _ => .int
theorem nmJ3 : ∀ a, a < 0 → ∀ b, b < 0 → a ≠ b → (TJ3 a).2.1 ≠ (TJ3 b).2.1 := by decide +kernel
theorem tyJ3_ok : ∀ k, k < 0 → parseFieldDescriptor (TJ3 k).2.2.1 = some (tyJ3 k) := by decide +kernel
abbrev cJ3_checkIndex_8e157 : ByteArray := prog_20_method_11_code
def yJ3_checkIndex_8e157 : MethodName := ⟨RJ3, "checkIndex", "(IILjava/util/function/BiFunction;)I"⟩
def RL : String := "UnfinishedFairLaw"
abbrev cL_law : ByteArray := code
def yL_law : MethodName := ⟨RL, "law", "([I)Z"⟩
abbrev vwCl : List vw_C := [(RX0, TX0, 1), (RX1, TX1, 1), (RX2, TX2, 11), (RX3, TX3, 1), (RX4, TX4, 1), (RX5, TX5, 1), (RX6, TX6, 1), (RX7, TX7, 3), (RX8, TX8, 6), (RX9, TX9, 7), (RX10, TX10, 15)]
end
section
theorem dX0_init_0 : decode cX0_init 0 = .ok (.aload_n 0, 1) := by decide +kernel
theorem dX0_init_1 : decode cX0_init 1 = .ok (.aload_n 1, 1) := by decide +kernel
theorem dX0_init_2 : decode cX0_init 2 = .ok (.invokespecial 1, 3) := by decide +kernel
theorem dX0_init_5 : decode cX0_init 5 = .ok (.return_, 1) := by decide +kernel
theorem dX0_goesOn_0 : decode cX0_goesOn 0 = .ok (.aload_n 0, 1) := by decide +kernel
theorem dX0_goesOn_1 : decode cX0_goesOn 1 = .ok (.iload_n 1, 1) := by decide +kernel
theorem dX0_goesOn_2 : decode cX0_goesOn 2 = .ok (.iload_n 2, 1) := by decide +kernel
theorem dX0_goesOn_3 : decode cX0_goesOn 3 = .ok (.iload_n 3, 1) := by decide +kernel
theorem dX0_goesOn_4 : decode cX0_goesOn 4 = .ok (.invokespecial 7, 3) := by decide +kernel
theorem dX0_goesOn_7 : decode cX0_goesOn 7 = .ok (.iconst 2, 1) := by decide +kernel
theorem dX0_goesOn_8 : decode cX0_goesOn 8 = .ok (.idiv, 1) := by decide +kernel
theorem dX0_goesOn_9 : decode cX0_goesOn 9 = .ok (.ireturn, 1) := by decide +kernel
theorem dX0_tires_0 : decode cX0_tires 0 = .ok (.aload_n 0, 1) := by decide +kernel
theorem dX0_tires_1 : decode cX0_tires 1 = .ok (.invokespecial 11, 3) := by decide +kernel
theorem dX0_tires_4 : decode cX0_tires 4 = .ok (.iconst 1, 1) := by decide +kernel
theorem dX0_tires_5 : decode cX0_tires 5 = .ok (.iadd, 1) := by decide +kernel
theorem dX0_tires_6 : decode cX0_tires 6 = .ok (.ireturn, 1) := by decide +kernel
theorem dX0_bid_0 : decode cX0_bid 0 = .ok (.iload_n 1, 1) := by decide +kernel
theorem dX0_bid_1 : decode cX0_bid 1 = .ok (.ireturn, 1) := by decide +kernel
theorem dX0_asked_0 : decode cX0_asked 0 = .ok (.iconst 1, 1) := by decide +kernel
theorem dX0_asked_1 : decode cX0_asked 1 = .ok (.aload_n 0, 1) := by decide +kernel
theorem dX0_asked_2 : decode cX0_asked 2 = .ok (.iload_n 1, 1) := by decide +kernel
theorem dX0_asked_3 : decode cX0_asked 3 = .ok (.iload_n 2, 1) := by decide +kernel
theorem dX0_asked_4 : decode cX0_asked 4 = .ok (.invokespecial 15, 3) := by decide +kernel
theorem dX0_asked_7 : decode cX0_asked 7 = .ok (.iload_n 2, 1) := by decide +kernel
theorem dX0_asked_8 : decode cX0_asked 8 = .ok (.isub, 1) := by decide +kernel
theorem dX0_asked_9 : decode cX0_asked 9 = .ok (.invokestatic 19, 3) := by decide +kernel
theorem dX0_asked_12 : decode cX0_asked 12 = .ok (.ireturn, 1) := by decide +kernel
theorem dX1_init_0 : decode cX1_init 0 = .ok (.aload_n 0, 1) := by decide +kernel
theorem dX1_init_1 : decode cX1_init 1 = .ok (.aload_n 1, 1) := by decide +kernel
theorem dX1_init_2 : decode cX1_init 2 = .ok (.invokespecial 1, 3) := by decide +kernel
theorem dX1_init_5 : decode cX1_init 5 = .ok (.return_, 1) := by decide +kernel
theorem dX1_goesOn_0 : decode cX1_goesOn 0 = .ok (.aload_n 0, 1) := by decide +kernel
theorem dX1_goesOn_1 : decode cX1_goesOn 1 = .ok (.iload_n 1, 1) := by decide +kernel
theorem dX1_goesOn_2 : decode cX1_goesOn 2 = .ok (.iload_n 2, 1) := by decide +kernel
theorem dX1_goesOn_3 : decode cX1_goesOn 3 = .ok (.iload_n 3, 1) := by decide +kernel
theorem dX1_goesOn_4 : decode cX1_goesOn 4 = .ok (.invokespecial 7, 3) := by decide +kernel
theorem dX1_goesOn_7 : decode cX1_goesOn 7 = .ok (.iconst 2, 1) := by decide +kernel
theorem dX1_goesOn_8 : decode cX1_goesOn 8 = .ok (.iadd, 1) := by decide +kernel
theorem dX1_goesOn_9 : decode cX1_goesOn 9 = .ok (.ireturn, 1) := by decide +kernel
theorem dX1_bid_0 : decode cX1_bid 0 = .ok (.aload_n 0, 1) := by decide +kernel
theorem dX1_bid_1 : decode cX1_bid 1 = .ok (.iload_n 1, 1) := by decide +kernel
theorem dX1_bid_2 : decode cX1_bid 2 = .ok (.iload_n 2, 1) := by decide +kernel
theorem dX1_bid_3 : decode cX1_bid 3 = .ok (.iload_n 3, 1) := by decide +kernel
theorem dX1_bid_4 : decode cX1_bid 4 = .ok (.invokespecial 11, 3) := by decide +kernel
theorem dX1_bid_7 : decode cX1_bid 7 = .ok (.iload_n 3, 1) := by decide +kernel
theorem dX1_bid_8 : decode cX1_bid 8 = .ok (.bipush 10, 2) := by decide +kernel
theorem dX1_bid_10 : decode cX1_bid 10 = .ok (.idiv, 1) := by decide +kernel
theorem dX1_bid_11 : decode cX1_bid 11 = .ok (.iadd, 1) := by decide +kernel
theorem dX1_bid_12 : decode cX1_bid 12 = .ok (.ireturn, 1) := by decide +kernel
theorem dX2_init_0 : decode cX2_init 0 = .ok (.aload_n 0, 1) := by decide +kernel
theorem dX2_init_1 : decode cX2_init 1 = .ok (.invokespecial 3, 3) := by decide +kernel
theorem dX2_init_4 : decode cX2_init 4 = .ok (.aload_n 0, 1) := by decide +kernel
theorem dX2_init_5 : decode cX2_init 5 = .ok (.bipush 6, 2) := by decide +kernel
theorem dX2_init_7 : decode cX2_init 7 = .ok (.newarray .int, 2) := by decide +kernel
theorem dX2_init_9 : decode cX2_init 9 = .ok (.putfield 9, 3) := by decide +kernel
theorem dX2_init_12 : decode cX2_init 12 = .ok (.aload_n 0, 1) := by decide +kernel
theorem dX2_init_13 : decode cX2_init 13 = .ok (.bipush 6, 2) := by decide +kernel
theorem dX2_init_15 : decode cX2_init 15 = .ok (.newarray .int, 2) := by decide +kernel
theorem dX2_init_17 : decode cX2_init 17 = .ok (.putfield 15, 3) := by decide +kernel
theorem dX2_init_20 : decode cX2_init 20 = .ok (.aload_n 0, 1) := by decide +kernel
theorem dX2_init_21 : decode cX2_init 21 = .ok (.bipush 6, 2) := by decide +kernel
theorem dX2_init_23 : decode cX2_init 23 = .ok (.newarray .int, 2) := by decide +kernel
theorem dX2_init_25 : decode cX2_init 25 = .ok (.putfield 18, 3) := by decide +kernel
theorem dX2_init_28 : decode cX2_init 28 = .ok (.aload_n 0, 1) := by decide +kernel
theorem dX2_init_29 : decode cX2_init 29 = .ok (.bipush 8, 2) := by decide +kernel
theorem dX2_init_31 : decode cX2_init 31 = .ok (.newarray .int, 2) := by decide +kernel
theorem dX2_init_33 : decode cX2_init 33 = .ok (.putfield 21, 3) := by decide +kernel
theorem dX2_init_36 : decode cX2_init 36 = .ok (.aload_n 0, 1) := by decide +kernel
theorem dX2_init_37 : decode cX2_init 37 = .ok (.bipush 8, 2) := by decide +kernel
theorem dX2_init_39 : decode cX2_init 39 = .ok (.newarray .int, 2) := by decide +kernel
theorem dX2_init_41 : decode cX2_init 41 = .ok (.putfield 24, 3) := by decide +kernel
theorem dX2_init_44 : decode cX2_init 44 = .ok (.aload_n 0, 1) := by decide +kernel
theorem dX2_init_45 : decode cX2_init 45 = .ok (.bipush 8, 2) := by decide +kernel
theorem dX2_init_47 : decode cX2_init 47 = .ok (.newarray .int, 2) := by decide +kernel
theorem dX2_init_49 : decode cX2_init 49 = .ok (.putfield 27, 3) := by decide +kernel
theorem dX2_init_52 : decode cX2_init 52 = .ok (.aload_n 0, 1) := by decide +kernel
theorem dX2_init_53 : decode cX2_init 53 = .ok (.bipush 8, 2) := by decide +kernel
theorem dX2_init_55 : decode cX2_init 55 = .ok (.newarray .int, 2) := by decide +kernel
theorem dX2_init_57 : decode cX2_init 57 = .ok (.putfield 30, 3) := by decide +kernel
theorem dX2_init_60 : decode cX2_init 60 = .ok (.aload_n 0, 1) := by decide +kernel
theorem dX2_init_61 : decode cX2_init 61 = .ok (.bipush 6, 2) := by decide +kernel
theorem dX2_init_63 : decode cX2_init 63 = .ok (.newarray .int, 2) := by decide +kernel
theorem dX2_init_65 : decode cX2_init 65 = .ok (.putfield 33, 3) := by decide +kernel
theorem dX2_init_68 : decode cX2_init 68 = .ok (.aload_n 0, 1) := by decide +kernel
theorem dX2_init_69 : decode cX2_init 69 = .ok (.aload_n 1, 1) := by decide +kernel
theorem dX2_init_70 : decode cX2_init 70 = .ok (.putfield 36, 3) := by decide +kernel
theorem dX2_init_73 : decode cX2_init 73 = .ok (.aload_n 0, 1) := by decide +kernel
theorem dX2_init_74 : decode cX2_init 74 = .ok (.getfield 9, 3) := by decide +kernel
theorem dX2_init_77 : decode cX2_init 77 = .ok (.iconst 5, 1) := by decide +kernel
theorem dX2_init_78 : decode cX2_init 78 = .ok (.invokestatic 40, 3) := by decide +kernel
theorem dX2_init_81 : decode cX2_init 81 = .ok (.aload_n 0, 1) := by decide +kernel
theorem dX2_init_82 : decode cX2_init 82 = .ok (.getfield 15, 3) := by decide +kernel
theorem dX2_init_85 : decode cX2_init 85 = .ok (.iconst 4, 1) := by decide +kernel
theorem dX2_init_86 : decode cX2_init 86 = .ok (.invokestatic 40, 3) := by decide +kernel
theorem dX2_init_89 : decode cX2_init 89 = .ok (.return_, 1) := by decide +kernel
theorem dX2_become_0 : decode cX2_become 0 = .ok (.aload_n 1, 1) := by decide +kernel
theorem dX2_become_1 : decode cX2_become 1 = .ok (.getfield 9, 3) := by decide +kernel
theorem dX2_become_4 : decode cX2_become 4 = .ok (.iconst 0, 1) := by decide +kernel
theorem dX2_become_5 : decode cX2_become 5 = .ok (.aload_n 0, 1) := by decide +kernel
theorem dX2_become_6 : decode cX2_become 6 = .ok (.getfield 9, 3) := by decide +kernel
theorem dX2_become_9 : decode cX2_become 9 = .ok (.iconst 0, 1) := by decide +kernel
theorem dX2_become_10 : decode cX2_become 10 = .ok (.bipush 6, 2) := by decide +kernel
theorem dX2_become_12 : decode cX2_become 12 = .ok (.invokestatic 46, 3) := by decide +kernel
theorem dX2_become_15 : decode cX2_become 15 = .ok (.aload_n 1, 1) := by decide +kernel
theorem dX2_become_16 : decode cX2_become 16 = .ok (.getfield 15, 3) := by decide +kernel
theorem dX2_become_19 : decode cX2_become 19 = .ok (.iconst 0, 1) := by decide +kernel
theorem dX2_become_20 : decode cX2_become 20 = .ok (.aload_n 0, 1) := by decide +kernel
theorem dX2_become_21 : decode cX2_become 21 = .ok (.getfield 15, 3) := by decide +kernel
theorem dX2_become_24 : decode cX2_become 24 = .ok (.iconst 0, 1) := by decide +kernel
theorem dX2_become_25 : decode cX2_become 25 = .ok (.bipush 6, 2) := by decide +kernel
theorem dX2_become_27 : decode cX2_become 27 = .ok (.invokestatic 46, 3) := by decide +kernel
theorem dX2_become_30 : decode cX2_become 30 = .ok (.aload_n 1, 1) := by decide +kernel
theorem dX2_become_31 : decode cX2_become 31 = .ok (.getfield 18, 3) := by decide +kernel
theorem dX2_become_34 : decode cX2_become 34 = .ok (.iconst 0, 1) := by decide +kernel
theorem dX2_become_35 : decode cX2_become 35 = .ok (.aload_n 0, 1) := by decide +kernel
theorem dX2_become_36 : decode cX2_become 36 = .ok (.getfield 18, 3) := by decide +kernel
theorem dX2_become_39 : decode cX2_become 39 = .ok (.iconst 0, 1) := by decide +kernel
theorem dX2_become_40 : decode cX2_become 40 = .ok (.bipush 6, 2) := by decide +kernel
theorem dX2_become_42 : decode cX2_become 42 = .ok (.invokestatic 46, 3) := by decide +kernel
theorem dX2_become_45 : decode cX2_become 45 = .ok (.aload_n 1, 1) := by decide +kernel
theorem dX2_become_46 : decode cX2_become 46 = .ok (.getfield 21, 3) := by decide +kernel
theorem dX2_become_49 : decode cX2_become 49 = .ok (.iconst 0, 1) := by decide +kernel
theorem dX2_become_50 : decode cX2_become 50 = .ok (.aload_n 0, 1) := by decide +kernel
theorem dX2_become_51 : decode cX2_become 51 = .ok (.getfield 21, 3) := by decide +kernel
theorem dX2_become_54 : decode cX2_become 54 = .ok (.iconst 0, 1) := by decide +kernel
theorem dX2_become_55 : decode cX2_become 55 = .ok (.bipush 8, 2) := by decide +kernel
theorem dX2_become_57 : decode cX2_become 57 = .ok (.invokestatic 46, 3) := by decide +kernel
theorem dX2_become_60 : decode cX2_become 60 = .ok (.aload_n 1, 1) := by decide +kernel
theorem dX2_become_61 : decode cX2_become 61 = .ok (.getfield 24, 3) := by decide +kernel
theorem dX2_become_64 : decode cX2_become 64 = .ok (.iconst 0, 1) := by decide +kernel
theorem dX2_become_65 : decode cX2_become 65 = .ok (.aload_n 0, 1) := by decide +kernel
theorem dX2_become_66 : decode cX2_become 66 = .ok (.getfield 24, 3) := by decide +kernel
theorem dX2_become_69 : decode cX2_become 69 = .ok (.iconst 0, 1) := by decide +kernel
theorem dX2_become_70 : decode cX2_become 70 = .ok (.bipush 8, 2) := by decide +kernel
theorem dX2_become_72 : decode cX2_become 72 = .ok (.invokestatic 46, 3) := by decide +kernel
theorem dX2_become_75 : decode cX2_become 75 = .ok (.aload_n 1, 1) := by decide +kernel
theorem dX2_become_76 : decode cX2_become 76 = .ok (.getfield 27, 3) := by decide +kernel
theorem dX2_become_79 : decode cX2_become 79 = .ok (.iconst 0, 1) := by decide +kernel
theorem dX2_become_80 : decode cX2_become 80 = .ok (.aload_n 0, 1) := by decide +kernel
theorem dX2_become_81 : decode cX2_become 81 = .ok (.getfield 27, 3) := by decide +kernel
theorem dX2_become_84 : decode cX2_become 84 = .ok (.iconst 0, 1) := by decide +kernel
theorem dX2_become_85 : decode cX2_become 85 = .ok (.bipush 8, 2) := by decide +kernel
theorem dX2_become_87 : decode cX2_become 87 = .ok (.invokestatic 46, 3) := by decide +kernel
theorem dX2_become_90 : decode cX2_become 90 = .ok (.aload_n 1, 1) := by decide +kernel
theorem dX2_become_91 : decode cX2_become 91 = .ok (.getfield 30, 3) := by decide +kernel
theorem dX2_become_94 : decode cX2_become 94 = .ok (.iconst 0, 1) := by decide +kernel
theorem dX2_become_95 : decode cX2_become 95 = .ok (.aload_n 0, 1) := by decide +kernel
theorem dX2_become_96 : decode cX2_become 96 = .ok (.getfield 30, 3) := by decide +kernel
theorem dX2_become_99 : decode cX2_become 99 = .ok (.iconst 0, 1) := by decide +kernel
theorem dX2_become_100 : decode cX2_become 100 = .ok (.bipush 8, 2) := by decide +kernel
theorem dX2_become_102 : decode cX2_become 102 = .ok (.invokestatic 46, 3) := by decide +kernel
theorem dX2_become_105 : decode cX2_become 105 = .ok (.aload_n 0, 1) := by decide +kernel
theorem dX2_become_106 : decode cX2_become 106 = .ok (.aload_n 1, 1) := by decide +kernel
theorem dX2_become_107 : decode cX2_become 107 = .ok (.getfield 52, 3) := by decide +kernel
theorem dX2_become_110 : decode cX2_become 110 = .ok (.putfield 52, 3) := by decide +kernel
theorem dX2_become_113 : decode cX2_become 113 = .ok (.aload_n 0, 1) := by decide +kernel
theorem dX2_become_114 : decode cX2_become 114 = .ok (.aload_n 1, 1) := by decide +kernel
theorem dX2_become_115 : decode cX2_become 115 = .ok (.getfield 56, 3) := by decide +kernel
theorem dX2_become_118 : decode cX2_become 118 = .ok (.putfield 56, 3) := by decide +kernel
theorem dX2_become_121 : decode cX2_become 121 = .ok (.return_, 1) := by decide +kernel
theorem dX2_isFull_0 : decode cX2_isFull 0 = .ok (.aload_n 0, 1) := by decide +kernel
theorem dX2_isFull_1 : decode cX2_isFull 1 = .ok (.getfield 56, 3) := by decide +kernel
theorem dX2_isFull_4 : decode cX2_isFull 4 = .ok (.bipush 8, 2) := by decide +kernel
theorem dX2_isFull_6 : decode cX2_isFull 6 = .ok (.if_icmp .lt 7, 3) := by decide +kernel
theorem dX2_isFull_9 : decode cX2_isFull 9 = .ok (.iconst 1, 1) := by decide +kernel
theorem dX2_isFull_10 : decode cX2_isFull 10 = .ok (.goto 4, 3) := by decide +kernel
theorem dX2_isFull_13 : decode cX2_isFull 13 = .ok (.iconst 0, 1) := by decide +kernel
theorem dX2_isFull_14 : decode cX2_isFull 14 = .ok (.ireturn, 1) := by decide +kernel
theorem dX2_add_0 : decode cX2_add 0 = .ok (.aload_n 0, 1) := by decide +kernel
theorem dX2_add_1 : decode cX2_add 1 = .ok (.invokevirtual 59, 3) := by decide +kernel
theorem dX2_add_4 : decode cX2_add 4 = .ok (.ifCond .eq 4, 3) := by decide +kernel
theorem dX2_add_7 : decode cX2_add 7 = .ok (.return_, 1) := by decide +kernel
theorem dX2_add_8 : decode cX2_add 8 = .ok (.aload_n 0, 1) := by decide +kernel
theorem dX2_add_9 : decode cX2_add 9 = .ok (.getfield 21, 3) := by decide +kernel
theorem dX2_add_12 : decode cX2_add 12 = .ok (.aload_n 0, 1) := by decide +kernel
theorem dX2_add_13 : decode cX2_add 13 = .ok (.getfield 56, 3) := by decide +kernel
theorem dX2_add_16 : decode cX2_add 16 = .ok (.iload_n 1, 1) := by decide +kernel
theorem dX2_add_17 : decode cX2_add 17 = .ok (.iastore, 1) := by decide +kernel
theorem dX2_add_18 : decode cX2_add 18 = .ok (.aload_n 0, 1) := by decide +kernel
theorem dX2_add_19 : decode cX2_add 19 = .ok (.getfield 24, 3) := by decide +kernel
theorem dX2_add_22 : decode cX2_add 22 = .ok (.aload_n 0, 1) := by decide +kernel
theorem dX2_add_23 : decode cX2_add 23 = .ok (.getfield 56, 3) := by decide +kernel
theorem dX2_add_26 : decode cX2_add 26 = .ok (.iload_n 2, 1) := by decide +kernel
theorem dX2_add_27 : decode cX2_add 27 = .ok (.iastore, 1) := by decide +kernel
theorem dX2_add_28 : decode cX2_add 28 = .ok (.aload_n 0, 1) := by decide +kernel
theorem dX2_add_29 : decode cX2_add 29 = .ok (.getfield 27, 3) := by decide +kernel
theorem dX2_add_32 : decode cX2_add 32 = .ok (.aload_n 0, 1) := by decide +kernel
theorem dX2_add_33 : decode cX2_add 33 = .ok (.getfield 56, 3) := by decide +kernel
theorem dX2_add_36 : decode cX2_add 36 = .ok (.iload_n 3, 1) := by decide +kernel
theorem dX2_add_37 : decode cX2_add 37 = .ok (.iastore, 1) := by decide +kernel
theorem dX2_add_38 : decode cX2_add 38 = .ok (.aload_n 0, 1) := by decide +kernel
theorem dX2_add_39 : decode cX2_add 39 = .ok (.getfield 30, 3) := by decide +kernel
theorem dX2_add_42 : decode cX2_add 42 = .ok (.aload_n 0, 1) := by decide +kernel
theorem dX2_add_43 : decode cX2_add 43 = .ok (.getfield 56, 3) := by decide +kernel
theorem dX2_add_46 : decode cX2_add 46 = .ok (.iload 4, 2) := by decide +kernel
theorem dX2_add_48 : decode cX2_add 48 = .ok (.iastore, 1) := by decide +kernel
theorem dX2_add_49 : decode cX2_add 49 = .ok (.aload_n 0, 1) := by decide +kernel
theorem dX2_add_50 : decode cX2_add 50 = .ok (.dup, 1) := by decide +kernel
theorem dX2_add_51 : decode cX2_add 51 = .ok (.getfield 56, 3) := by decide +kernel
theorem dX2_add_54 : decode cX2_add 54 = .ok (.iconst 1, 1) := by decide +kernel
theorem dX2_add_55 : decode cX2_add 55 = .ok (.iadd, 1) := by decide +kernel
theorem dX2_add_56 : decode cX2_add 56 = .ok (.putfield 56, 3) := by decide +kernel
theorem dX2_add_59 : decode cX2_add 59 = .ok (.return_, 1) := by decide +kernel
theorem dX2_natureOf_0 : decode cX2_natureOf 0 = .ok (.aload_n 0, 1) := by decide +kernel
theorem dX2_natureOf_1 : decode cX2_natureOf 1 = .ok (.getfield 36, 3) := by decide +kernel
theorem dX2_natureOf_4 : decode cX2_natureOf 4 = .ok (.aload_n 0, 1) := by decide +kernel
theorem dX2_natureOf_5 : decode cX2_natureOf 5 = .ok (.getfield 21, 3) := by decide +kernel
theorem dX2_natureOf_8 : decode cX2_natureOf 8 = .ok (.iload_n 1, 1) := by decide +kernel
theorem dX2_natureOf_9 : decode cX2_natureOf 9 = .ok (.iaload, 1) := by decide +kernel
theorem dX2_natureOf_10 : decode cX2_natureOf 10 = .ok (.aaload, 1) := by decide +kernel
theorem dX2_natureOf_11 : decode cX2_natureOf 11 = .ok (.areturn, 1) := by decide +kernel
theorem dX2_isFinished_0 : decode cX2_isFinished 0 = .ok (.aload_n 0, 1) := by decide +kernel
theorem dX2_isFinished_1 : decode cX2_isFinished 1 = .ok (.getfield 24, 3) := by decide +kernel
theorem dX2_isFinished_4 : decode cX2_isFinished 4 = .ok (.iload_n 1, 1) := by decide +kernel
theorem dX2_isFinished_5 : decode cX2_isFinished 5 = .ok (.iaload, 1) := by decide +kernel
theorem dX2_isFinished_6 : decode cX2_isFinished 6 = .ok (.bipush 100, 2) := by decide +kernel
theorem dX2_isFinished_8 : decode cX2_isFinished 8 = .ok (.if_icmp .lt 7, 3) := by decide +kernel
theorem dX2_isFinished_11 : decode cX2_isFinished 11 = .ok (.iconst 1, 1) := by decide +kernel
theorem dX2_isFinished_12 : decode cX2_isFinished 12 = .ok (.goto 4, 3) := by decide +kernel
theorem dX2_isFinished_15 : decode cX2_isFinished 15 = .ok (.iconst 0, 1) := by decide +kernel
theorem dX2_isFinished_16 : decode cX2_isFinished 16 = .ok (.ireturn, 1) := by decide +kernel
theorem dX2_canBeLeft_0 : decode cX2_canBeLeft 0 = .ok (.aload_n 0, 1) := by decide +kernel
theorem dX2_canBeLeft_1 : decode cX2_canBeLeft 1 = .ok (.getfield 27, 3) := by decide +kernel
theorem dX2_canBeLeft_4 : decode cX2_canBeLeft 4 = .ok (.iload_n 1, 1) := by decide +kernel
theorem dX2_canBeLeft_5 : decode cX2_canBeLeft 5 = .ok (.iaload, 1) := by decide +kernel
theorem dX2_canBeLeft_6 : decode cX2_canBeLeft 6 = .ok (.iconst (-1), 1) := by decide +kernel
theorem dX2_canBeLeft_7 : decode cX2_canBeLeft 7 = .ok (.if_icmp .eq 15, 3) := by decide +kernel
theorem dX2_canBeLeft_10 : decode cX2_canBeLeft 10 = .ok (.aload_n 0, 1) := by decide +kernel
theorem dX2_canBeLeft_11 : decode cX2_canBeLeft 11 = .ok (.iload_n 1, 1) := by decide +kernel
theorem dX2_canBeLeft_12 : decode cX2_canBeLeft 12 = .ok (.invokevirtual 63, 3) := by decide +kernel
theorem dX2_canBeLeft_15 : decode cX2_canBeLeft 15 = .ok (.ifCond .ne 7, 3) := by decide +kernel
theorem dX2_canBeLeft_18 : decode cX2_canBeLeft 18 = .ok (.iconst 1, 1) := by decide +kernel
theorem dX2_canBeLeft_19 : decode cX2_canBeLeft 19 = .ok (.goto 4, 3) := by decide +kernel
theorem dX2_canBeLeft_22 : decode cX2_canBeLeft 22 = .ok (.iconst 0, 1) := by decide +kernel
theorem dX2_canBeLeft_23 : decode cX2_canBeLeft 23 = .ok (.ireturn, 1) := by decide +kernel
theorem dX2_isForTheFair_0 : decode cX2_isForTheFair 0 = .ok (.aload_n 0, 1) := by decide +kernel
theorem dX2_isForTheFair_1 : decode cX2_isForTheFair 1 = .ok (.getfield 27, 3) := by decide +kernel
theorem dX2_isForTheFair_4 : decode cX2_isForTheFair 4 = .ok (.iload_n 1, 1) := by decide +kernel
theorem dX2_isForTheFair_5 : decode cX2_isForTheFair 5 = .ok (.iaload, 1) := by decide +kernel
theorem dX2_isForTheFair_6 : decode cX2_isForTheFair 6 = .ok (.iconst (-1), 1) := by decide +kernel
theorem dX2_isForTheFair_7 : decode cX2_isForTheFair 7 = .ok (.if_icmp .ne 15, 3) := by decide +kernel
theorem dX2_isForTheFair_10 : decode cX2_isForTheFair 10 = .ok (.aload_n 0, 1) := by decide +kernel
theorem dX2_isForTheFair_11 : decode cX2_isForTheFair 11 = .ok (.iload_n 1, 1) := by decide +kernel
theorem dX2_isForTheFair_12 : decode cX2_isForTheFair 12 = .ok (.invokevirtual 63, 3) := by decide +kernel
theorem dX2_isForTheFair_15 : decode cX2_isForTheFair 15 = .ok (.ifCond .ne 7, 3) := by decide +kernel
theorem dX2_isForTheFair_18 : decode cX2_isForTheFair 18 = .ok (.iconst 1, 1) := by decide +kernel
theorem dX2_isForTheFair_19 : decode cX2_isForTheFair 19 = .ok (.goto 4, 3) := by decide +kernel
theorem dX2_isForTheFair_22 : decode cX2_isForTheFair 22 = .ok (.iconst 0, 1) := by decide +kernel
theorem dX2_isForTheFair_23 : decode cX2_isForTheFair 23 = .ok (.ireturn, 1) := by decide +kernel
theorem dX2_letGo_0 : decode cX2_letGo 0 = .ok (.aload_n 0, 1) := by decide +kernel
theorem dX2_letGo_1 : decode cX2_letGo 1 = .ok (.getfield 15, 3) := by decide +kernel
theorem dX2_letGo_4 : decode cX2_letGo 4 = .ok (.aload_n 0, 1) := by decide +kernel
theorem dX2_letGo_5 : decode cX2_letGo 5 = .ok (.getfield 27, 3) := by decide +kernel
theorem dX2_letGo_8 : decode cX2_letGo 8 = .ok (.iload_n 1, 1) := by decide +kernel
theorem dX2_letGo_9 : decode cX2_letGo 9 = .ok (.iaload, 1) := by decide +kernel
theorem dX2_letGo_10 : decode cX2_letGo 10 = .ok (.iconst 4, 1) := by decide +kernel
theorem dX2_letGo_11 : decode cX2_letGo 11 = .ok (.iastore, 1) := by decide +kernel
theorem dX2_letGo_12 : decode cX2_letGo 12 = .ok (.aload_n 0, 1) := by decide +kernel
theorem dX2_letGo_13 : decode cX2_letGo 13 = .ok (.getfield 27, 3) := by decide +kernel
theorem dX2_letGo_16 : decode cX2_letGo 16 = .ok (.iload_n 1, 1) := by decide +kernel
theorem dX2_letGo_17 : decode cX2_letGo 17 = .ok (.iconst (-1), 1) := by decide +kernel
theorem dX2_letGo_18 : decode cX2_letGo 18 = .ok (.iastore, 1) := by decide +kernel
theorem dX2_letGo_19 : decode cX2_letGo 19 = .ok (.aload_n 0, 1) := by decide +kernel
theorem dX2_letGo_20 : decode cX2_letGo 20 = .ok (.getfield 30, 3) := by decide +kernel
theorem dX2_letGo_23 : decode cX2_letGo 23 = .ok (.iload_n 1, 1) := by decide +kernel
theorem dX2_letGo_24 : decode cX2_letGo 24 = .ok (.iconst 0, 1) := by decide +kernel
theorem dX2_letGo_25 : decode cX2_letGo 25 = .ok (.iastore, 1) := by decide +kernel
theorem dX2_letGo_26 : decode cX2_letGo 26 = .ok (.return_, 1) := by decide +kernel
theorem dX2_goYears_0 : decode cX2_goYears 0 = .ok (.iconst 0, 1) := by decide +kernel
theorem dX2_goYears_1 : decode cX2_goYears 1 = .ok (.istore_n 2, 1) := by decide +kernel
theorem dX2_goYears_2 : decode cX2_goYears 2 = .ok (.iload_n 2, 1) := by decide +kernel
theorem dX2_goYears_3 : decode cX2_goYears 3 = .ok (.iload_n 1, 1) := by decide +kernel
theorem dX2_goYears_4 : decode cX2_goYears 4 = .ok (.if_icmp .ge 13, 3) := by decide +kernel
theorem dX2_goYears_7 : decode cX2_goYears 7 = .ok (.aload_n 0, 1) := by decide +kernel
theorem dX2_goYears_8 : decode cX2_goYears 8 = .ok (.invokevirtual 67, 3) := by decide +kernel
theorem dX2_goYears_11 : decode cX2_goYears 11 = .ok (.iinc 2 1, 3) := by decide +kernel
theorem dX2_goYears_14 : decode cX2_goYears 14 = .ok (.goto (-12), 3) := by decide +kernel
theorem dX2_goYears_17 : decode cX2_goYears 17 = .ok (.return_, 1) := by decide +kernel
theorem dX2_goYear_0 : decode cX2_goYear 0 = .ok (.iconst 0, 1) := by decide +kernel
theorem dX2_goYear_1 : decode cX2_goYear 1 = .ok (.istore_n 1, 1) := by decide +kernel
theorem dX2_goYear_2 : decode cX2_goYear 2 = .ok (.iload_n 1, 1) := by decide +kernel
theorem dX2_goYear_3 : decode cX2_goYear 3 = .ok (.aload_n 0, 1) := by decide +kernel
theorem dX2_goYear_4 : decode cX2_goYear 4 = .ok (.getfield 56, 3) := by decide +kernel
theorem dX2_goYear_7 : decode cX2_goYear 7 = .ok (.if_icmp .ge 22, 3) := by decide +kernel
theorem dX2_goYear_10 : decode cX2_goYear 10 = .ok (.aload_n 0, 1) := by decide +kernel
theorem dX2_goYear_11 : decode cX2_goYear 11 = .ok (.iload_n 1, 1) := by decide +kernel
theorem dX2_goYear_12 : decode cX2_goYear 12 = .ok (.invokevirtual 70, 3) := by decide +kernel
theorem dX2_goYear_15 : decode cX2_goYear 15 = .ok (.ifCond .eq 8, 3) := by decide +kernel
theorem dX2_goYear_18 : decode cX2_goYear 18 = .ok (.aload_n 0, 1) := by decide +kernel
theorem dX2_goYear_19 : decode cX2_goYear 19 = .ok (.iload_n 1, 1) := by decide +kernel
theorem dX2_goYear_20 : decode cX2_goYear 20 = .ok (.invokevirtual 73, 3) := by decide +kernel
theorem dX2_goYear_23 : decode cX2_goYear 23 = .ok (.iinc 1 1, 3) := by decide +kernel
theorem dX2_goYear_26 : decode cX2_goYear 26 = .ok (.goto (-24), 3) := by decide +kernel
theorem dX2_goYear_29 : decode cX2_goYear 29 = .ok (.aload_n 0, 1) := by decide +kernel
theorem dX2_goYear_30 : decode cX2_goYear 30 = .ok (.invokevirtual 77, 3) := by decide +kernel
theorem dX2_goYear_33 : decode cX2_goYear 33 = .ok (.iconst 0, 1) := by decide +kernel
theorem dX2_goYear_34 : decode cX2_goYear 34 = .ok (.istore_n 1, 1) := by decide +kernel
theorem dX2_goYear_35 : decode cX2_goYear 35 = .ok (.iload_n 1, 1) := by decide +kernel
theorem dX2_goYear_36 : decode cX2_goYear 36 = .ok (.aload_n 0, 1) := by decide +kernel
theorem dX2_goYear_37 : decode cX2_goYear 37 = .ok (.getfield 56, 3) := by decide +kernel
theorem dX2_goYear_40 : decode cX2_goYear 40 = .ok (.if_icmp .ge 22, 3) := by decide +kernel
theorem dX2_goYear_43 : decode cX2_goYear 43 = .ok (.aload_n 0, 1) := by decide +kernel
theorem dX2_goYear_44 : decode cX2_goYear 44 = .ok (.iload_n 1, 1) := by decide +kernel
theorem dX2_goYear_45 : decode cX2_goYear 45 = .ok (.invokevirtual 80, 3) := by decide +kernel
theorem dX2_goYear_48 : decode cX2_goYear 48 = .ok (.ifCond .eq 8, 3) := by decide +kernel
theorem dX2_goYear_51 : decode cX2_goYear 51 = .ok (.aload_n 0, 1) := by decide +kernel
theorem dX2_goYear_52 : decode cX2_goYear 52 = .ok (.iload_n 1, 1) := by decide +kernel
theorem dX2_goYear_53 : decode cX2_goYear 53 = .ok (.invokevirtual 83, 3) := by decide +kernel
theorem dX2_goYear_56 : decode cX2_goYear 56 = .ok (.iinc 1 1, 3) := by decide +kernel
theorem dX2_goYear_59 : decode cX2_goYear 59 = .ok (.goto (-24), 3) := by decide +kernel
theorem dX2_goYear_62 : decode cX2_goYear 62 = .ok (.aload_n 0, 1) := by decide +kernel
theorem dX2_goYear_63 : decode cX2_goYear 63 = .ok (.dup, 1) := by decide +kernel
theorem dX2_goYear_64 : decode cX2_goYear 64 = .ok (.getfield 52, 3) := by decide +kernel
theorem dX2_goYear_67 : decode cX2_goYear 67 = .ok (.iconst 1, 1) := by decide +kernel
theorem dX2_goYear_68 : decode cX2_goYear 68 = .ok (.iadd, 1) := by decide +kernel
theorem dX2_goYear_69 : decode cX2_goYear 69 = .ok (.putfield 52, 3) := by decide +kernel
theorem dX2_goYear_72 : decode cX2_goYear 72 = .ok (.return_, 1) := by decide +kernel
theorem dX2_workOn_0 : decode cX2_workOn 0 = .ok (.aload_n 0, 1) := by decide +kernel
theorem dX2_workOn_1 : decode cX2_workOn 1 = .ok (.getfield 27, 3) := by decide +kernel
theorem dX2_workOn_4 : decode cX2_workOn 4 = .ok (.iload_n 1, 1) := by decide +kernel
theorem dX2_workOn_5 : decode cX2_workOn 5 = .ok (.iaload, 1) := by decide +kernel
theorem dX2_workOn_6 : decode cX2_workOn 6 = .ok (.istore_n 2, 1) := by decide +kernel
theorem dX2_workOn_7 : decode cX2_workOn 7 = .ok (.aload_n 0, 1) := by decide +kernel
theorem dX2_workOn_8 : decode cX2_workOn 8 = .ok (.iload_n 1, 1) := by decide +kernel
theorem dX2_workOn_9 : decode cX2_workOn 9 = .ok (.invokevirtual 86, 3) := by decide +kernel
theorem dX2_workOn_12 : decode cX2_workOn 12 = .ok (.astore_n 3, 1) := by decide +kernel
theorem dX2_workOn_13 : decode cX2_workOn 13 = .ok (.aload_n 3, 1) := by decide +kernel
theorem dX2_workOn_14 : decode cX2_workOn 14 = .ok (.aload_n 0, 1) := by decide +kernel
theorem dX2_workOn_15 : decode cX2_workOn 15 = .ok (.getfield 9, 3) := by decide +kernel
theorem dX2_workOn_18 : decode cX2_workOn 18 = .ok (.iload_n 2, 1) := by decide +kernel
theorem dX2_workOn_19 : decode cX2_workOn 19 = .ok (.iaload, 1) := by decide +kernel
theorem dX2_workOn_20 : decode cX2_workOn 20 = .ok (.aload_n 0, 1) := by decide +kernel
theorem dX2_workOn_21 : decode cX2_workOn 21 = .ok (.getfield 24, 3) := by decide +kernel
theorem dX2_workOn_24 : decode cX2_workOn 24 = .ok (.iload_n 1, 1) := by decide +kernel
theorem dX2_workOn_25 : decode cX2_workOn 25 = .ok (.iaload, 1) := by decide +kernel
theorem dX2_workOn_26 : decode cX2_workOn 26 = .ok (.aload_n 0, 1) := by decide +kernel
theorem dX2_workOn_27 : decode cX2_workOn 27 = .ok (.getfield 30, 3) := by decide +kernel
theorem dX2_workOn_30 : decode cX2_workOn 30 = .ok (.iload_n 1, 1) := by decide +kernel
theorem dX2_workOn_31 : decode cX2_workOn 31 = .ok (.iaload, 1) := by decide +kernel
theorem dX2_workOn_32 : decode cX2_workOn 32 = .ok (.invokevirtual 90, 3) := by decide +kernel
theorem dX2_workOn_35 : decode cX2_workOn 35 = .ok (.istore 4, 2) := by decide +kernel
theorem dX2_workOn_37 : decode cX2_workOn 37 = .ok (.aload_n 0, 1) := by decide +kernel
theorem dX2_workOn_38 : decode cX2_workOn 38 = .ok (.getfield 24, 3) := by decide +kernel
theorem dX2_workOn_41 : decode cX2_workOn 41 = .ok (.iload_n 1, 1) := by decide +kernel
theorem dX2_workOn_42 : decode cX2_workOn 42 = .ok (.bipush 100, 2) := by decide +kernel
theorem dX2_workOn_44 : decode cX2_workOn 44 = .ok (.aload_n 0, 1) := by decide +kernel
theorem dX2_workOn_45 : decode cX2_workOn 45 = .ok (.getfield 24, 3) := by decide +kernel
theorem dX2_workOn_48 : decode cX2_workOn 48 = .ok (.iload_n 1, 1) := by decide +kernel
theorem dX2_workOn_49 : decode cX2_workOn 49 = .ok (.iaload, 1) := by decide +kernel
theorem dX2_workOn_50 : decode cX2_workOn 50 = .ok (.iload 4, 2) := by decide +kernel
theorem dX2_workOn_52 : decode cX2_workOn 52 = .ok (.iadd, 1) := by decide +kernel
theorem dX2_workOn_53 : decode cX2_workOn 53 = .ok (.invokestatic 96, 3) := by decide +kernel
theorem dX2_workOn_56 : decode cX2_workOn 56 = .ok (.iastore, 1) := by decide +kernel
theorem dX2_workOn_57 : decode cX2_workOn 57 = .ok (.aload_n 0, 1) := by decide +kernel
theorem dX2_workOn_58 : decode cX2_workOn 58 = .ok (.iload_n 1, 1) := by decide +kernel
theorem dX2_workOn_59 : decode cX2_workOn 59 = .ok (.invokevirtual 63, 3) := by decide +kernel
theorem dX2_workOn_62 : decode cX2_workOn 62 = .ok (.ifCond .eq 43, 3) := by decide +kernel
theorem dX2_workOn_65 : decode cX2_workOn 65 = .ok (.aload_n 0, 1) := by decide +kernel
theorem dX2_workOn_66 : decode cX2_workOn 66 = .ok (.getfield 18, 3) := by decide +kernel
theorem dX2_workOn_69 : decode cX2_workOn 69 = .ok (.iload_n 2, 1) := by decide +kernel
theorem dX2_workOn_70 : decode cX2_workOn 70 = .ok (.sipush 999, 3) := by decide +kernel
theorem dX2_workOn_73 : decode cX2_workOn 73 = .ok (.aload_n 0, 1) := by decide +kernel
theorem dX2_workOn_74 : decode cX2_workOn 74 = .ok (.getfield 18, 3) := by decide +kernel
theorem dX2_workOn_77 : decode cX2_workOn 77 = .ok (.iload_n 2, 1) := by decide +kernel
theorem dX2_workOn_78 : decode cX2_workOn 78 = .ok (.iaload, 1) := by decide +kernel
theorem dX2_workOn_79 : decode cX2_workOn 79 = .ok (.iconst 1, 1) := by decide +kernel
theorem dX2_workOn_80 : decode cX2_workOn 80 = .ok (.iadd, 1) := by decide +kernel
theorem dX2_workOn_81 : decode cX2_workOn 81 = .ok (.invokestatic 96, 3) := by decide +kernel
theorem dX2_workOn_84 : decode cX2_workOn 84 = .ok (.iastore, 1) := by decide +kernel
theorem dX2_workOn_85 : decode cX2_workOn 85 = .ok (.aload_n 0, 1) := by decide +kernel
theorem dX2_workOn_86 : decode cX2_workOn 86 = .ok (.getfield 15, 3) := by decide +kernel
theorem dX2_workOn_89 : decode cX2_workOn 89 = .ok (.iload_n 2, 1) := by decide +kernel
theorem dX2_workOn_90 : decode cX2_workOn 90 = .ok (.bipush 9, 2) := by decide +kernel
theorem dX2_workOn_92 : decode cX2_workOn 92 = .ok (.aload_n 0, 1) := by decide +kernel
theorem dX2_workOn_93 : decode cX2_workOn 93 = .ok (.getfield 15, 3) := by decide +kernel
theorem dX2_workOn_96 : decode cX2_workOn 96 = .ok (.iload_n 2, 1) := by decide +kernel
theorem dX2_workOn_97 : decode cX2_workOn 97 = .ok (.iaload, 1) := by decide +kernel
theorem dX2_workOn_98 : decode cX2_workOn 98 = .ok (.iconst 2, 1) := by decide +kernel
theorem dX2_workOn_99 : decode cX2_workOn 99 = .ok (.iadd, 1) := by decide +kernel
theorem dX2_workOn_100 : decode cX2_workOn 100 = .ok (.invokestatic 96, 3) := by decide +kernel
theorem dX2_workOn_103 : decode cX2_workOn 103 = .ok (.iastore, 1) := by decide +kernel
theorem dX2_workOn_104 : decode cX2_workOn 104 = .ok (.return_, 1) := by decide +kernel
theorem dX2_workOn_105 : decode cX2_workOn 105 = .ok (.aload_n 0, 1) := by decide +kernel
theorem dX2_workOn_106 : decode cX2_workOn 106 = .ok (.getfield 15, 3) := by decide +kernel
theorem dX2_workOn_109 : decode cX2_workOn 109 = .ok (.iload_n 2, 1) := by decide +kernel
theorem dX2_workOn_110 : decode cX2_workOn 110 = .ok (.dup2, 1) := by decide +kernel
theorem dX2_workOn_111 : decode cX2_workOn 111 = .ok (.iaload, 1) := by decide +kernel
theorem dX2_workOn_112 : decode cX2_workOn 112 = .ok (.aload_n 3, 1) := by decide +kernel
theorem dX2_workOn_113 : decode cX2_workOn 113 = .ok (.invokevirtual 102, 3) := by decide +kernel
theorem dX2_workOn_116 : decode cX2_workOn 116 = .ok (.isub, 1) := by decide +kernel
theorem dX2_workOn_117 : decode cX2_workOn 117 = .ok (.iastore, 1) := by decide +kernel
theorem dX2_workOn_118 : decode cX2_workOn 118 = .ok (.aload_n 0, 1) := by decide +kernel
theorem dX2_workOn_119 : decode cX2_workOn 119 = .ok (.getfield 15, 3) := by decide +kernel
theorem dX2_workOn_122 : decode cX2_workOn 122 = .ok (.iload_n 2, 1) := by decide +kernel
theorem dX2_workOn_123 : decode cX2_workOn 123 = .ok (.iaload, 1) := by decide +kernel
theorem dX2_workOn_124 : decode cX2_workOn 124 = .ok (.ifCond .gt 8, 3) := by decide +kernel
theorem dX2_workOn_127 : decode cX2_workOn 127 = .ok (.aload_n 0, 1) := by decide +kernel
theorem dX2_workOn_128 : decode cX2_workOn 128 = .ok (.iload_n 1, 1) := by decide +kernel
theorem dX2_workOn_129 : decode cX2_workOn 129 = .ok (.invokevirtual 106, 3) := by decide +kernel
theorem dX2_workOn_132 : decode cX2_workOn 132 = .ok (.return_, 1) := by decide +kernel
theorem dX2_countHeld_0 : decode cX2_countHeld 0 = .ok (.aload_n 0, 1) := by decide +kernel
theorem dX2_countHeld_1 : decode cX2_countHeld 1 = .ok (.getfield 33, 3) := by decide +kernel
theorem dX2_countHeld_4 : decode cX2_countHeld 4 = .ok (.iconst 0, 1) := by decide +kernel
theorem dX2_countHeld_5 : decode cX2_countHeld 5 = .ok (.invokestatic 40, 3) := by decide +kernel
theorem dX2_countHeld_8 : decode cX2_countHeld 8 = .ok (.iconst 0, 1) := by decide +kernel
theorem dX2_countHeld_9 : decode cX2_countHeld 9 = .ok (.istore_n 1, 1) := by decide +kernel
theorem dX2_countHeld_10 : decode cX2_countHeld 10 = .ok (.iload_n 1, 1) := by decide +kernel
theorem dX2_countHeld_11 : decode cX2_countHeld 11 = .ok (.aload_n 0, 1) := by decide +kernel
theorem dX2_countHeld_12 : decode cX2_countHeld 12 = .ok (.getfield 56, 3) := by decide +kernel
theorem dX2_countHeld_15 : decode cX2_countHeld 15 = .ok (.if_icmp .ge 32, 3) := by decide +kernel
theorem dX2_countHeld_18 : decode cX2_countHeld 18 = .ok (.aload_n 0, 1) := by decide +kernel
theorem dX2_countHeld_19 : decode cX2_countHeld 19 = .ok (.iload_n 1, 1) := by decide +kernel
theorem dX2_countHeld_20 : decode cX2_countHeld 20 = .ok (.invokevirtual 70, 3) := by decide +kernel
theorem dX2_countHeld_23 : decode cX2_countHeld 23 = .ok (.ifCond .eq 18, 3) := by decide +kernel
theorem dX2_countHeld_26 : decode cX2_countHeld 26 = .ok (.aload_n 0, 1) := by decide +kernel
theorem dX2_countHeld_27 : decode cX2_countHeld 27 = .ok (.getfield 33, 3) := by decide +kernel
theorem dX2_countHeld_30 : decode cX2_countHeld 30 = .ok (.aload_n 0, 1) := by decide +kernel
theorem dX2_countHeld_31 : decode cX2_countHeld 31 = .ok (.getfield 27, 3) := by decide +kernel
theorem dX2_countHeld_34 : decode cX2_countHeld 34 = .ok (.iload_n 1, 1) := by decide +kernel
theorem dX2_countHeld_35 : decode cX2_countHeld 35 = .ok (.iaload, 1) := by decide +kernel
theorem dX2_countHeld_36 : decode cX2_countHeld 36 = .ok (.dup2, 1) := by decide +kernel
theorem dX2_countHeld_37 : decode cX2_countHeld 37 = .ok (.iaload, 1) := by decide +kernel
theorem dX2_countHeld_38 : decode cX2_countHeld 38 = .ok (.iconst 1, 1) := by decide +kernel
theorem dX2_countHeld_39 : decode cX2_countHeld 39 = .ok (.iadd, 1) := by decide +kernel
theorem dX2_countHeld_40 : decode cX2_countHeld 40 = .ok (.iastore, 1) := by decide +kernel
theorem dX2_countHeld_41 : decode cX2_countHeld 41 = .ok (.iinc 1 1, 3) := by decide +kernel
theorem dX2_countHeld_44 : decode cX2_countHeld 44 = .ok (.goto (-34), 3) := by decide +kernel
theorem dX2_countHeld_47 : decode cX2_countHeld 47 = .ok (.return_, 1) := by decide +kernel
theorem dX2_offer_0 : decode cX2_offer 0 = .ok (.aload_n 0, 1) := by decide +kernel
theorem dX2_offer_1 : decode cX2_offer 1 = .ok (.getfield 30, 3) := by decide +kernel
theorem dX2_offer_4 : decode cX2_offer 4 = .ok (.iload_n 1, 1) := by decide +kernel
theorem dX2_offer_5 : decode cX2_offer 5 = .ok (.sipush 999, 3) := by decide +kernel
theorem dX2_offer_8 : decode cX2_offer 8 = .ok (.aload_n 0, 1) := by decide +kernel
theorem dX2_offer_9 : decode cX2_offer 9 = .ok (.getfield 30, 3) := by decide +kernel
theorem dX2_offer_12 : decode cX2_offer 12 = .ok (.iload_n 1, 1) := by decide +kernel
theorem dX2_offer_13 : decode cX2_offer 13 = .ok (.iaload, 1) := by decide +kernel
theorem dX2_offer_14 : decode cX2_offer 14 = .ok (.iconst 1, 1) := by decide +kernel
theorem dX2_offer_15 : decode cX2_offer 15 = .ok (.iadd, 1) := by decide +kernel
theorem dX2_offer_16 : decode cX2_offer 16 = .ok (.invokestatic 96, 3) := by decide +kernel
theorem dX2_offer_19 : decode cX2_offer 19 = .ok (.iastore, 1) := by decide +kernel
theorem dX2_offer_20 : decode cX2_offer 20 = .ok (.aload_n 0, 1) := by decide +kernel
theorem dX2_offer_21 : decode cX2_offer 21 = .ok (.iload_n 1, 1) := by decide +kernel
theorem dX2_offer_22 : decode cX2_offer 22 = .ok (.invokevirtual 109, 3) := by decide +kernel
theorem dX2_offer_25 : decode cX2_offer 25 = .ok (.istore_n 2, 1) := by decide +kernel
theorem dX2_offer_26 : decode cX2_offer 26 = .ok (.iload_n 2, 1) := by decide +kernel
theorem dX2_offer_27 : decode cX2_offer 27 = .ok (.iconst (-1), 1) := by decide +kernel
theorem dX2_offer_28 : decode cX2_offer 28 = .ok (.if_icmp .eq 20, 3) := by decide +kernel
theorem dX2_offer_31 : decode cX2_offer 31 = .ok (.aload_n 0, 1) := by decide +kernel
theorem dX2_offer_32 : decode cX2_offer 32 = .ok (.getfield 27, 3) := by decide +kernel
theorem dX2_offer_35 : decode cX2_offer 35 = .ok (.iload_n 1, 1) := by decide +kernel
theorem dX2_offer_36 : decode cX2_offer 36 = .ok (.iload_n 2, 1) := by decide +kernel
theorem dX2_offer_37 : decode cX2_offer 37 = .ok (.iastore, 1) := by decide +kernel
theorem dX2_offer_38 : decode cX2_offer 38 = .ok (.aload_n 0, 1) := by decide +kernel
theorem dX2_offer_39 : decode cX2_offer 39 = .ok (.getfield 33, 3) := by decide +kernel
theorem dX2_offer_42 : decode cX2_offer 42 = .ok (.iload_n 2, 1) := by decide +kernel
theorem dX2_offer_43 : decode cX2_offer 43 = .ok (.dup2, 1) := by decide +kernel
theorem dX2_offer_44 : decode cX2_offer 44 = .ok (.iaload, 1) := by decide +kernel
theorem dX2_offer_45 : decode cX2_offer 45 = .ok (.iconst 1, 1) := by decide +kernel
theorem dX2_offer_46 : decode cX2_offer 46 = .ok (.iadd, 1) := by decide +kernel
theorem dX2_offer_47 : decode cX2_offer 47 = .ok (.iastore, 1) := by decide +kernel
theorem dX2_offer_48 : decode cX2_offer 48 = .ok (.return_, 1) := by decide +kernel
theorem dX2_takerOf_0 : decode cX2_takerOf 0 = .ok (.aload_n 0, 1) := by decide +kernel
theorem dX2_takerOf_1 : decode cX2_takerOf 1 = .ok (.iload_n 1, 1) := by decide +kernel
theorem dX2_takerOf_2 : decode cX2_takerOf 2 = .ok (.invokevirtual 86, 3) := by decide +kernel
theorem dX2_takerOf_5 : decode cX2_takerOf 5 = .ok (.astore_n 2, 1) := by decide +kernel
theorem dX2_takerOf_6 : decode cX2_takerOf 6 = .ok (.aload_n 0, 1) := by decide +kernel
theorem dX2_takerOf_7 : decode cX2_takerOf 7 = .ok (.getfield 24, 3) := by decide +kernel
theorem dX2_takerOf_10 : decode cX2_takerOf 10 = .ok (.iload_n 1, 1) := by decide +kernel
theorem dX2_takerOf_11 : decode cX2_takerOf 11 = .ok (.iaload, 1) := by decide +kernel
theorem dX2_takerOf_12 : decode cX2_takerOf 12 = .ok (.istore_n 3, 1) := by decide +kernel
theorem dX2_takerOf_13 : decode cX2_takerOf 13 = .ok (.aload_n 0, 1) := by decide +kernel
theorem dX2_takerOf_14 : decode cX2_takerOf 14 = .ok (.getfield 30, 3) := by decide +kernel
theorem dX2_takerOf_17 : decode cX2_takerOf 17 = .ok (.iload_n 1, 1) := by decide +kernel
theorem dX2_takerOf_18 : decode cX2_takerOf 18 = .ok (.iaload, 1) := by decide +kernel
theorem dX2_takerOf_19 : decode cX2_takerOf 19 = .ok (.istore 4, 2) := by decide +kernel
theorem dX2_takerOf_21 : decode cX2_takerOf 21 = .ok (.iconst (-1), 1) := by decide +kernel
theorem dX2_takerOf_22 : decode cX2_takerOf 22 = .ok (.istore 5, 2) := by decide +kernel
theorem dX2_takerOf_24 : decode cX2_takerOf 24 = .ok (.iconst (-1), 1) := by decide +kernel
theorem dX2_takerOf_25 : decode cX2_takerOf 25 = .ok (.istore 6, 2) := by decide +kernel
theorem dX2_takerOf_27 : decode cX2_takerOf 27 = .ok (.iconst 0, 1) := by decide +kernel
theorem dX2_takerOf_28 : decode cX2_takerOf 28 = .ok (.istore 7, 2) := by decide +kernel
theorem dX2_takerOf_30 : decode cX2_takerOf 30 = .ok (.iload 7, 2) := by decide +kernel
theorem dX2_takerOf_32 : decode cX2_takerOf 32 = .ok (.bipush 6, 2) := by decide +kernel
theorem dX2_takerOf_34 : decode cX2_takerOf 34 = .ok (.if_icmp .ge 55, 3) := by decide +kernel
theorem dX2_takerOf_37 : decode cX2_takerOf 37 = .ok (.aload_n 0, 1) := by decide +kernel
theorem dX2_takerOf_38 : decode cX2_takerOf 38 = .ok (.getfield 33, 3) := by decide +kernel
theorem dX2_takerOf_41 : decode cX2_takerOf 41 = .ok (.iload 7, 2) := by decide +kernel
theorem dX2_takerOf_43 : decode cX2_takerOf 43 = .ok (.iaload, 1) := by decide +kernel
theorem dX2_takerOf_44 : decode cX2_takerOf 44 = .ok (.iconst 2, 1) := by decide +kernel
theorem dX2_takerOf_45 : decode cX2_takerOf 45 = .ok (.if_icmp .ge 20, 3) := by decide +kernel
theorem dX2_takerOf_48 : decode cX2_takerOf 48 = .ok (.aload_n 2, 1) := by decide +kernel
theorem dX2_takerOf_49 : decode cX2_takerOf 49 = .ok (.aload_n 0, 1) := by decide +kernel
theorem dX2_takerOf_50 : decode cX2_takerOf 50 = .ok (.getfield 9, 3) := by decide +kernel
theorem dX2_takerOf_53 : decode cX2_takerOf 53 = .ok (.iload 7, 2) := by decide +kernel
theorem dX2_takerOf_55 : decode cX2_takerOf 55 = .ok (.iaload, 1) := by decide +kernel
theorem dX2_takerOf_56 : decode cX2_takerOf 56 = .ok (.iload_n 3, 1) := by decide +kernel
theorem dX2_takerOf_57 : decode cX2_takerOf 57 = .ok (.iload 4, 2) := by decide +kernel
theorem dX2_takerOf_59 : decode cX2_takerOf 59 = .ok (.invokevirtual 113, 3) := by decide +kernel
theorem dX2_takerOf_62 : decode cX2_takerOf 62 = .ok (.goto 4, 3) := by decide +kernel
theorem dX2_takerOf_65 : decode cX2_takerOf 65 = .ok (.iconst (-1), 1) := by decide +kernel
theorem dX2_takerOf_66 : decode cX2_takerOf 66 = .ok (.istore 8, 2) := by decide +kernel
theorem dX2_takerOf_68 : decode cX2_takerOf 68 = .ok (.iload 8, 2) := by decide +kernel
theorem dX2_takerOf_70 : decode cX2_takerOf 70 = .ok (.iload 6, 2) := by decide +kernel
theorem dX2_takerOf_72 : decode cX2_takerOf 72 = .ok (.if_icmp .le 11, 3) := by decide +kernel
theorem dX2_takerOf_75 : decode cX2_takerOf 75 = .ok (.iload 7, 2) := by decide +kernel
theorem dX2_takerOf_77 : decode cX2_takerOf 77 = .ok (.istore 5, 2) := by decide +kernel
theorem dX2_takerOf_79 : decode cX2_takerOf 79 = .ok (.iload 8, 2) := by decide +kernel
theorem dX2_takerOf_81 : decode cX2_takerOf 81 = .ok (.istore 6, 2) := by decide +kernel
theorem dX2_takerOf_83 : decode cX2_takerOf 83 = .ok (.iinc 7 1, 3) := by decide +kernel
theorem dX2_takerOf_86 : decode cX2_takerOf 86 = .ok (.goto (-56), 3) := by decide +kernel
theorem dX2_takerOf_89 : decode cX2_takerOf 89 = .ok (.iload 6, 2) := by decide +kernel
theorem dX2_takerOf_91 : decode cX2_takerOf 91 = .ok (.aload_n 2, 1) := by decide +kernel
theorem dX2_takerOf_92 : decode cX2_takerOf 92 = .ok (.iload_n 3, 1) := by decide +kernel
theorem dX2_takerOf_93 : decode cX2_takerOf 93 = .ok (.iload 4, 2) := by decide +kernel
theorem dX2_takerOf_95 : decode cX2_takerOf 95 = .ok (.invokevirtual 116, 3) := by decide +kernel
theorem dX2_takerOf_98 : decode cX2_takerOf 98 = .ok (.if_icmp .lt 8, 3) := by decide +kernel
theorem dX2_takerOf_101 : decode cX2_takerOf 101 = .ok (.iload 5, 2) := by decide +kernel
theorem dX2_takerOf_103 : decode cX2_takerOf 103 = .ok (.goto 4, 3) := by decide +kernel
theorem dX2_takerOf_106 : decode cX2_takerOf 106 = .ok (.iconst (-1), 1) := by decide +kernel
theorem dX2_takerOf_107 : decode cX2_takerOf 107 = .ok (.ireturn, 1) := by decide +kernel
theorem dX2_finishedSet_0 : decode cX2_finishedSet 0 = .ok (.iconst 0, 1) := by decide +kernel
theorem dX2_finishedSet_1 : decode cX2_finishedSet 1 = .ok (.istore_n 1, 1) := by decide +kernel
theorem dX2_finishedSet_2 : decode cX2_finishedSet 2 = .ok (.iconst 0, 1) := by decide +kernel
theorem dX2_finishedSet_3 : decode cX2_finishedSet 3 = .ok (.istore_n 2, 1) := by decide +kernel
theorem dX2_finishedSet_4 : decode cX2_finishedSet 4 = .ok (.iload_n 2, 1) := by decide +kernel
theorem dX2_finishedSet_5 : decode cX2_finishedSet 5 = .ok (.aload_n 0, 1) := by decide +kernel
theorem dX2_finishedSet_6 : decode cX2_finishedSet 6 = .ok (.getfield 56, 3) := by decide +kernel
theorem dX2_finishedSet_9 : decode cX2_finishedSet 9 = .ok (.if_icmp .ge 23, 3) := by decide +kernel
theorem dX2_finishedSet_12 : decode cX2_finishedSet 12 = .ok (.aload_n 0, 1) := by decide +kernel
theorem dX2_finishedSet_13 : decode cX2_finishedSet 13 = .ok (.iload_n 2, 1) := by decide +kernel
theorem dX2_finishedSet_14 : decode cX2_finishedSet 14 = .ok (.invokevirtual 63, 3) := by decide +kernel
theorem dX2_finishedSet_17 : decode cX2_finishedSet 17 = .ok (.ifCond .eq 9, 3) := by decide +kernel
theorem dX2_finishedSet_20 : decode cX2_finishedSet 20 = .ok (.iload_n 1, 1) := by decide +kernel
theorem dX2_finishedSet_21 : decode cX2_finishedSet 21 = .ok (.iconst 1, 1) := by decide +kernel
theorem dX2_finishedSet_22 : decode cX2_finishedSet 22 = .ok (.iload_n 2, 1) := by decide +kernel
theorem dX2_finishedSet_23 : decode cX2_finishedSet 23 = .ok (.ishl, 1) := by decide +kernel
theorem dX2_finishedSet_24 : decode cX2_finishedSet 24 = .ok (.ior, 1) := by decide +kernel
theorem dX2_finishedSet_25 : decode cX2_finishedSet 25 = .ok (.istore_n 1, 1) := by decide +kernel
theorem dX2_finishedSet_26 : decode cX2_finishedSet 26 = .ok (.iinc 2 1, 3) := by decide +kernel
theorem dX2_finishedSet_29 : decode cX2_finishedSet 29 = .ok (.goto (-25), 3) := by decide +kernel
theorem dX2_finishedSet_32 : decode cX2_finishedSet 32 = .ok (.iload_n 1, 1) := by decide +kernel
theorem dX2_finishedSet_33 : decode cX2_finishedSet 33 = .ok (.ireturn, 1) := by decide +kernel
theorem dX2_isAllFinished_0 : decode cX2_isAllFinished 0 = .ok (.aload_n 0, 1) := by decide +kernel
theorem dX2_isAllFinished_1 : decode cX2_isAllFinished 1 = .ok (.invokevirtual 119, 3) := by decide +kernel
theorem dX2_isAllFinished_4 : decode cX2_isAllFinished 4 = .ok (.iconst 1, 1) := by decide +kernel
theorem dX2_isAllFinished_5 : decode cX2_isAllFinished 5 = .ok (.aload_n 0, 1) := by decide +kernel
theorem dX2_isAllFinished_6 : decode cX2_isAllFinished 6 = .ok (.getfield 56, 3) := by decide +kernel
theorem dX2_isAllFinished_9 : decode cX2_isAllFinished 9 = .ok (.ishl, 1) := by decide +kernel
theorem dX2_isAllFinished_10 : decode cX2_isAllFinished 10 = .ok (.iconst 1, 1) := by decide +kernel
theorem dX2_isAllFinished_11 : decode cX2_isAllFinished 11 = .ok (.isub, 1) := by decide +kernel
theorem dX2_isAllFinished_12 : decode cX2_isAllFinished 12 = .ok (.if_icmp .ne 7, 3) := by decide +kernel
theorem dX2_isAllFinished_15 : decode cX2_isAllFinished 15 = .ok (.iconst 1, 1) := by decide +kernel
theorem dX2_isAllFinished_16 : decode cX2_isAllFinished 16 = .ok (.goto 4, 3) := by decide +kernel
theorem dX2_isAllFinished_19 : decode cX2_isAllFinished 19 = .ok (.iconst 0, 1) := by decide +kernel
theorem dX2_isAllFinished_20 : decode cX2_isAllFinished 20 = .ok (.ireturn, 1) := by decide +kernel
theorem dX2_heldSet_0 : decode cX2_heldSet 0 = .ok (.iconst 0, 1) := by decide +kernel
theorem dX2_heldSet_1 : decode cX2_heldSet 1 = .ok (.istore_n 2, 1) := by decide +kernel
theorem dX2_heldSet_2 : decode cX2_heldSet 2 = .ok (.iconst 0, 1) := by decide +kernel
theorem dX2_heldSet_3 : decode cX2_heldSet 3 = .ok (.istore_n 3, 1) := by decide +kernel
theorem dX2_heldSet_4 : decode cX2_heldSet 4 = .ok (.iload_n 3, 1) := by decide +kernel
theorem dX2_heldSet_5 : decode cX2_heldSet 5 = .ok (.aload_n 0, 1) := by decide +kernel
theorem dX2_heldSet_6 : decode cX2_heldSet 6 = .ok (.getfield 56, 3) := by decide +kernel
theorem dX2_heldSet_9 : decode cX2_heldSet 9 = .ok (.if_icmp .ge 25, 3) := by decide +kernel
theorem dX2_heldSet_12 : decode cX2_heldSet 12 = .ok (.aload_n 0, 1) := by decide +kernel
theorem dX2_heldSet_13 : decode cX2_heldSet 13 = .ok (.getfield 27, 3) := by decide +kernel
theorem dX2_heldSet_16 : decode cX2_heldSet 16 = .ok (.iload_n 3, 1) := by decide +kernel
theorem dX2_heldSet_17 : decode cX2_heldSet 17 = .ok (.iaload, 1) := by decide +kernel
theorem dX2_heldSet_18 : decode cX2_heldSet 18 = .ok (.iload_n 1, 1) := by decide +kernel
theorem dX2_heldSet_19 : decode cX2_heldSet 19 = .ok (.if_icmp .ne 9, 3) := by decide +kernel
theorem dX2_heldSet_22 : decode cX2_heldSet 22 = .ok (.iload_n 2, 1) := by decide +kernel
theorem dX2_heldSet_23 : decode cX2_heldSet 23 = .ok (.iconst 1, 1) := by decide +kernel
theorem dX2_heldSet_24 : decode cX2_heldSet 24 = .ok (.iload_n 3, 1) := by decide +kernel
theorem dX2_heldSet_25 : decode cX2_heldSet 25 = .ok (.ishl, 1) := by decide +kernel
theorem dX2_heldSet_26 : decode cX2_heldSet 26 = .ok (.ior, 1) := by decide +kernel
theorem dX2_heldSet_27 : decode cX2_heldSet 27 = .ok (.istore_n 2, 1) := by decide +kernel
theorem dX2_heldSet_28 : decode cX2_heldSet 28 = .ok (.iinc 3 1, 3) := by decide +kernel
theorem dX2_heldSet_31 : decode cX2_heldSet 31 = .ok (.goto (-27), 3) := by decide +kernel
theorem dX2_heldSet_34 : decode cX2_heldSet 34 = .ok (.iload_n 2, 1) := by decide +kernel
theorem dX2_heldSet_35 : decode cX2_heldSet 35 = .ok (.ireturn, 1) := by decide +kernel
theorem dX2_doneOfAll_0 : decode cX2_doneOfAll 0 = .ok (.aload_n 0, 1) := by decide +kernel
theorem dX2_doneOfAll_1 : decode cX2_doneOfAll 1 = .ok (.getfield 24, 3) := by decide +kernel
theorem dX2_doneOfAll_4 : decode cX2_doneOfAll 4 = .ok (.aload_n 0, 1) := by decide +kernel
theorem dX2_doneOfAll_5 : decode cX2_doneOfAll 5 = .ok (.getfield 56, 3) := by decide +kernel
theorem dX2_doneOfAll_8 : decode cX2_doneOfAll 8 = .ok (.invokestatic 122, 3) := by decide +kernel
theorem dX2_doneOfAll_11 : decode cX2_doneOfAll 11 = .ok (.ireturn, 1) := by decide +kernel
theorem dX2_dustOfAll_0 : decode cX2_dustOfAll 0 = .ok (.aload_n 0, 1) := by decide +kernel
theorem dX2_dustOfAll_1 : decode cX2_dustOfAll 1 = .ok (.getfield 30, 3) := by decide +kernel
theorem dX2_dustOfAll_4 : decode cX2_dustOfAll 4 = .ok (.aload_n 0, 1) := by decide +kernel
theorem dX2_dustOfAll_5 : decode cX2_dustOfAll 5 = .ok (.getfield 56, 3) := by decide +kernel
theorem dX2_dustOfAll_8 : decode cX2_dustOfAll 8 = .ok (.invokestatic 122, 3) := by decide +kernel
theorem dX2_dustOfAll_11 : decode cX2_dustOfAll 11 = .ok (.ireturn, 1) := by decide +kernel
theorem dX2_madeOfAll_0 : decode cX2_madeOfAll 0 = .ok (.aload_n 0, 1) := by decide +kernel
theorem dX2_madeOfAll_1 : decode cX2_madeOfAll 1 = .ok (.getfield 18, 3) := by decide +kernel
theorem dX2_madeOfAll_4 : decode cX2_madeOfAll 4 = .ok (.bipush 6, 2) := by decide +kernel
theorem dX2_madeOfAll_6 : decode cX2_madeOfAll 6 = .ok (.invokestatic 122, 3) := by decide +kernel
theorem dX2_madeOfAll_9 : decode cX2_madeOfAll 9 = .ok (.ireturn, 1) := by decide +kernel
theorem dX3_init_0 : decode cX3_init 0 = .ok (.aload_n 0, 1) := by decide +kernel
theorem dX3_init_1 : decode cX3_init 1 = .ok (.aload_n 1, 1) := by decide +kernel
theorem dX3_init_2 : decode cX3_init 2 = .ok (.invokespecial 1, 3) := by decide +kernel
theorem dX3_init_5 : decode cX3_init 5 = .ok (.return_, 1) := by decide +kernel
theorem dX3_goesOn_0 : decode cX3_goesOn 0 = .ok (.aload_n 0, 1) := by decide +kernel
theorem dX3_goesOn_1 : decode cX3_goesOn 1 = .ok (.iload_n 1, 1) := by decide +kernel
theorem dX3_goesOn_2 : decode cX3_goesOn 2 = .ok (.iload_n 2, 1) := by decide +kernel
theorem dX3_goesOn_3 : decode cX3_goesOn 3 = .ok (.iload_n 3, 1) := by decide +kernel
theorem dX3_goesOn_4 : decode cX3_goesOn 4 = .ok (.invokespecial 7, 3) := by decide +kernel
theorem dX3_goesOn_7 : decode cX3_goesOn 7 = .ok (.iload_n 2, 1) := by decide +kernel
theorem dX3_goesOn_8 : decode cX3_goesOn 8 = .ok (.bipush 50, 2) := by decide +kernel
theorem dX3_goesOn_10 : decode cX3_goesOn 10 = .ok (.if_icmp .ge 7, 3) := by decide +kernel
theorem dX3_goesOn_13 : decode cX3_goesOn 13 = .ok (.iconst 3, 1) := by decide +kernel
theorem dX3_goesOn_14 : decode cX3_goesOn 14 = .ok (.goto 4, 3) := by decide +kernel
theorem dX3_goesOn_17 : decode cX3_goesOn 17 = .ok (.iconst 0, 1) := by decide +kernel
theorem dX3_goesOn_18 : decode cX3_goesOn 18 = .ok (.iadd, 1) := by decide +kernel
theorem dX3_goesOn_19 : decode cX3_goesOn 19 = .ok (.ireturn, 1) := by decide +kernel
theorem dX3_bid_0 : decode cX3_bid 0 = .ok (.aload_n 0, 1) := by decide +kernel
theorem dX3_bid_1 : decode cX3_bid 1 = .ok (.iload_n 1, 1) := by decide +kernel
theorem dX3_bid_2 : decode cX3_bid 2 = .ok (.iload_n 2, 1) := by decide +kernel
theorem dX3_bid_3 : decode cX3_bid 3 = .ok (.iload_n 3, 1) := by decide +kernel
theorem dX3_bid_4 : decode cX3_bid 4 = .ok (.invokespecial 11, 3) := by decide +kernel
theorem dX3_bid_7 : decode cX3_bid 7 = .ok (.iload_n 2, 1) := by decide +kernel
theorem dX3_bid_8 : decode cX3_bid 8 = .ok (.bipush 70, 2) := by decide +kernel
theorem dX3_bid_10 : decode cX3_bid 10 = .ok (.if_icmp .le 7, 3) := by decide +kernel
theorem dX3_bid_13 : decode cX3_bid 13 = .ok (.iload_n 1, 1) := by decide +kernel
theorem dX3_bid_14 : decode cX3_bid 14 = .ok (.goto 4, 3) := by decide +kernel
theorem dX3_bid_17 : decode cX3_bid 17 = .ok (.iconst 0, 1) := by decide +kernel
theorem dX3_bid_18 : decode cX3_bid 18 = .ok (.iadd, 1) := by decide +kernel
theorem dX3_bid_19 : decode cX3_bid 19 = .ok (.ireturn, 1) := by decide +kernel
theorem dX4_init_0 : decode cX4_init 0 = .ok (.aload_n 0, 1) := by decide +kernel
theorem dX4_init_1 : decode cX4_init 1 = .ok (.invokespecial 1, 3) := by decide +kernel
theorem dX4_init_4 : decode cX4_init 4 = .ok (.aload_n 0, 1) := by decide +kernel
theorem dX4_init_5 : decode cX4_init 5 = .ok (.aload_n 1, 1) := by decide +kernel
theorem dX4_init_6 : decode cX4_init 6 = .ok (.putfield 7, 3) := by decide +kernel
theorem dX4_init_9 : decode cX4_init 9 = .ok (.return_, 1) := by decide +kernel
theorem dX4_goesOn_0 : decode cX4_goesOn 0 = .ok (.iload_n 1, 1) := by decide +kernel
theorem dX4_goesOn_1 : decode cX4_goesOn 1 = .ok (.ireturn, 1) := by decide +kernel
theorem dX4_tires_0 : decode cX4_tires 0 = .ok (.iconst 1, 1) := by decide +kernel
theorem dX4_tires_1 : decode cX4_tires 1 = .ok (.ireturn, 1) := by decide +kernel
theorem dX4_bid_0 : decode cX4_bid 0 = .ok (.iconst 2, 1) := by decide +kernel
theorem dX4_bid_1 : decode cX4_bid 1 = .ok (.iload_n 1, 1) := by decide +kernel
theorem dX4_bid_2 : decode cX4_bid 2 = .ok (.imul, 1) := by decide +kernel
theorem dX4_bid_3 : decode cX4_bid 3 = .ok (.ireturn, 1) := by decide +kernel
theorem dX4_asked_0 : decode cX4_asked 0 = .ok (.bipush 8, 2) := by decide +kernel
theorem dX4_asked_2 : decode cX4_asked 2 = .ok (.ireturn, 1) := by decide +kernel
theorem dX5_init_0 : decode cX5_init 0 = .ok (.aload_n 0, 1) := by decide +kernel
theorem dX5_init_1 : decode cX5_init 1 = .ok (.aload_n 1, 1) := by decide +kernel
theorem dX5_init_2 : decode cX5_init 2 = .ok (.invokespecial 1, 3) := by decide +kernel
theorem dX5_init_5 : decode cX5_init 5 = .ok (.return_, 1) := by decide +kernel
theorem dX5_goesOn_0 : decode cX5_goesOn 0 = .ok (.aload_n 0, 1) := by decide +kernel
theorem dX5_goesOn_1 : decode cX5_goesOn 1 = .ok (.iload_n 1, 1) := by decide +kernel
theorem dX5_goesOn_2 : decode cX5_goesOn 2 = .ok (.iload_n 2, 1) := by decide +kernel
theorem dX5_goesOn_3 : decode cX5_goesOn 3 = .ok (.iload_n 3, 1) := by decide +kernel
theorem dX5_goesOn_4 : decode cX5_goesOn 4 = .ok (.invokespecial 7, 3) := by decide +kernel
theorem dX5_goesOn_7 : decode cX5_goesOn 7 = .ok (.istore 4, 2) := by decide +kernel
theorem dX5_goesOn_9 : decode cX5_goesOn 9 = .ok (.iload_n 3, 1) := by decide +kernel
theorem dX5_goesOn_10 : decode cX5_goesOn 10 = .ok (.bipush 10, 2) := by decide +kernel
theorem dX5_goesOn_12 : decode cX5_goesOn 12 = .ok (.if_icmp .le 10, 3) := by decide +kernel
theorem dX5_goesOn_15 : decode cX5_goesOn 15 = .ok (.iconst 2, 1) := by decide +kernel
theorem dX5_goesOn_16 : decode cX5_goesOn 16 = .ok (.iload 4, 2) := by decide +kernel
theorem dX5_goesOn_18 : decode cX5_goesOn 18 = .ok (.imul, 1) := by decide +kernel
theorem dX5_goesOn_19 : decode cX5_goesOn 19 = .ok (.goto 5, 3) := by decide +kernel
theorem dX5_goesOn_22 : decode cX5_goesOn 22 = .ok (.iload 4, 2) := by decide +kernel
theorem dX5_goesOn_24 : decode cX5_goesOn 24 = .ok (.ireturn, 1) := by decide +kernel
theorem dX5_tires_0 : decode cX5_tires 0 = .ok (.aload_n 0, 1) := by decide +kernel
theorem dX5_tires_1 : decode cX5_tires 1 = .ok (.invokespecial 11, 3) := by decide +kernel
theorem dX5_tires_4 : decode cX5_tires 4 = .ok (.iconst 1, 1) := by decide +kernel
theorem dX5_tires_5 : decode cX5_tires 5 = .ok (.isub, 1) := by decide +kernel
theorem dX5_tires_6 : decode cX5_tires 6 = .ok (.ireturn, 1) := by decide +kernel
theorem dX5_asked_0 : decode cX5_asked 0 = .ok (.aload_n 0, 1) := by decide +kernel
theorem dX5_asked_1 : decode cX5_asked 1 = .ok (.iload_n 1, 1) := by decide +kernel
theorem dX5_asked_2 : decode cX5_asked 2 = .ok (.iload_n 2, 1) := by decide +kernel
theorem dX5_asked_3 : decode cX5_asked 3 = .ok (.invokespecial 15, 3) := by decide +kernel
theorem dX5_asked_6 : decode cX5_asked 6 = .ok (.iload_n 1, 1) := by decide +kernel
theorem dX5_asked_7 : decode cX5_asked 7 = .ok (.bipush 10, 2) := by decide +kernel
theorem dX5_asked_9 : decode cX5_asked 9 = .ok (.idiv, 1) := by decide +kernel
theorem dX5_asked_10 : decode cX5_asked 10 = .ok (.iadd, 1) := by decide +kernel
theorem dX5_asked_11 : decode cX5_asked 11 = .ok (.ireturn, 1) := by decide +kernel
theorem dX6_init_0 : decode cX6_init 0 = .ok (.aload_n 0, 1) := by decide +kernel
theorem dX6_init_1 : decode cX6_init 1 = .ok (.aload_n 1, 1) := by decide +kernel
theorem dX6_init_2 : decode cX6_init 2 = .ok (.invokespecial 1, 3) := by decide +kernel
theorem dX6_init_5 : decode cX6_init 5 = .ok (.return_, 1) := by decide +kernel
theorem dX6_goesOn_0 : decode cX6_goesOn 0 = .ok (.iload_n 2, 1) := by decide +kernel
theorem dX6_goesOn_1 : decode cX6_goesOn 1 = .ok (.bipush 99, 2) := by decide +kernel
theorem dX6_goesOn_3 : decode cX6_goesOn 3 = .ok (.if_icmp .ne 7, 3) := by decide +kernel
theorem dX6_goesOn_6 : decode cX6_goesOn 6 = .ok (.iconst 0, 1) := by decide +kernel
theorem dX6_goesOn_7 : decode cX6_goesOn 7 = .ok (.goto 4, 3) := by decide +kernel
theorem dX6_goesOn_10 : decode cX6_goesOn 10 = .ok (.iconst 1, 1) := by decide +kernel
theorem dX6_goesOn_11 : decode cX6_goesOn 11 = .ok (.ireturn, 1) := by decide +kernel
theorem dX6_tires_0 : decode cX6_tires 0 = .ok (.iconst 0, 1) := by decide +kernel
theorem dX6_tires_1 : decode cX6_tires 1 = .ok (.ireturn, 1) := by decide +kernel
theorem dX6_bid_0 : decode cX6_bid 0 = .ok (.bipush 20, 2) := by decide +kernel
theorem dX6_bid_2 : decode cX6_bid 2 = .ok (.iload_n 1, 1) := by decide +kernel
theorem dX6_bid_3 : decode cX6_bid 3 = .ok (.isub, 1) := by decide +kernel
theorem dX6_bid_4 : decode cX6_bid 4 = .ok (.ireturn, 1) := by decide +kernel
theorem dX6_asked_0 : decode cX6_asked 0 = .ok (.iconst 1, 1) := by decide +kernel
theorem dX6_asked_1 : decode cX6_asked 1 = .ok (.ireturn, 1) := by decide +kernel
theorem dX7_init_0 : decode cX7_init 0 = .ok (.aload_n 0, 1) := by decide +kernel
theorem dX7_init_1 : decode cX7_init 1 = .ok (.invokespecial 3, 3) := by decide +kernel
theorem dX7_init_4 : decode cX7_init 4 = .ok (.aload_n 0, 1) := by decide +kernel
theorem dX7_init_5 : decode cX7_init 5 = .ok (.bipush 40, 2) := by decide +kernel
theorem dX7_init_7 : decode cX7_init 7 = .ok (.newarray .long, 2) := by decide +kernel
theorem dX7_init_9 : decode cX7_init 9 = .ok (.putfield 9, 3) := by decide +kernel
theorem dX7_init_12 : decode cX7_init 12 = .ok (.return_, 1) := by decide +kernel
theorem dX7_begin_0 : decode cX7_begin 0 = .ok (.aload_n 0, 1) := by decide +kernel
theorem dX7_begin_1 : decode cX7_begin 1 = .ok (.iload_n 1, 1) := by decide +kernel
theorem dX7_begin_2 : decode cX7_begin 2 = .ok (.putfield 15, 3) := by decide +kernel
theorem dX7_begin_5 : decode cX7_begin 5 = .ok (.aload_n 0, 1) := by decide +kernel
theorem dX7_begin_6 : decode cX7_begin 6 = .ok (.iload_n 1, 1) := by decide +kernel
theorem dX7_begin_7 : decode cX7_begin 7 = .ok (.ifCond .ne 7, 3) := by decide +kernel
theorem dX7_begin_10 : decode cX7_begin 10 = .ok (.iconst 0, 1) := by decide +kernel
theorem dX7_begin_11 : decode cX7_begin 11 = .ok (.goto 4, 3) := by decide +kernel
theorem dX7_begin_14 : decode cX7_begin 14 = .ok (.iload_n 2, 1) := by decide +kernel
theorem dX7_begin_15 : decode cX7_begin 15 = .ok (.putfield 19, 3) := by decide +kernel
theorem dX7_begin_18 : decode cX7_begin 18 = .ok (.aload_n 0, 1) := by decide +kernel
theorem dX7_begin_19 : decode cX7_begin 19 = .ok (.getfield 9, 3) := by decide +kernel
theorem dX7_begin_22 : decode cX7_begin 22 = .ok (.lconst 0, 1) := by decide +kernel
theorem dX7_begin_23 : decode cX7_begin 23 = .ok (.invokestatic 22, 3) := by decide +kernel
theorem dX7_begin_26 : decode cX7_begin 26 = .ok (.return_, 1) := by decide +kernel
theorem dX7_isMissing_0 : decode cX7_isMissing 0 = .ok (.aload_n 0, 1) := by decide +kernel
theorem dX7_isMissing_1 : decode cX7_isMissing 1 = .ok (.getfield 15, 3) := by decide +kernel
theorem dX7_isMissing_4 : decode cX7_isMissing 4 = .ok (.ifCond .ne 7, 3) := by decide +kernel
theorem dX7_isMissing_7 : decode cX7_isMissing 7 = .ok (.iconst 1, 1) := by decide +kernel
theorem dX7_isMissing_8 : decode cX7_isMissing 8 = .ok (.goto 4, 3) := by decide +kernel
theorem dX7_isMissing_11 : decode cX7_isMissing 11 = .ok (.iconst 0, 1) := by decide +kernel
theorem dX7_isMissing_12 : decode cX7_isMissing 12 = .ok (.ireturn, 1) := by decide +kernel
theorem dX7_put_0 : decode cX7_put 0 = .ok (.aload_n 0, 1) := by decide +kernel
theorem dX7_put_1 : decode cX7_put 1 = .ok (.getfield 9, 3) := by decide +kernel
theorem dX7_put_4 : decode cX7_put 4 = .ok (.iload_n 1, 1) := by decide +kernel
theorem dX7_put_5 : decode cX7_put 5 = .ok (.aload_n 0, 1) := by decide +kernel
theorem dX7_put_6 : decode cX7_put 6 = .ok (.getfield 15, 3) := by decide +kernel
theorem dX7_put_9 : decode cX7_put 9 = .ok (.bipush 8, 2) := by decide +kernel
theorem dX7_put_11 : decode cX7_put 11 = .ok (.if_icmp .ne 10, 3) := by decide +kernel
theorem dX7_put_14 : decode cX7_put 14 = .ok (.lload_n 2, 1) := by decide +kernel
theorem dX7_put_15 : decode cX7_put 15 = .ok (.l2i, 1) := by decide +kernel
theorem dX7_put_16 : decode cX7_put 16 = .ok (.i2b, 1) := by decide +kernel
theorem dX7_put_17 : decode cX7_put 17 = .ok (.i2l, 1) := by decide +kernel
theorem dX7_put_18 : decode cX7_put 18 = .ok (.goto 20, 3) := by decide +kernel
theorem dX7_put_21 : decode cX7_put 21 = .ok (.aload_n 0, 1) := by decide +kernel
theorem dX7_put_22 : decode cX7_put 22 = .ok (.getfield 15, 3) := by decide +kernel
theorem dX7_put_25 : decode cX7_put 25 = .ok (.bipush 16, 2) := by decide +kernel
theorem dX7_put_27 : decode cX7_put 27 = .ok (.if_icmp .ne 10, 3) := by decide +kernel
theorem dX7_put_30 : decode cX7_put 30 = .ok (.lload_n 2, 1) := by decide +kernel
theorem dX7_put_31 : decode cX7_put 31 = .ok (.l2i, 1) := by decide +kernel
theorem dX7_put_32 : decode cX7_put 32 = .ok (.i2s, 1) := by decide +kernel
theorem dX7_put_33 : decode cX7_put 33 = .ok (.i2l, 1) := by decide +kernel
theorem dX7_put_34 : decode cX7_put 34 = .ok (.goto 4, 3) := by decide +kernel
theorem dX7_put_37 : decode cX7_put 37 = .ok (.lload_n 2, 1) := by decide +kernel
theorem dX7_put_38 : decode cX7_put 38 = .ok (.lastore, 1) := by decide +kernel
theorem dX7_put_39 : decode cX7_put 39 = .ok (.return_, 1) := by decide +kernel
theorem dX7_hasSpan_0 : decode cX7_hasSpan 0 = .ok (.iload_n 1, 1) := by decide +kernel
theorem dX7_hasSpan_1 : decode cX7_hasSpan 1 = .ok (.ifCond .lt 29, 3) := by decide +kernel
theorem dX7_hasSpan_4 : decode cX7_hasSpan 4 = .ok (.iload_n 2, 1) := by decide +kernel
theorem dX7_hasSpan_5 : decode cX7_hasSpan 5 = .ok (.ifCond .lt 25, 3) := by decide +kernel
theorem dX7_hasSpan_8 : decode cX7_hasSpan 8 = .ok (.iload_n 2, 1) := by decide +kernel
theorem dX7_hasSpan_9 : decode cX7_hasSpan 9 = .ok (.aload_n 0, 1) := by decide +kernel
theorem dX7_hasSpan_10 : decode cX7_hasSpan 10 = .ok (.getfield 19, 3) := by decide +kernel
theorem dX7_hasSpan_13 : decode cX7_hasSpan 13 = .ok (.if_icmp .gt 17, 3) := by decide +kernel
theorem dX7_hasSpan_16 : decode cX7_hasSpan 16 = .ok (.iload_n 1, 1) := by decide +kernel
theorem dX7_hasSpan_17 : decode cX7_hasSpan 17 = .ok (.aload_n 0, 1) := by decide +kernel
theorem dX7_hasSpan_18 : decode cX7_hasSpan 18 = .ok (.getfield 19, 3) := by decide +kernel
theorem dX7_hasSpan_21 : decode cX7_hasSpan 21 = .ok (.iload_n 2, 1) := by decide +kernel
theorem dX7_hasSpan_22 : decode cX7_hasSpan 22 = .ok (.isub, 1) := by decide +kernel
theorem dX7_hasSpan_23 : decode cX7_hasSpan 23 = .ok (.if_icmp .gt 7, 3) := by decide +kernel
theorem dX7_hasSpan_26 : decode cX7_hasSpan 26 = .ok (.iconst 1, 1) := by decide +kernel
theorem dX7_hasSpan_27 : decode cX7_hasSpan 27 = .ok (.goto 4, 3) := by decide +kernel
theorem dX7_hasSpan_30 : decode cX7_hasSpan 30 = .ok (.iconst 0, 1) := by decide +kernel
theorem dX7_hasSpan_31 : decode cX7_hasSpan 31 = .ok (.ireturn, 1) := by decide +kernel
theorem dX8_init_0 : decode cX8_init 0 = .ok (.aload_n 0, 1) := by decide +kernel
theorem dX8_init_1 : decode cX8_init 1 = .ok (.invokespecial 3, 3) := by decide +kernel
theorem dX8_init_4 : decode cX8_init 4 = .ok (.aload_n 0, 1) := by decide +kernel
theorem dX8_init_5 : decode cX8_init 5 = .ok (.bipush 120, 2) := by decide +kernel
theorem dX8_init_7 : decode cX8_init 7 = .ok (.newarray .byte, 2) := by decide +kernel
theorem dX8_init_9 : decode cX8_init 9 = .ok (.putfield 9, 3) := by decide +kernel
theorem dX8_init_12 : decode cX8_init 12 = .ok (.aload_n 0, 1) := by decide +kernel
theorem dX8_init_13 : decode cX8_init 13 = .ok (.aload_n 1, 1) := by decide +kernel
theorem dX8_init_14 : decode cX8_init 14 = .ok (.putfield 15, 3) := by decide +kernel
theorem dX8_init_17 : decode cX8_init 17 = .ok (.return_, 1) := by decide +kernel
theorem dX8_hasRoomFor_0 : decode cX8_hasRoomFor 0 = .ok (.aload_n 0, 1) := by decide +kernel
theorem dX8_hasRoomFor_1 : decode cX8_hasRoomFor 1 = .ok (.getfield 19, 3) := by decide +kernel
theorem dX8_hasRoomFor_4 : decode cX8_hasRoomFor 4 = .ok (.iload_n 1, 1) := by decide +kernel
theorem dX8_hasRoomFor_5 : decode cX8_hasRoomFor 5 = .ok (.iadd, 1) := by decide +kernel
theorem dX8_hasRoomFor_6 : decode cX8_hasRoomFor 6 = .ok (.bipush 120, 2) := by decide +kernel
theorem dX8_hasRoomFor_8 : decode cX8_hasRoomFor 8 = .ok (.if_icmp .gt 7, 3) := by decide +kernel
theorem dX8_hasRoomFor_11 : decode cX8_hasRoomFor 11 = .ok (.iconst 1, 1) := by decide +kernel
theorem dX8_hasRoomFor_12 : decode cX8_hasRoomFor 12 = .ok (.goto 4, 3) := by decide +kernel
theorem dX8_hasRoomFor_15 : decode cX8_hasRoomFor 15 = .ok (.iconst 0, 1) := by decide +kernel
theorem dX8_hasRoomFor_16 : decode cX8_hasRoomFor 16 = .ok (.ireturn, 1) := by decide +kernel
theorem dX8_append_0 : decode cX8_append 0 = .ok (.iload_n 2, 1) := by decide +kernel
theorem dX8_append_1 : decode cX8_append 1 = .ok (.iconst 1, 1) := by decide +kernel
theorem dX8_append_2 : decode cX8_append 2 = .ok (.isub, 1) := by decide +kernel
theorem dX8_append_3 : decode cX8_append 3 = .ok (.istore_n 3, 1) := by decide +kernel
theorem dX8_append_4 : decode cX8_append 4 = .ok (.iload_n 3, 1) := by decide +kernel
theorem dX8_append_5 : decode cX8_append 5 = .ok (.ifCond .lt 44, 3) := by decide +kernel
theorem dX8_append_8 : decode cX8_append 8 = .ok (.aload_n 0, 1) := by decide +kernel
theorem dX8_append_9 : decode cX8_append 9 = .ok (.getfield 19, 3) := by decide +kernel
theorem dX8_append_12 : decode cX8_append 12 = .ok (.bipush 120, 2) := by decide +kernel
theorem dX8_append_14 : decode cX8_append 14 = .ok (.if_icmp .ge 35, 3) := by decide +kernel
theorem dX8_append_17 : decode cX8_append 17 = .ok (.aload_n 0, 1) := by decide +kernel
theorem dX8_append_18 : decode cX8_append 18 = .ok (.getfield 9, 3) := by decide +kernel
theorem dX8_append_21 : decode cX8_append 21 = .ok (.aload_n 0, 1) := by decide +kernel
theorem dX8_append_22 : decode cX8_append 22 = .ok (.getfield 19, 3) := by decide +kernel
theorem dX8_append_25 : decode cX8_append 25 = .ok (.iload_n 1, 1) := by decide +kernel
theorem dX8_append_26 : decode cX8_append 26 = .ok (.bipush 8, 2) := by decide +kernel
theorem dX8_append_28 : decode cX8_append 28 = .ok (.iload_n 3, 1) := by decide +kernel
theorem dX8_append_29 : decode cX8_append 29 = .ok (.imul, 1) := by decide +kernel
theorem dX8_append_30 : decode cX8_append 30 = .ok (.ishr, 1) := by decide +kernel
theorem dX8_append_31 : decode cX8_append 31 = .ok (.i2b, 1) := by decide +kernel
theorem dX8_append_32 : decode cX8_append 32 = .ok (.bastore, 1) := by decide +kernel
theorem dX8_append_33 : decode cX8_append 33 = .ok (.aload_n 0, 1) := by decide +kernel
theorem dX8_append_34 : decode cX8_append 34 = .ok (.dup, 1) := by decide +kernel
theorem dX8_append_35 : decode cX8_append 35 = .ok (.getfield 19, 3) := by decide +kernel
theorem dX8_append_38 : decode cX8_append 38 = .ok (.iconst 1, 1) := by decide +kernel
theorem dX8_append_39 : decode cX8_append 39 = .ok (.iadd, 1) := by decide +kernel
theorem dX8_append_40 : decode cX8_append 40 = .ok (.putfield 19, 3) := by decide +kernel
theorem dX8_append_43 : decode cX8_append 43 = .ok (.iinc 3 (-1), 3) := by decide +kernel
theorem dX8_append_46 : decode cX8_append 46 = .ok (.goto (-42), 3) := by decide +kernel
theorem dX8_append_49 : decode cX8_append 49 = .ok (.return_, 1) := by decide +kernel
theorem dX8_tellTo_0 : decode cX8_tellTo 0 = .ok (.aload_n 0, 1) := by decide +kernel
theorem dX8_tellTo_1 : decode cX8_tellTo 1 = .ok (.iconst 0, 1) := by decide +kernel
theorem dX8_tellTo_2 : decode cX8_tellTo 2 = .ok (.putfield 23, 3) := by decide +kernel
theorem dX8_tellTo_5 : decode cX8_tellTo 5 = .ok (.aload_n 0, 1) := by decide +kernel
theorem dX8_tellTo_6 : decode cX8_tellTo 6 = .ok (.invokevirtual 26, 3) := by decide +kernel
theorem dX8_tellTo_9 : decode cX8_tellTo 9 = .ok (.iconst 1, 1) := by decide +kernel
theorem dX8_tellTo_10 : decode cX8_tellTo 10 = .ok (.istore_n 2, 1) := by decide +kernel
theorem dX8_tellTo_11 : decode cX8_tellTo 11 = .ok (.iload_n 2, 1) := by decide +kernel
theorem dX8_tellTo_12 : decode cX8_tellTo 12 = .ok (.bipush 120, 2) := by decide +kernel
theorem dX8_tellTo_14 : decode cX8_tellTo 14 = .ok (.if_icmp .gt 52, 3) := by decide +kernel
theorem dX8_tellTo_17 : decode cX8_tellTo 17 = .ok (.aload_n 0, 1) := by decide +kernel
theorem dX8_tellTo_18 : decode cX8_tellTo 18 = .ok (.aload_n 1, 1) := by decide +kernel
theorem dX8_tellTo_19 : decode cX8_tellTo 19 = .ok (.invokevirtual 29, 3) := by decide +kernel
theorem dX8_tellTo_22 : decode cX8_tellTo 22 = .ok (.ifCond .ne 10, 3) := by decide +kernel
theorem dX8_tellTo_25 : decode cX8_tellTo 25 = .ok (.iconst (-1), 1) := by decide +kernel
theorem dX8_tellTo_26 : decode cX8_tellTo 26 = .ok (.aload_n 0, 1) := by decide +kernel
theorem dX8_tellTo_27 : decode cX8_tellTo 27 = .ok (.getfield 33, 3) := by decide +kernel
theorem dX8_tellTo_30 : decode cX8_tellTo 30 = .ok (.isub, 1) := by decide +kernel
theorem dX8_tellTo_31 : decode cX8_tellTo 31 = .ok (.ireturn, 1) := by decide +kernel
theorem dX8_tellTo_32 : decode cX8_tellTo 32 = .ok (.aload_n 0, 1) := by decide +kernel
theorem dX8_tellTo_33 : decode cX8_tellTo 33 = .ok (.getfield 36, 3) := by decide +kernel
theorem dX8_tellTo_36 : decode cX8_tellTo 36 = .ok (.ifCond .ne 5, 3) := by decide +kernel
theorem dX8_tellTo_39 : decode cX8_tellTo 39 = .ok (.iload_n 2, 1) := by decide +kernel
theorem dX8_tellTo_40 : decode cX8_tellTo 40 = .ok (.ireturn, 1) := by decide +kernel
theorem dX8_tellTo_41 : decode cX8_tellTo 41 = .ok (.aload_n 0, 1) := by decide +kernel
theorem dX8_tellTo_42 : decode cX8_tellTo 42 = .ok (.getfield 36, 3) := by decide +kernel
theorem dX8_tellTo_45 : decode cX8_tellTo 45 = .ok (.iconst 3, 1) := by decide +kernel
theorem dX8_tellTo_46 : decode cX8_tellTo 46 = .ok (.if_icmp .eq 10, 3) := by decide +kernel
theorem dX8_tellTo_49 : decode cX8_tellTo 49 = .ok (.iconst (-1), 1) := by decide +kernel
theorem dX8_tellTo_50 : decode cX8_tellTo 50 = .ok (.aload_n 0, 1) := by decide +kernel
theorem dX8_tellTo_51 : decode cX8_tellTo 51 = .ok (.getfield 33, 3) := by decide +kernel
theorem dX8_tellTo_54 : decode cX8_tellTo 54 = .ok (.isub, 1) := by decide +kernel
theorem dX8_tellTo_55 : decode cX8_tellTo 55 = .ok (.ireturn, 1) := by decide +kernel
theorem dX8_tellTo_56 : decode cX8_tellTo 56 = .ok (.aload_n 0, 1) := by decide +kernel
theorem dX8_tellTo_57 : decode cX8_tellTo 57 = .ok (.invokevirtual 26, 3) := by decide +kernel
theorem dX8_tellTo_60 : decode cX8_tellTo 60 = .ok (.iinc 2 1, 3) := by decide +kernel
theorem dX8_tellTo_63 : decode cX8_tellTo 63 = .ok (.goto (-52), 3) := by decide +kernel
theorem dX8_tellTo_66 : decode cX8_tellTo 66 = .ok (.iconst (-1), 1) := by decide +kernel
theorem dX8_tellTo_67 : decode cX8_tellTo 67 = .ok (.aload_n 0, 1) := by decide +kernel
theorem dX8_tellTo_68 : decode cX8_tellTo 68 = .ok (.getfield 33, 3) := by decide +kernel
theorem dX8_tellTo_71 : decode cX8_tellTo 71 = .ok (.isub, 1) := by decide +kernel
theorem dX8_tellTo_72 : decode cX8_tellTo 72 = .ok (.ireturn, 1) := by decide +kernel
theorem dX8_takeItem_0 : decode cX8_takeItem 0 = .ok (.aload_n 0, 1) := by decide +kernel
theorem dX8_takeItem_1 : decode cX8_takeItem 1 = .ok (.invokevirtual 39, 3) := by decide +kernel
theorem dX8_takeItem_4 : decode cX8_takeItem 4 = .ok (.istore_n 2, 1) := by decide +kernel
theorem dX8_takeItem_5 : decode cX8_takeItem 5 = .ok (.iload_n 2, 1) := by decide +kernel
theorem dX8_takeItem_6 : decode cX8_takeItem 6 = .ok (.ifCond .lt 10, 3) := by decide +kernel
theorem dX8_takeItem_9 : decode cX8_takeItem 9 = .ok (.aload_n 0, 1) := by decide +kernel
theorem dX8_takeItem_10 : decode cX8_takeItem 10 = .ok (.aload_n 1, 1) := by decide +kernel
theorem dX8_takeItem_11 : decode cX8_takeItem 11 = .ok (.iload_n 2, 1) := by decide +kernel
theorem dX8_takeItem_12 : decode cX8_takeItem 12 = .ok (.invokevirtual 43, 3) := by decide +kernel
theorem dX8_takeItem_15 : decode cX8_takeItem 15 = .ok (.ireturn, 1) := by decide +kernel
theorem dX8_takeItem_16 : decode cX8_takeItem 16 = .ok (.aload_n 0, 1) := by decide +kernel
theorem dX8_takeItem_17 : decode cX8_takeItem 17 = .ok (.ldc 47, 2) := by decide +kernel
theorem dX8_takeItem_19 : decode cX8_takeItem 19 = .ok (.invokevirtual 49, 3) := by decide +kernel
theorem dX8_takeItem_22 : decode cX8_takeItem 22 = .ok (.ifCond .eq 14, 3) := by decide +kernel
theorem dX8_takeItem_25 : decode cX8_takeItem 25 = .ok (.aload_n 0, 1) := by decide +kernel
theorem dX8_takeItem_26 : decode cX8_takeItem 26 = .ok (.aload_n 1, 1) := by decide +kernel
theorem dX8_takeItem_27 : decode cX8_takeItem 27 = .ok (.getfield 53, 3) := by decide +kernel
theorem dX8_takeItem_30 : decode cX8_takeItem 30 = .ok (.bipush 20, 2) := by decide +kernel
theorem dX8_takeItem_32 : decode cX8_takeItem 32 = .ok (.invokevirtual 59, 3) := by decide +kernel
theorem dX8_takeItem_35 : decode cX8_takeItem 35 = .ok (.ireturn, 1) := by decide +kernel
theorem dX8_takeItem_36 : decode cX8_takeItem 36 = .ok (.aload_n 0, 1) := by decide +kernel
theorem dX8_takeItem_37 : decode cX8_takeItem 37 = .ok (.ldc 63, 2) := by decide +kernel
theorem dX8_takeItem_39 : decode cX8_takeItem 39 = .ok (.invokevirtual 49, 3) := by decide +kernel
theorem dX8_takeItem_42 : decode cX8_takeItem 42 = .ok (.ifCond .eq 14, 3) := by decide +kernel
theorem dX8_takeItem_45 : decode cX8_takeItem 45 = .ok (.aload_n 0, 1) := by decide +kernel
theorem dX8_takeItem_46 : decode cX8_takeItem 46 = .ok (.aload_n 1, 1) := by decide +kernel
theorem dX8_takeItem_47 : decode cX8_takeItem 47 = .ok (.getfield 65, 3) := by decide +kernel
theorem dX8_takeItem_50 : decode cX8_takeItem 50 = .ok (.bipush 9, 2) := by decide +kernel
theorem dX8_takeItem_52 : decode cX8_takeItem 52 = .ok (.invokevirtual 59, 3) := by decide +kernel
theorem dX8_takeItem_55 : decode cX8_takeItem 55 = .ok (.ireturn, 1) := by decide +kernel
theorem dX8_takeItem_56 : decode cX8_takeItem 56 = .ok (.iconst 0, 1) := by decide +kernel
theorem dX8_takeItem_57 : decode cX8_takeItem 57 = .ok (.ireturn, 1) := by decide +kernel
theorem dX8_takeThing_0 : decode cX8_takeThing 0 = .ok (.aload_n 1, 1) := by decide +kernel
theorem dX8_takeThing_1 : decode cX8_takeThing 1 = .ok (.invokevirtual 68, 3) := by decide +kernel
theorem dX8_takeThing_4 : decode cX8_takeThing 4 = .ok (.ifCond .eq 5, 3) := by decide +kernel
theorem dX8_takeThing_7 : decode cX8_takeThing 7 = .ok (.iconst 0, 1) := by decide +kernel
theorem dX8_takeThing_8 : decode cX8_takeThing 8 = .ok (.ireturn, 1) := by decide +kernel
theorem dX8_takeThing_9 : decode cX8_takeThing 9 = .ok (.aload_n 0, 1) := by decide +kernel
theorem dX8_takeThing_10 : decode cX8_takeThing 10 = .ok (.invokevirtual 26, 3) := by decide +kernel
theorem dX8_takeThing_13 : decode cX8_takeThing 13 = .ok (.aload_n 0, 1) := by decide +kernel
theorem dX8_takeThing_14 : decode cX8_takeThing 14 = .ok (.bipush 99, 2) := by decide +kernel
theorem dX8_takeThing_16 : decode cX8_takeThing 16 = .ok (.invokevirtual 72, 3) := by decide +kernel
theorem dX8_takeThing_19 : decode cX8_takeThing 19 = .ok (.istore_n 3, 1) := by decide +kernel
theorem dX8_takeThing_20 : decode cX8_takeThing 20 = .ok (.iload_n 3, 1) := by decide +kernel
theorem dX8_takeThing_21 : decode cX8_takeThing 21 = .ok (.ifCond .ge 5, 3) := by decide +kernel
theorem dX8_takeThing_24 : decode cX8_takeThing 24 = .ok (.iconst 0, 1) := by decide +kernel
theorem dX8_takeThing_25 : decode cX8_takeThing 25 = .ok (.ireturn, 1) := by decide +kernel
theorem dX8_takeThing_26 : decode cX8_takeThing 26 = .ok (.iconst (-1), 1) := by decide +kernel
theorem dX8_takeThing_27 : decode cX8_takeThing 27 = .ok (.istore 4, 2) := by decide +kernel
theorem dX8_takeThing_29 : decode cX8_takeThing 29 = .ok (.aload_n 0, 1) := by decide +kernel
theorem dX8_takeThing_30 : decode cX8_takeThing 30 = .ok (.ldc 76, 2) := by decide +kernel
theorem dX8_takeThing_32 : decode cX8_takeThing 32 = .ok (.invokevirtual 49, 3) := by decide +kernel
theorem dX8_takeThing_35 : decode cX8_takeThing 35 = .ok (.ifCond .eq 21, 3) := by decide +kernel
theorem dX8_takeThing_38 : decode cX8_takeThing 38 = .ok (.aload_n 0, 1) := by decide +kernel
theorem dX8_takeThing_39 : decode cX8_takeThing 39 = .ok (.invokevirtual 26, 3) := by decide +kernel
theorem dX8_takeThing_42 : decode cX8_takeThing 42 = .ok (.aload_n 0, 1) := by decide +kernel
theorem dX8_takeThing_43 : decode cX8_takeThing 43 = .ok (.iconst 5, 1) := by decide +kernel
theorem dX8_takeThing_44 : decode cX8_takeThing 44 = .ok (.invokevirtual 72, 3) := by decide +kernel
theorem dX8_takeThing_47 : decode cX8_takeThing 47 = .ok (.istore 4, 2) := by decide +kernel
theorem dX8_takeThing_49 : decode cX8_takeThing 49 = .ok (.iload 4, 2) := by decide +kernel
theorem dX8_takeThing_51 : decode cX8_takeThing 51 = .ok (.ifCond .ge 5, 3) := by decide +kernel
theorem dX8_takeThing_54 : decode cX8_takeThing 54 = .ok (.iconst 0, 1) := by decide +kernel
theorem dX8_takeThing_55 : decode cX8_takeThing 55 = .ok (.ireturn, 1) := by decide +kernel
theorem dX8_takeThing_56 : decode cX8_takeThing 56 = .ok (.iconst 0, 1) := by decide +kernel
theorem dX8_takeThing_57 : decode cX8_takeThing 57 = .ok (.istore 5, 2) := by decide +kernel
theorem dX8_takeThing_59 : decode cX8_takeThing 59 = .ok (.aload_n 0, 1) := by decide +kernel
theorem dX8_takeThing_60 : decode cX8_takeThing 60 = .ok (.ldc 78, 2) := by decide +kernel
theorem dX8_takeThing_62 : decode cX8_takeThing 62 = .ok (.invokevirtual 49, 3) := by decide +kernel
theorem dX8_takeThing_65 : decode cX8_takeThing 65 = .ok (.ifCond .eq 23, 3) := by decide +kernel
theorem dX8_takeThing_68 : decode cX8_takeThing 68 = .ok (.aload_n 0, 1) := by decide +kernel
theorem dX8_takeThing_69 : decode cX8_takeThing 69 = .ok (.invokevirtual 26, 3) := by decide +kernel
theorem dX8_takeThing_72 : decode cX8_takeThing 72 = .ok (.aload_n 0, 1) := by decide +kernel
theorem dX8_takeThing_73 : decode cX8_takeThing 73 = .ok (.sipush 999, 3) := by decide +kernel
theorem dX8_takeThing_76 : decode cX8_takeThing 76 = .ok (.invokevirtual 72, 3) := by decide +kernel
theorem dX8_takeThing_79 : decode cX8_takeThing 79 = .ok (.istore 5, 2) := by decide +kernel
theorem dX8_takeThing_81 : decode cX8_takeThing 81 = .ok (.iload 5, 2) := by decide +kernel
theorem dX8_takeThing_83 : decode cX8_takeThing 83 = .ok (.ifCond .ge 5, 3) := by decide +kernel
theorem dX8_takeThing_86 : decode cX8_takeThing 86 = .ok (.iconst 0, 1) := by decide +kernel
theorem dX8_takeThing_87 : decode cX8_takeThing 87 = .ok (.ireturn, 1) := by decide +kernel
theorem dX8_takeThing_88 : decode cX8_takeThing 88 = .ok (.aload_n 1, 1) := by decide +kernel
theorem dX8_takeThing_89 : decode cX8_takeThing 89 = .ok (.iload_n 2, 1) := by decide +kernel
theorem dX8_takeThing_90 : decode cX8_takeThing 90 = .ok (.iload_n 3, 1) := by decide +kernel
theorem dX8_takeThing_91 : decode cX8_takeThing 91 = .ok (.iload 4, 2) := by decide +kernel
theorem dX8_takeThing_93 : decode cX8_takeThing 93 = .ok (.iload 5, 2) := by decide +kernel
theorem dX8_takeThing_95 : decode cX8_takeThing 95 = .ok (.invokevirtual 80, 3) := by decide +kernel
theorem dX8_takeThing_98 : decode cX8_takeThing 98 = .ok (.iconst 1, 1) := by decide +kernel
theorem dX8_takeThing_99 : decode cX8_takeThing 99 = .ok (.ireturn, 1) := by decide +kernel
theorem dX8_takeTrait_0 : decode cX8_takeTrait 0 = .ok (.aload_n 0, 1) := by decide +kernel
theorem dX8_takeTrait_1 : decode cX8_takeTrait 1 = .ok (.invokevirtual 26, 3) := by decide +kernel
theorem dX8_takeTrait_4 : decode cX8_takeTrait 4 = .ok (.aload_n 0, 1) := by decide +kernel
theorem dX8_takeTrait_5 : decode cX8_takeTrait 5 = .ok (.iconst 5, 1) := by decide +kernel
theorem dX8_takeTrait_6 : decode cX8_takeTrait 6 = .ok (.invokevirtual 72, 3) := by decide +kernel
theorem dX8_takeTrait_9 : decode cX8_takeTrait 9 = .ok (.istore_n 3, 1) := by decide +kernel
theorem dX8_takeTrait_10 : decode cX8_takeTrait 10 = .ok (.iload_n 3, 1) := by decide +kernel
theorem dX8_takeTrait_11 : decode cX8_takeTrait 11 = .ok (.ifCond .lt 9, 3) := by decide +kernel
theorem dX8_takeTrait_14 : decode cX8_takeTrait 14 = .ok (.iload_n 3, 1) := by decide +kernel
theorem dX8_takeTrait_15 : decode cX8_takeTrait 15 = .ok (.aload_n 1, 1) := by decide +kernel
theorem dX8_takeTrait_16 : decode cX8_takeTrait 16 = .ok (.arraylength, 1) := by decide +kernel
theorem dX8_takeTrait_17 : decode cX8_takeTrait 17 = .ok (.if_icmp .lt 5, 3) := by decide +kernel
theorem dX8_takeTrait_20 : decode cX8_takeTrait 20 = .ok (.iconst 0, 1) := by decide +kernel
theorem dX8_takeTrait_21 : decode cX8_takeTrait 21 = .ok (.ireturn, 1) := by decide +kernel
theorem dX8_takeTrait_22 : decode cX8_takeTrait 22 = .ok (.aload_n 0, 1) := by decide +kernel
theorem dX8_takeTrait_23 : decode cX8_takeTrait 23 = .ok (.iload_n 2, 1) := by decide +kernel
theorem dX8_takeTrait_24 : decode cX8_takeTrait 24 = .ok (.invokevirtual 72, 3) := by decide +kernel
theorem dX8_takeTrait_27 : decode cX8_takeTrait 27 = .ok (.istore 4, 2) := by decide +kernel
theorem dX8_takeTrait_29 : decode cX8_takeTrait 29 = .ok (.iload 4, 2) := by decide +kernel
theorem dX8_takeTrait_31 : decode cX8_takeTrait 31 = .ok (.ifCond .ge 5, 3) := by decide +kernel
theorem dX8_takeTrait_34 : decode cX8_takeTrait 34 = .ok (.iconst 0, 1) := by decide +kernel
theorem dX8_takeTrait_35 : decode cX8_takeTrait 35 = .ok (.ireturn, 1) := by decide +kernel
theorem dX8_takeTrait_36 : decode cX8_takeTrait 36 = .ok (.aload_n 1, 1) := by decide +kernel
theorem dX8_takeTrait_37 : decode cX8_takeTrait 37 = .ok (.iload_n 3, 1) := by decide +kernel
theorem dX8_takeTrait_38 : decode cX8_takeTrait 38 = .ok (.iload 4, 2) := by decide +kernel
theorem dX8_takeTrait_40 : decode cX8_takeTrait 40 = .ok (.iastore, 1) := by decide +kernel
theorem dX8_takeTrait_41 : decode cX8_takeTrait 41 = .ok (.iconst 1, 1) := by decide +kernel
theorem dX8_takeTrait_42 : decode cX8_takeTrait 42 = .ok (.ireturn, 1) := by decide +kernel
theorem dX8_takeNumber_0 : decode cX8_takeNumber 0 = .ok (.aload_n 0, 1) := by decide +kernel
theorem dX8_takeNumber_1 : decode cX8_takeNumber 1 = .ok (.getfield 36, 3) := by decide +kernel
theorem dX8_takeNumber_4 : decode cX8_takeNumber 4 = .ok (.iconst 2, 1) := by decide +kernel
theorem dX8_takeNumber_5 : decode cX8_takeNumber 5 = .ok (.if_icmp .ne 10, 3) := by decide +kernel
theorem dX8_takeNumber_8 : decode cX8_takeNumber 8 = .ok (.aload_n 0, 1) := by decide +kernel
theorem dX8_takeNumber_9 : decode cX8_takeNumber 9 = .ok (.invokevirtual 84, 3) := by decide +kernel
theorem dX8_takeNumber_12 : decode cX8_takeNumber 12 = .ok (.goto 4, 3) := by decide +kernel
theorem dX8_takeNumber_15 : decode cX8_takeNumber 15 = .ok (.iconst (-1), 1) := by decide +kernel
theorem dX8_takeNumber_16 : decode cX8_takeNumber 16 = .ok (.istore_n 2, 1) := by decide +kernel
theorem dX8_takeNumber_17 : decode cX8_takeNumber 17 = .ok (.iload_n 2, 1) := by decide +kernel
theorem dX8_takeNumber_18 : decode cX8_takeNumber 18 = .ok (.ifCond .lt 8, 3) := by decide +kernel
theorem dX8_takeNumber_21 : decode cX8_takeNumber 21 = .ok (.iload_n 2, 1) := by decide +kernel
theorem dX8_takeNumber_22 : decode cX8_takeNumber 22 = .ok (.iload_n 1, 1) := by decide +kernel
theorem dX8_takeNumber_23 : decode cX8_takeNumber 23 = .ok (.if_icmp .le 5, 3) := by decide +kernel
theorem dX8_takeNumber_26 : decode cX8_takeNumber 26 = .ok (.iconst (-1), 1) := by decide +kernel
theorem dX8_takeNumber_27 : decode cX8_takeNumber 27 = .ok (.ireturn, 1) := by decide +kernel
theorem dX8_takeNumber_28 : decode cX8_takeNumber 28 = .ok (.aload_n 0, 1) := by decide +kernel
theorem dX8_takeNumber_29 : decode cX8_takeNumber 29 = .ok (.invokevirtual 26, 3) := by decide +kernel
theorem dX8_takeNumber_32 : decode cX8_takeNumber 32 = .ok (.iload_n 2, 1) := by decide +kernel
theorem dX8_takeNumber_33 : decode cX8_takeNumber 33 = .ok (.ireturn, 1) := by decide +kernel
theorem dX8_kindAtHand_0 : decode cX8_kindAtHand 0 = .ok (.iconst 0, 1) := by decide +kernel
theorem dX8_kindAtHand_1 : decode cX8_kindAtHand 1 = .ok (.istore_n 1, 1) := by decide +kernel
theorem dX8_kindAtHand_2 : decode cX8_kindAtHand 2 = .ok (.iload_n 1, 1) := by decide +kernel
theorem dX8_kindAtHand_3 : decode cX8_kindAtHand 3 = .ok (.aload_n 0, 1) := by decide +kernel
theorem dX8_kindAtHand_4 : decode cX8_kindAtHand 4 = .ok (.getfield 15, 3) := by decide +kernel
theorem dX8_kindAtHand_7 : decode cX8_kindAtHand 7 = .ok (.arraylength, 1) := by decide +kernel
theorem dX8_kindAtHand_8 : decode cX8_kindAtHand 8 = .ok (.if_icmp .ge 27, 3) := by decide +kernel
theorem dX8_kindAtHand_11 : decode cX8_kindAtHand 11 = .ok (.aload_n 0, 1) := by decide +kernel
theorem dX8_kindAtHand_12 : decode cX8_kindAtHand 12 = .ok (.aload_n 0, 1) := by decide +kernel
theorem dX8_kindAtHand_13 : decode cX8_kindAtHand 13 = .ok (.getfield 15, 3) := by decide +kernel
theorem dX8_kindAtHand_16 : decode cX8_kindAtHand 16 = .ok (.iload_n 1, 1) := by decide +kernel
theorem dX8_kindAtHand_17 : decode cX8_kindAtHand 17 = .ok (.aaload, 1) := by decide +kernel
theorem dX8_kindAtHand_18 : decode cX8_kindAtHand 18 = .ok (.getfield 87, 3) := by decide +kernel
theorem dX8_kindAtHand_21 : decode cX8_kindAtHand 21 = .ok (.invokevirtual 49, 3) := by decide +kernel
theorem dX8_kindAtHand_24 : decode cX8_kindAtHand 24 = .ok (.ifCond .eq 5, 3) := by decide +kernel
theorem dX8_kindAtHand_27 : decode cX8_kindAtHand 27 = .ok (.iload_n 1, 1) := by decide +kernel
theorem dX8_kindAtHand_28 : decode cX8_kindAtHand 28 = .ok (.ireturn, 1) := by decide +kernel
theorem dX8_kindAtHand_29 : decode cX8_kindAtHand 29 = .ok (.iinc 1 1, 3) := by decide +kernel
theorem dX8_kindAtHand_32 : decode cX8_kindAtHand 32 = .ok (.goto (-30), 3) := by decide +kernel
theorem dX8_kindAtHand_35 : decode cX8_kindAtHand 35 = .ok (.iconst (-1), 1) := by decide +kernel
theorem dX8_kindAtHand_36 : decode cX8_kindAtHand 36 = .ok (.ireturn, 1) := by decide +kernel
theorem dX8_isAtWord_0 : decode cX8_isAtWord 0 = .ok (.aload_n 0, 1) := by decide +kernel
theorem dX8_isAtWord_1 : decode cX8_isAtWord 1 = .ok (.getfield 36, 3) := by decide +kernel
theorem dX8_isAtWord_4 : decode cX8_isAtWord 4 = .ok (.iconst 1, 1) := by decide +kernel
theorem dX8_isAtWord_5 : decode cX8_isAtWord 5 = .ok (.if_icmp .ne 19, 3) := by decide +kernel
theorem dX8_isAtWord_8 : decode cX8_isAtWord 8 = .ok (.aload_n 0, 1) := by decide +kernel
theorem dX8_isAtWord_9 : decode cX8_isAtWord 9 = .ok (.getfield 23, 3) := by decide +kernel
theorem dX8_isAtWord_12 : decode cX8_isAtWord 12 = .ok (.aload_n 0, 1) := by decide +kernel
theorem dX8_isAtWord_13 : decode cX8_isAtWord 13 = .ok (.getfield 33, 3) := by decide +kernel
theorem dX8_isAtWord_16 : decode cX8_isAtWord 16 = .ok (.isub, 1) := by decide +kernel
theorem dX8_isAtWord_17 : decode cX8_isAtWord 17 = .ok (.aload_n 1, 1) := by decide +kernel
theorem dX8_isAtWord_18 : decode cX8_isAtWord 18 = .ok (.invokevirtual 93, 3) := by decide +kernel
theorem dX8_isAtWord_21 : decode cX8_isAtWord 21 = .ok (.if_icmp .eq 5, 3) := by decide +kernel
theorem dX8_isAtWord_24 : decode cX8_isAtWord 24 = .ok (.iconst 0, 1) := by decide +kernel
theorem dX8_isAtWord_25 : decode cX8_isAtWord 25 = .ok (.ireturn, 1) := by decide +kernel
theorem dX8_isAtWord_26 : decode cX8_isAtWord 26 = .ok (.iconst 0, 1) := by decide +kernel
theorem dX8_isAtWord_27 : decode cX8_isAtWord 27 = .ok (.istore_n 2, 1) := by decide +kernel
theorem dX8_isAtWord_28 : decode cX8_isAtWord 28 = .ok (.iload_n 2, 1) := by decide +kernel
theorem dX8_isAtWord_29 : decode cX8_isAtWord 29 = .ok (.aload_n 1, 1) := by decide +kernel
theorem dX8_isAtWord_30 : decode cX8_isAtWord 30 = .ok (.invokevirtual 93, 3) := by decide +kernel
theorem dX8_isAtWord_33 : decode cX8_isAtWord 33 = .ok (.if_icmp .ge 30, 3) := by decide +kernel
theorem dX8_isAtWord_36 : decode cX8_isAtWord 36 = .ok (.aload_n 0, 1) := by decide +kernel
theorem dX8_isAtWord_37 : decode cX8_isAtWord 37 = .ok (.getfield 9, 3) := by decide +kernel
theorem dX8_isAtWord_40 : decode cX8_isAtWord 40 = .ok (.aload_n 0, 1) := by decide +kernel
theorem dX8_isAtWord_41 : decode cX8_isAtWord 41 = .ok (.getfield 33, 3) := by decide +kernel
theorem dX8_isAtWord_44 : decode cX8_isAtWord 44 = .ok (.iload_n 2, 1) := by decide +kernel
theorem dX8_isAtWord_45 : decode cX8_isAtWord 45 = .ok (.iadd, 1) := by decide +kernel
theorem dX8_isAtWord_46 : decode cX8_isAtWord 46 = .ok (.baload, 1) := by decide +kernel
theorem dX8_isAtWord_47 : decode cX8_isAtWord 47 = .ok (.aload_n 1, 1) := by decide +kernel
theorem dX8_isAtWord_48 : decode cX8_isAtWord 48 = .ok (.iload_n 2, 1) := by decide +kernel
theorem dX8_isAtWord_49 : decode cX8_isAtWord 49 = .ok (.invokevirtual 97, 3) := by decide +kernel
theorem dX8_isAtWord_52 : decode cX8_isAtWord 52 = .ok (.if_icmp .eq 5, 3) := by decide +kernel
theorem dX8_isAtWord_55 : decode cX8_isAtWord 55 = .ok (.iconst 0, 1) := by decide +kernel
theorem dX8_isAtWord_56 : decode cX8_isAtWord 56 = .ok (.ireturn, 1) := by decide +kernel
theorem dX8_isAtWord_57 : decode cX8_isAtWord 57 = .ok (.iinc 2 1, 3) := by decide +kernel
theorem dX8_isAtWord_60 : decode cX8_isAtWord 60 = .ok (.goto (-32), 3) := by decide +kernel
theorem dX8_isAtWord_63 : decode cX8_isAtWord 63 = .ok (.iconst 1, 1) := by decide +kernel
theorem dX8_isAtWord_64 : decode cX8_isAtWord 64 = .ok (.ireturn, 1) := by decide +kernel
theorem dX8_nextToken_0 : decode cX8_nextToken 0 = .ok (.aload_n 0, 1) := by decide +kernel
theorem dX8_nextToken_1 : decode cX8_nextToken 1 = .ok (.aload_n 0, 1) := by decide +kernel
theorem dX8_nextToken_2 : decode cX8_nextToken 2 = .ok (.getfield 23, 3) := by decide +kernel
theorem dX8_nextToken_5 : decode cX8_nextToken 5 = .ok (.putfield 33, 3) := by decide +kernel
theorem dX8_nextToken_8 : decode cX8_nextToken 8 = .ok (.aload_n 0, 1) := by decide +kernel
theorem dX8_nextToken_9 : decode cX8_nextToken 9 = .ok (.getfield 33, 3) := by decide +kernel
theorem dX8_nextToken_12 : decode cX8_nextToken 12 = .ok (.aload_n 0, 1) := by decide +kernel
theorem dX8_nextToken_13 : decode cX8_nextToken 13 = .ok (.getfield 19, 3) := by decide +kernel
theorem dX8_nextToken_16 : decode cX8_nextToken 16 = .ok (.if_icmp .ge 30, 3) := by decide +kernel
theorem dX8_nextToken_19 : decode cX8_nextToken 19 = .ok (.aload_n 0, 1) := by decide +kernel
theorem dX8_nextToken_20 : decode cX8_nextToken 20 = .ok (.getfield 9, 3) := by decide +kernel
theorem dX8_nextToken_23 : decode cX8_nextToken 23 = .ok (.aload_n 0, 1) := by decide +kernel
theorem dX8_nextToken_24 : decode cX8_nextToken 24 = .ok (.getfield 33, 3) := by decide +kernel
theorem dX8_nextToken_27 : decode cX8_nextToken 27 = .ok (.baload, 1) := by decide +kernel
theorem dX8_nextToken_28 : decode cX8_nextToken 28 = .ok (.bipush 32, 2) := by decide +kernel
theorem dX8_nextToken_30 : decode cX8_nextToken 30 = .ok (.if_icmp .ne 16, 3) := by decide +kernel
theorem dX8_nextToken_33 : decode cX8_nextToken 33 = .ok (.aload_n 0, 1) := by decide +kernel
theorem dX8_nextToken_34 : decode cX8_nextToken 34 = .ok (.dup, 1) := by decide +kernel
theorem dX8_nextToken_35 : decode cX8_nextToken 35 = .ok (.getfield 33, 3) := by decide +kernel
theorem dX8_nextToken_38 : decode cX8_nextToken 38 = .ok (.iconst 1, 1) := by decide +kernel
theorem dX8_nextToken_39 : decode cX8_nextToken 39 = .ok (.iadd, 1) := by decide +kernel
theorem dX8_nextToken_40 : decode cX8_nextToken 40 = .ok (.putfield 33, 3) := by decide +kernel
theorem dX8_nextToken_43 : decode cX8_nextToken 43 = .ok (.goto (-35), 3) := by decide +kernel
theorem dX8_nextToken_46 : decode cX8_nextToken 46 = .ok (.aload_n 0, 1) := by decide +kernel
theorem dX8_nextToken_47 : decode cX8_nextToken 47 = .ok (.aload_n 0, 1) := by decide +kernel
theorem dX8_nextToken_48 : decode cX8_nextToken 48 = .ok (.getfield 33, 3) := by decide +kernel
theorem dX8_nextToken_51 : decode cX8_nextToken 51 = .ok (.aload_n 0, 1) := by decide +kernel
theorem dX8_nextToken_52 : decode cX8_nextToken 52 = .ok (.getfield 19, 3) := by decide +kernel
theorem dX8_nextToken_55 : decode cX8_nextToken 55 = .ok (.if_icmp .ge 18, 3) := by decide +kernel
theorem dX8_nextToken_58 : decode cX8_nextToken 58 = .ok (.aload_n 0, 1) := by decide +kernel
theorem dX8_nextToken_59 : decode cX8_nextToken 59 = .ok (.getfield 9, 3) := by decide +kernel
theorem dX8_nextToken_62 : decode cX8_nextToken 62 = .ok (.aload_n 0, 1) := by decide +kernel
theorem dX8_nextToken_63 : decode cX8_nextToken 63 = .ok (.getfield 33, 3) := by decide +kernel
theorem dX8_nextToken_66 : decode cX8_nextToken 66 = .ok (.baload, 1) := by decide +kernel
theorem dX8_nextToken_67 : decode cX8_nextToken 67 = .ok (.invokestatic 101, 3) := by decide +kernel
theorem dX8_nextToken_70 : decode cX8_nextToken 70 = .ok (.goto 4, 3) := by decide +kernel
theorem dX8_nextToken_73 : decode cX8_nextToken 73 = .ok (.iconst 0, 1) := by decide +kernel
theorem dX8_nextToken_74 : decode cX8_nextToken 74 = .ok (.putfield 36, 3) := by decide +kernel
theorem dX8_nextToken_77 : decode cX8_nextToken 77 = .ok (.aload_n 0, 1) := by decide +kernel
theorem dX8_nextToken_78 : decode cX8_nextToken 78 = .ok (.aload_n 0, 1) := by decide +kernel
theorem dX8_nextToken_79 : decode cX8_nextToken 79 = .ok (.getfield 36, 3) := by decide +kernel
theorem dX8_nextToken_82 : decode cX8_nextToken 82 = .ok (.ifCond .ne 10, 3) := by decide +kernel
theorem dX8_nextToken_85 : decode cX8_nextToken 85 = .ok (.aload_n 0, 1) := by decide +kernel
theorem dX8_nextToken_86 : decode cX8_nextToken 86 = .ok (.getfield 33, 3) := by decide +kernel
theorem dX8_nextToken_89 : decode cX8_nextToken 89 = .ok (.goto 9, 3) := by decide +kernel
theorem dX8_nextToken_92 : decode cX8_nextToken 92 = .ok (.aload_n 0, 1) := by decide +kernel
theorem dX8_nextToken_93 : decode cX8_nextToken 93 = .ok (.getfield 33, 3) := by decide +kernel
theorem dX8_nextToken_96 : decode cX8_nextToken 96 = .ok (.iconst 1, 1) := by decide +kernel
theorem dX8_nextToken_97 : decode cX8_nextToken 97 = .ok (.iadd, 1) := by decide +kernel
theorem dX8_nextToken_98 : decode cX8_nextToken 98 = .ok (.putfield 23, 3) := by decide +kernel
theorem dX8_nextToken_101 : decode cX8_nextToken 101 = .ok (.aload_n 0, 1) := by decide +kernel
theorem dX8_nextToken_102 : decode cX8_nextToken 102 = .ok (.getfield 36, 3) := by decide +kernel
theorem dX8_nextToken_105 : decode cX8_nextToken 105 = .ok (.iconst 1, 1) := by decide +kernel
theorem dX8_nextToken_106 : decode cX8_nextToken 106 = .ok (.if_icmp .eq 11, 3) := by decide +kernel
theorem dX8_nextToken_109 : decode cX8_nextToken 109 = .ok (.aload_n 0, 1) := by decide +kernel
theorem dX8_nextToken_110 : decode cX8_nextToken 110 = .ok (.getfield 36, 3) := by decide +kernel
theorem dX8_nextToken_113 : decode cX8_nextToken 113 = .ok (.iconst 2, 1) := by decide +kernel
theorem dX8_nextToken_114 : decode cX8_nextToken 114 = .ok (.if_icmp .ne 46, 3) := by decide +kernel
theorem dX8_nextToken_117 : decode cX8_nextToken 117 = .ok (.aload_n 0, 1) := by decide +kernel
theorem dX8_nextToken_118 : decode cX8_nextToken 118 = .ok (.getfield 23, 3) := by decide +kernel
theorem dX8_nextToken_121 : decode cX8_nextToken 121 = .ok (.aload_n 0, 1) := by decide +kernel
theorem dX8_nextToken_122 : decode cX8_nextToken 122 = .ok (.getfield 19, 3) := by decide +kernel
theorem dX8_nextToken_125 : decode cX8_nextToken 125 = .ok (.if_icmp .ge 35, 3) := by decide +kernel
theorem dX8_nextToken_128 : decode cX8_nextToken 128 = .ok (.aload_n 0, 1) := by decide +kernel
theorem dX8_nextToken_129 : decode cX8_nextToken 129 = .ok (.getfield 9, 3) := by decide +kernel
theorem dX8_nextToken_132 : decode cX8_nextToken 132 = .ok (.aload_n 0, 1) := by decide +kernel
theorem dX8_nextToken_133 : decode cX8_nextToken 133 = .ok (.getfield 23, 3) := by decide +kernel
theorem dX8_nextToken_136 : decode cX8_nextToken 136 = .ok (.baload, 1) := by decide +kernel
theorem dX8_nextToken_137 : decode cX8_nextToken 137 = .ok (.invokestatic 101, 3) := by decide +kernel
theorem dX8_nextToken_140 : decode cX8_nextToken 140 = .ok (.aload_n 0, 1) := by decide +kernel
theorem dX8_nextToken_141 : decode cX8_nextToken 141 = .ok (.getfield 36, 3) := by decide +kernel
theorem dX8_nextToken_144 : decode cX8_nextToken 144 = .ok (.if_icmp .ne 16, 3) := by decide +kernel
theorem dX8_nextToken_147 : decode cX8_nextToken 147 = .ok (.aload_n 0, 1) := by decide +kernel
theorem dX8_nextToken_148 : decode cX8_nextToken 148 = .ok (.dup, 1) := by decide +kernel
theorem dX8_nextToken_149 : decode cX8_nextToken 149 = .ok (.getfield 23, 3) := by decide +kernel
theorem dX8_nextToken_152 : decode cX8_nextToken 152 = .ok (.iconst 1, 1) := by decide +kernel
theorem dX8_nextToken_153 : decode cX8_nextToken 153 = .ok (.iadd, 1) := by decide +kernel
theorem dX8_nextToken_154 : decode cX8_nextToken 154 = .ok (.putfield 23, 3) := by decide +kernel
theorem dX8_nextToken_157 : decode cX8_nextToken 157 = .ok (.goto (-40), 3) := by decide +kernel
theorem dX8_nextToken_160 : decode cX8_nextToken 160 = .ok (.return_, 1) := by decide +kernel
theorem dX8_sortOf_0 : decode cX8_sortOf 0 = .ok (.iload_n 0, 1) := by decide +kernel
theorem dX8_sortOf_1 : decode cX8_sortOf 1 = .ok (.bipush 97, 2) := by decide +kernel
theorem dX8_sortOf_3 : decode cX8_sortOf 3 = .ok (.if_icmp .lt 11, 3) := by decide +kernel
theorem dX8_sortOf_6 : decode cX8_sortOf 6 = .ok (.iload_n 0, 1) := by decide +kernel
theorem dX8_sortOf_7 : decode cX8_sortOf 7 = .ok (.bipush 122, 2) := by decide +kernel
theorem dX8_sortOf_9 : decode cX8_sortOf 9 = .ok (.if_icmp .gt 5, 3) := by decide +kernel
theorem dX8_sortOf_12 : decode cX8_sortOf 12 = .ok (.iconst 1, 1) := by decide +kernel
theorem dX8_sortOf_13 : decode cX8_sortOf 13 = .ok (.ireturn, 1) := by decide +kernel
theorem dX8_sortOf_14 : decode cX8_sortOf 14 = .ok (.iload_n 0, 1) := by decide +kernel
theorem dX8_sortOf_15 : decode cX8_sortOf 15 = .ok (.bipush 48, 2) := by decide +kernel
theorem dX8_sortOf_17 : decode cX8_sortOf 17 = .ok (.if_icmp .lt 11, 3) := by decide +kernel
theorem dX8_sortOf_20 : decode cX8_sortOf 20 = .ok (.iload_n 0, 1) := by decide +kernel
theorem dX8_sortOf_21 : decode cX8_sortOf 21 = .ok (.bipush 57, 2) := by decide +kernel
theorem dX8_sortOf_23 : decode cX8_sortOf 23 = .ok (.if_icmp .gt 5, 3) := by decide +kernel
theorem dX8_sortOf_26 : decode cX8_sortOf 26 = .ok (.iconst 2, 1) := by decide +kernel
theorem dX8_sortOf_27 : decode cX8_sortOf 27 = .ok (.ireturn, 1) := by decide +kernel
theorem dX8_sortOf_28 : decode cX8_sortOf 28 = .ok (.iload_n 0, 1) := by decide +kernel
theorem dX8_sortOf_29 : decode cX8_sortOf 29 = .ok (.bipush 59, 2) := by decide +kernel
theorem dX8_sortOf_31 : decode cX8_sortOf 31 = .ok (.if_icmp .ne 7, 3) := by decide +kernel
theorem dX8_sortOf_34 : decode cX8_sortOf 34 = .ok (.iconst 3, 1) := by decide +kernel
theorem dX8_sortOf_35 : decode cX8_sortOf 35 = .ok (.goto 4, 3) := by decide +kernel
theorem dX8_sortOf_38 : decode cX8_sortOf 38 = .ok (.iconst 4, 1) := by decide +kernel
theorem dX8_sortOf_39 : decode cX8_sortOf 39 = .ok (.ireturn, 1) := by decide +kernel
theorem dX8_valueAtHand_0 : decode cX8_valueAtHand 0 = .ok (.iconst 0, 1) := by decide +kernel
theorem dX8_valueAtHand_1 : decode cX8_valueAtHand 1 = .ok (.istore_n 1, 1) := by decide +kernel
theorem dX8_valueAtHand_2 : decode cX8_valueAtHand 2 = .ok (.aload_n 0, 1) := by decide +kernel
theorem dX8_valueAtHand_3 : decode cX8_valueAtHand 3 = .ok (.getfield 33, 3) := by decide +kernel
theorem dX8_valueAtHand_6 : decode cX8_valueAtHand 6 = .ok (.istore_n 2, 1) := by decide +kernel
theorem dX8_valueAtHand_7 : decode cX8_valueAtHand 7 = .ok (.iload_n 2, 1) := by decide +kernel
theorem dX8_valueAtHand_8 : decode cX8_valueAtHand 8 = .ok (.aload_n 0, 1) := by decide +kernel
theorem dX8_valueAtHand_9 : decode cX8_valueAtHand 9 = .ok (.getfield 23, 3) := by decide +kernel
theorem dX8_valueAtHand_12 : decode cX8_valueAtHand 12 = .ok (.if_icmp .ge 30, 3) := by decide +kernel
theorem dX8_valueAtHand_15 : decode cX8_valueAtHand 15 = .ok (.sipush 1000, 3) := by decide +kernel
theorem dX8_valueAtHand_18 : decode cX8_valueAtHand 18 = .ok (.bipush 10, 2) := by decide +kernel
theorem dX8_valueAtHand_20 : decode cX8_valueAtHand 20 = .ok (.iload_n 1, 1) := by decide +kernel
theorem dX8_valueAtHand_21 : decode cX8_valueAtHand 21 = .ok (.imul, 1) := by decide +kernel
theorem dX8_valueAtHand_22 : decode cX8_valueAtHand 22 = .ok (.aload_n 0, 1) := by decide +kernel
theorem dX8_valueAtHand_23 : decode cX8_valueAtHand 23 = .ok (.getfield 9, 3) := by decide +kernel
theorem dX8_valueAtHand_26 : decode cX8_valueAtHand 26 = .ok (.iload_n 2, 1) := by decide +kernel
theorem dX8_valueAtHand_27 : decode cX8_valueAtHand 27 = .ok (.baload, 1) := by decide +kernel
theorem dX8_valueAtHand_28 : decode cX8_valueAtHand 28 = .ok (.iadd, 1) := by decide +kernel
theorem dX8_valueAtHand_29 : decode cX8_valueAtHand 29 = .ok (.bipush 48, 2) := by decide +kernel
theorem dX8_valueAtHand_31 : decode cX8_valueAtHand 31 = .ok (.isub, 1) := by decide +kernel
theorem dX8_valueAtHand_32 : decode cX8_valueAtHand 32 = .ok (.invokestatic 104, 3) := by decide +kernel
theorem dX8_valueAtHand_35 : decode cX8_valueAtHand 35 = .ok (.istore_n 1, 1) := by decide +kernel
theorem dX8_valueAtHand_36 : decode cX8_valueAtHand 36 = .ok (.iinc 2 1, 3) := by decide +kernel
theorem dX8_valueAtHand_39 : decode cX8_valueAtHand 39 = .ok (.goto (-32), 3) := by decide +kernel
theorem dX8_valueAtHand_42 : decode cX8_valueAtHand 42 = .ok (.iload_n 1, 1) := by decide +kernel
theorem dX8_valueAtHand_43 : decode cX8_valueAtHand 43 = .ok (.ireturn, 1) := by decide +kernel
theorem dX9_init_0 : decode cX9_init 0 = .ok (.aload_n 0, 1) := by decide +kernel
theorem dX9_init_1 : decode cX9_init 1 = .ok (.invokespecial 1, 3) := by decide +kernel
theorem dX9_init_4 : decode cX9_init 4 = .ok (.bipush 6, 2) := by decide +kernel
theorem dX9_init_6 : decode cX9_init 6 = .ok (.anewarray 7, 3) := by decide +kernel
theorem dX9_init_9 : decode cX9_init 9 = .ok (.dup, 1) := by decide +kernel
theorem dX9_init_10 : decode cX9_init 10 = .ok (.iconst 0, 1) := by decide +kernel
theorem dX9_init_11 : decode cX9_init 11 = .ok (.new 7, 3) := by decide +kernel
theorem dX9_init_14 : decode cX9_init 14 = .ok (.dup, 1) := by decide +kernel
theorem dX9_init_15 : decode cX9_init 15 = .ok (.ldc 9, 2) := by decide +kernel
theorem dX9_init_17 : decode cX9_init 17 = .ok (.invokespecial 11, 3) := by decide +kernel
theorem dX9_init_20 : decode cX9_init 20 = .ok (.aastore, 1) := by decide +kernel
theorem dX9_init_21 : decode cX9_init 21 = .ok (.dup, 1) := by decide +kernel
theorem dX9_init_22 : decode cX9_init 22 = .ok (.iconst 1, 1) := by decide +kernel
theorem dX9_init_23 : decode cX9_init 23 = .ok (.new 14, 3) := by decide +kernel
theorem dX9_init_26 : decode cX9_init 26 = .ok (.dup, 1) := by decide +kernel
theorem dX9_init_27 : decode cX9_init 27 = .ok (.ldc 16, 2) := by decide +kernel
theorem dX9_init_29 : decode cX9_init 29 = .ok (.invokespecial 18, 3) := by decide +kernel
theorem dX9_init_32 : decode cX9_init 32 = .ok (.aastore, 1) := by decide +kernel
theorem dX9_init_33 : decode cX9_init 33 = .ok (.dup, 1) := by decide +kernel
theorem dX9_init_34 : decode cX9_init 34 = .ok (.iconst 2, 1) := by decide +kernel
theorem dX9_init_35 : decode cX9_init 35 = .ok (.new 19, 3) := by decide +kernel
theorem dX9_init_38 : decode cX9_init 38 = .ok (.dup, 1) := by decide +kernel
theorem dX9_init_39 : decode cX9_init 39 = .ok (.ldc 21, 2) := by decide +kernel
theorem dX9_init_41 : decode cX9_init 41 = .ok (.invokespecial 23, 3) := by decide +kernel
theorem dX9_init_44 : decode cX9_init 44 = .ok (.aastore, 1) := by decide +kernel
theorem dX9_init_45 : decode cX9_init 45 = .ok (.dup, 1) := by decide +kernel
theorem dX9_init_46 : decode cX9_init 46 = .ok (.iconst 3, 1) := by decide +kernel
theorem dX9_init_47 : decode cX9_init 47 = .ok (.new 24, 3) := by decide +kernel
theorem dX9_init_50 : decode cX9_init 50 = .ok (.dup, 1) := by decide +kernel
theorem dX9_init_51 : decode cX9_init 51 = .ok (.ldc 26, 2) := by decide +kernel
theorem dX9_init_53 : decode cX9_init 53 = .ok (.invokespecial 28, 3) := by decide +kernel
theorem dX9_init_56 : decode cX9_init 56 = .ok (.aastore, 1) := by decide +kernel
theorem dX9_init_57 : decode cX9_init 57 = .ok (.dup, 1) := by decide +kernel
theorem dX9_init_58 : decode cX9_init 58 = .ok (.iconst 4, 1) := by decide +kernel
theorem dX9_init_59 : decode cX9_init 59 = .ok (.new 29, 3) := by decide +kernel
theorem dX9_init_62 : decode cX9_init 62 = .ok (.dup, 1) := by decide +kernel
theorem dX9_init_63 : decode cX9_init 63 = .ok (.ldc 31, 2) := by decide +kernel
theorem dX9_init_65 : decode cX9_init 65 = .ok (.invokespecial 33, 3) := by decide +kernel
theorem dX9_init_68 : decode cX9_init 68 = .ok (.aastore, 1) := by decide +kernel
theorem dX9_init_69 : decode cX9_init 69 = .ok (.dup, 1) := by decide +kernel
theorem dX9_init_70 : decode cX9_init 70 = .ok (.iconst 5, 1) := by decide +kernel
theorem dX9_init_71 : decode cX9_init 71 = .ok (.new 34, 3) := by decide +kernel
theorem dX9_init_74 : decode cX9_init 74 = .ok (.dup, 1) := by decide +kernel
theorem dX9_init_75 : decode cX9_init 75 = .ok (.ldc 36, 2) := by decide +kernel
theorem dX9_init_77 : decode cX9_init 77 = .ok (.invokespecial 38, 3) := by decide +kernel
theorem dX9_init_80 : decode cX9_init 80 = .ok (.aastore, 1) := by decide +kernel
theorem dX9_init_81 : decode cX9_init 81 = .ok (.astore_n 1, 1) := by decide +kernel
theorem dX9_init_82 : decode cX9_init 82 = .ok (.aload_n 0, 1) := by decide +kernel
theorem dX9_init_83 : decode cX9_init 83 = .ok (.new 39, 3) := by decide +kernel
theorem dX9_init_86 : decode cX9_init 86 = .ok (.dup, 1) := by decide +kernel
theorem dX9_init_87 : decode cX9_init 87 = .ok (.aload_n 1, 1) := by decide +kernel
theorem dX9_init_88 : decode cX9_init 88 = .ok (.invokespecial 41, 3) := by decide +kernel
theorem dX9_init_91 : decode cX9_init 91 = .ok (.putfield 44, 3) := by decide +kernel
theorem dX9_init_94 : decode cX9_init 94 = .ok (.aload_n 0, 1) := by decide +kernel
theorem dX9_init_95 : decode cX9_init 95 = .ok (.new 39, 3) := by decide +kernel
theorem dX9_init_98 : decode cX9_init 98 = .ok (.dup, 1) := by decide +kernel
theorem dX9_init_99 : decode cX9_init 99 = .ok (.aload_n 1, 1) := by decide +kernel
theorem dX9_init_100 : decode cX9_init 100 = .ok (.invokespecial 41, 3) := by decide +kernel
theorem dX9_init_103 : decode cX9_init 103 = .ok (.putfield 50, 3) := by decide +kernel
theorem dX9_init_106 : decode cX9_init 106 = .ok (.aload_n 0, 1) := by decide +kernel
theorem dX9_init_107 : decode cX9_init 107 = .ok (.new 39, 3) := by decide +kernel
theorem dX9_init_110 : decode cX9_init 110 = .ok (.dup, 1) := by decide +kernel
theorem dX9_init_111 : decode cX9_init 111 = .ok (.aload_n 1, 1) := by decide +kernel
theorem dX9_init_112 : decode cX9_init 112 = .ok (.invokespecial 41, 3) := by decide +kernel
theorem dX9_init_115 : decode cX9_init 115 = .ok (.putfield 53, 3) := by decide +kernel
theorem dX9_init_118 : decode cX9_init 118 = .ok (.aload_n 0, 1) := by decide +kernel
theorem dX9_init_119 : decode cX9_init 119 = .ok (.iconst 0, 1) := by decide +kernel
theorem dX9_init_120 : decode cX9_init 120 = .ok (.putfield 56, 3) := by decide +kernel
theorem dX9_init_123 : decode cX9_init 123 = .ok (.aload_n 0, 1) := by decide +kernel
theorem dX9_init_124 : decode cX9_init 124 = .ok (.new 60, 3) := by decide +kernel
theorem dX9_init_127 : decode cX9_init 127 = .ok (.dup, 1) := by decide +kernel
theorem dX9_init_128 : decode cX9_init 128 = .ok (.aload_n 1, 1) := by decide +kernel
theorem dX9_init_129 : decode cX9_init 129 = .ok (.invokespecial 62, 3) := by decide +kernel
theorem dX9_init_132 : decode cX9_init 132 = .ok (.putfield 63, 3) := by decide +kernel
theorem dX9_init_135 : decode cX9_init 135 = .ok (.aload_n 0, 1) := by decide +kernel
theorem dX9_init_136 : decode cX9_init 136 = .ok (.iconst 4, 1) := by decide +kernel
theorem dX9_init_137 : decode cX9_init 137 = .ok (.anewarray 67, 3) := by decide +kernel
theorem dX9_init_140 : decode cX9_init 140 = .ok (.putfield 69, 3) := by decide +kernel
theorem dX9_init_143 : decode cX9_init 143 = .ok (.iconst 0, 1) := by decide +kernel
theorem dX9_init_144 : decode cX9_init 144 = .ok (.istore_n 2, 1) := by decide +kernel
theorem dX9_init_145 : decode cX9_init 145 = .ok (.iload_n 2, 1) := by decide +kernel
theorem dX9_init_146 : decode cX9_init 146 = .ok (.iconst 4, 1) := by decide +kernel
theorem dX9_init_147 : decode cX9_init 147 = .ok (.if_icmp .ge 22, 3) := by decide +kernel
theorem dX9_init_150 : decode cX9_init 150 = .ok (.aload_n 0, 1) := by decide +kernel
theorem dX9_init_151 : decode cX9_init 151 = .ok (.getfield 69, 3) := by decide +kernel
theorem dX9_init_154 : decode cX9_init 154 = .ok (.iload_n 2, 1) := by decide +kernel
theorem dX9_init_155 : decode cX9_init 155 = .ok (.new 67, 3) := by decide +kernel
theorem dX9_init_158 : decode cX9_init 158 = .ok (.dup, 1) := by decide +kernel
theorem dX9_init_159 : decode cX9_init 159 = .ok (.invokespecial 73, 3) := by decide +kernel
theorem dX9_init_162 : decode cX9_init 162 = .ok (.aastore, 1) := by decide +kernel
theorem dX9_init_163 : decode cX9_init 163 = .ok (.iinc 2 1, 3) := by decide +kernel
theorem dX9_init_166 : decode cX9_init 166 = .ok (.goto (-21), 3) := by decide +kernel
theorem dX9_init_169 : decode cX9_init 169 = .ok (.aload_n 0, 1) := by decide +kernel
theorem dX9_init_170 : decode cX9_init 170 = .ok (.bipush 7, 2) := by decide +kernel
theorem dX9_init_172 : decode cX9_init 172 = .ok (.newarray .int, 2) := by decide +kernel
theorem dX9_init_174 : decode cX9_init 174 = .ok (.putfield 74, 3) := by decide +kernel
theorem dX9_init_177 : decode cX9_init 177 = .ok (.return_, 1) := by decide +kernel
theorem dX9_person_0 : decode cX9_person 0 = .ok (.iload_n 1, 1) := by decide +kernel
theorem dX9_person_1 : decode cX9_person 1 = .ok (.invokestatic 78, 3) := by decide +kernel
theorem dX9_person_4 : decode cX9_person 4 = .ok (.ifCond .ne 10, 3) := by decide +kernel
theorem dX9_person_7 : decode cX9_person 7 = .ok (.aload_n 0, 1) := by decide +kernel
theorem dX9_person_8 : decode cX9_person 8 = .ok (.ldc 82, 2) := by decide +kernel
theorem dX9_person_10 : decode cX9_person 10 = .ok (.invokevirtual 83, 3) := by decide +kernel
theorem dX9_person_13 : decode cX9_person 13 = .ok (.ireturn, 1) := by decide +kernel
theorem dX9_person_14 : decode cX9_person 14 = .ok (.iload_n 2, 1) := by decide +kernel
theorem dX9_person_15 : decode cX9_person 15 = .ok (.tableswitch 122 0 2 #[25, 57, 89], 25) := by decide +kernel
theorem dX9_person_40 : decode cX9_person 40 = .ok (.iload_n 3, 1) := by decide +kernel
theorem dX9_person_41 : decode cX9_person 41 = .ok (.iconst 0, 1) := by decide +kernel
theorem dX9_person_42 : decode cX9_person 42 = .ok (.bipush 20, 2) := by decide +kernel
theorem dX9_person_44 : decode cX9_person 44 = .ok (.invokestatic 87, 3) := by decide +kernel
theorem dX9_person_47 : decode cX9_person 47 = .ok (.ifCond .eq 18, 3) := by decide +kernel
theorem dX9_person_50 : decode cX9_person 50 = .ok (.aload_n 0, 1) := by decide +kernel
theorem dX9_person_51 : decode cX9_person 51 = .ok (.getfield 44, 3) := by decide +kernel
theorem dX9_person_54 : decode cX9_person 54 = .ok (.getfield 91, 3) := by decide +kernel
theorem dX9_person_57 : decode cX9_person 57 = .ok (.iload_n 1, 1) := by decide +kernel
theorem dX9_person_58 : decode cX9_person 58 = .ok (.iload_n 3, 1) := by decide +kernel
theorem dX9_person_59 : decode cX9_person 59 = .ok (.invokestatic 94, 3) := by decide +kernel
theorem dX9_person_62 : decode cX9_person 62 = .ok (.goto 9, 3) := by decide +kernel
theorem dX9_person_65 : decode cX9_person 65 = .ok (.aload_n 0, 1) := by decide +kernel
theorem dX9_person_66 : decode cX9_person 66 = .ok (.ldc 82, 2) := by decide +kernel
theorem dX9_person_68 : decode cX9_person 68 = .ok (.invokevirtual 83, 3) := by decide +kernel
theorem dX9_person_71 : decode cX9_person 71 = .ok (.ireturn, 1) := by decide +kernel
theorem dX9_person_72 : decode cX9_person 72 = .ok (.iload_n 3, 1) := by decide +kernel
theorem dX9_person_73 : decode cX9_person 73 = .ok (.iconst 0, 1) := by decide +kernel
theorem dX9_person_74 : decode cX9_person 74 = .ok (.bipush 9, 2) := by decide +kernel
theorem dX9_person_76 : decode cX9_person 76 = .ok (.invokestatic 87, 3) := by decide +kernel
theorem dX9_person_79 : decode cX9_person 79 = .ok (.ifCond .eq 18, 3) := by decide +kernel
theorem dX9_person_82 : decode cX9_person 82 = .ok (.aload_n 0, 1) := by decide +kernel
theorem dX9_person_83 : decode cX9_person 83 = .ok (.getfield 44, 3) := by decide +kernel
theorem dX9_person_86 : decode cX9_person 86 = .ok (.getfield 98, 3) := by decide +kernel
theorem dX9_person_89 : decode cX9_person 89 = .ok (.iload_n 1, 1) := by decide +kernel
theorem dX9_person_90 : decode cX9_person 90 = .ok (.iload_n 3, 1) := by decide +kernel
theorem dX9_person_91 : decode cX9_person 91 = .ok (.invokestatic 94, 3) := by decide +kernel
theorem dX9_person_94 : decode cX9_person 94 = .ok (.goto 9, 3) := by decide +kernel
theorem dX9_person_97 : decode cX9_person 97 = .ok (.aload_n 0, 1) := by decide +kernel
theorem dX9_person_98 : decode cX9_person 98 = .ok (.ldc 82, 2) := by decide +kernel
theorem dX9_person_100 : decode cX9_person 100 = .ok (.invokevirtual 83, 3) := by decide +kernel
theorem dX9_person_103 : decode cX9_person 103 = .ok (.ireturn, 1) := by decide +kernel
theorem dX9_person_104 : decode cX9_person 104 = .ok (.iload_n 3, 1) := by decide +kernel
theorem dX9_person_105 : decode cX9_person 105 = .ok (.iconst 0, 1) := by decide +kernel
theorem dX9_person_106 : decode cX9_person 106 = .ok (.sipush 999, 3) := by decide +kernel
theorem dX9_person_109 : decode cX9_person 109 = .ok (.invokestatic 87, 3) := by decide +kernel
theorem dX9_person_112 : decode cX9_person 112 = .ok (.ifCond .eq 18, 3) := by decide +kernel
theorem dX9_person_115 : decode cX9_person 115 = .ok (.aload_n 0, 1) := by decide +kernel
theorem dX9_person_116 : decode cX9_person 116 = .ok (.getfield 44, 3) := by decide +kernel
theorem dX9_person_119 : decode cX9_person 119 = .ok (.getfield 101, 3) := by decide +kernel
theorem dX9_person_122 : decode cX9_person 122 = .ok (.iload_n 1, 1) := by decide +kernel
theorem dX9_person_123 : decode cX9_person 123 = .ok (.iload_n 3, 1) := by decide +kernel
theorem dX9_person_124 : decode cX9_person 124 = .ok (.invokestatic 94, 3) := by decide +kernel
theorem dX9_person_127 : decode cX9_person 127 = .ok (.goto 9, 3) := by decide +kernel
theorem dX9_person_130 : decode cX9_person 130 = .ok (.aload_n 0, 1) := by decide +kernel
theorem dX9_person_131 : decode cX9_person 131 = .ok (.ldc 82, 2) := by decide +kernel
theorem dX9_person_133 : decode cX9_person 133 = .ok (.invokevirtual 83, 3) := by decide +kernel
theorem dX9_person_136 : decode cX9_person 136 = .ok (.ireturn, 1) := by decide +kernel
theorem dX9_person_137 : decode cX9_person 137 = .ok (.aload_n 0, 1) := by decide +kernel
theorem dX9_person_138 : decode cX9_person 138 = .ok (.ldc 82, 2) := by decide +kernel
theorem dX9_person_140 : decode cX9_person 140 = .ok (.invokevirtual 83, 3) := by decide +kernel
theorem dX9_person_143 : decode cX9_person 143 = .ok (.ireturn, 1) := by decide +kernel
theorem dX9_personOf_0 : decode cX9_personOf 0 = .ok (.iload_n 1, 1) := by decide +kernel
theorem dX9_personOf_1 : decode cX9_personOf 1 = .ok (.invokestatic 78, 3) := by decide +kernel
theorem dX9_personOf_4 : decode cX9_personOf 4 = .ok (.ifCond .ne 10, 3) := by decide +kernel
theorem dX9_personOf_7 : decode cX9_personOf 7 = .ok (.aload_n 0, 1) := by decide +kernel
theorem dX9_personOf_8 : decode cX9_personOf 8 = .ok (.ldc 82, 2) := by decide +kernel
theorem dX9_personOf_10 : decode cX9_personOf 10 = .ok (.invokevirtual 83, 3) := by decide +kernel
theorem dX9_personOf_13 : decode cX9_personOf 13 = .ok (.ireturn, 1) := by decide +kernel
theorem dX9_personOf_14 : decode cX9_personOf 14 = .ok (.iload_n 2, 1) := by decide +kernel
theorem dX9_personOf_15 : decode cX9_personOf 15 = .ok (.tableswitch 94 0 4 #[33, 43, 53, 63, 72], 33) := by decide +kernel
theorem dX9_personOf_48 : decode cX9_personOf 48 = .ok (.aload_n 0, 1) := by decide +kernel
theorem dX9_personOf_49 : decode cX9_personOf 49 = .ok (.getfield 44, 3) := by decide +kernel
theorem dX9_personOf_52 : decode cX9_personOf 52 = .ok (.getfield 91, 3) := by decide +kernel
theorem dX9_personOf_55 : decode cX9_personOf 55 = .ok (.iload_n 1, 1) := by decide +kernel
theorem dX9_personOf_56 : decode cX9_personOf 56 = .ok (.iaload, 1) := by decide +kernel
theorem dX9_personOf_57 : decode cX9_personOf 57 = .ok (.ireturn, 1) := by decide +kernel
theorem dX9_personOf_58 : decode cX9_personOf 58 = .ok (.aload_n 0, 1) := by decide +kernel
theorem dX9_personOf_59 : decode cX9_personOf 59 = .ok (.getfield 44, 3) := by decide +kernel
theorem dX9_personOf_62 : decode cX9_personOf 62 = .ok (.getfield 98, 3) := by decide +kernel
theorem dX9_personOf_65 : decode cX9_personOf 65 = .ok (.iload_n 1, 1) := by decide +kernel
theorem dX9_personOf_66 : decode cX9_personOf 66 = .ok (.iaload, 1) := by decide +kernel
theorem dX9_personOf_67 : decode cX9_personOf 67 = .ok (.ireturn, 1) := by decide +kernel
theorem dX9_personOf_68 : decode cX9_personOf 68 = .ok (.aload_n 0, 1) := by decide +kernel
theorem dX9_personOf_69 : decode cX9_personOf 69 = .ok (.getfield 44, 3) := by decide +kernel
theorem dX9_personOf_72 : decode cX9_personOf 72 = .ok (.getfield 101, 3) := by decide +kernel
theorem dX9_personOf_75 : decode cX9_personOf 75 = .ok (.iload_n 1, 1) := by decide +kernel
theorem dX9_personOf_76 : decode cX9_personOf 76 = .ok (.iaload, 1) := by decide +kernel
theorem dX9_personOf_77 : decode cX9_personOf 77 = .ok (.ireturn, 1) := by decide +kernel
theorem dX9_personOf_78 : decode cX9_personOf 78 = .ok (.aload_n 0, 1) := by decide +kernel
theorem dX9_personOf_79 : decode cX9_personOf 79 = .ok (.getfield 44, 3) := by decide +kernel
theorem dX9_personOf_82 : decode cX9_personOf 82 = .ok (.iload_n 1, 1) := by decide +kernel
theorem dX9_personOf_83 : decode cX9_personOf 83 = .ok (.invokevirtual 104, 3) := by decide +kernel
theorem dX9_personOf_86 : decode cX9_personOf 86 = .ok (.ireturn, 1) := by decide +kernel
theorem dX9_personOf_87 : decode cX9_personOf 87 = .ok (.aload_n 0, 1) := by decide +kernel
theorem dX9_personOf_88 : decode cX9_personOf 88 = .ok (.getfield 44, 3) := by decide +kernel
theorem dX9_personOf_91 : decode cX9_personOf 91 = .ok (.iload_n 1, 1) := by decide +kernel
theorem dX9_personOf_92 : decode cX9_personOf 92 = .ok (.invokevirtual 104, 3) := by decide +kernel
theorem dX9_personOf_95 : decode cX9_personOf 95 = .ok (.aload_n 0, 1) := by decide +kernel
theorem dX9_personOf_96 : decode cX9_personOf 96 = .ok (.getfield 44, 3) := by decide +kernel
theorem dX9_personOf_99 : decode cX9_personOf 99 = .ok (.invokevirtual 107, 3) := by decide +kernel
theorem dX9_personOf_102 : decode cX9_personOf 102 = .ok (.iconst (-1), 1) := by decide +kernel
theorem dX9_personOf_103 : decode cX9_personOf 103 = .ok (.ixor, 1) := by decide +kernel
theorem dX9_personOf_104 : decode cX9_personOf 104 = .ok (.iand, 1) := by decide +kernel
theorem dX9_personOf_105 : decode cX9_personOf 105 = .ok (.invokestatic 111, 3) := by decide +kernel
theorem dX9_personOf_108 : decode cX9_personOf 108 = .ok (.ireturn, 1) := by decide +kernel
theorem dX9_personOf_109 : decode cX9_personOf 109 = .ok (.aload_n 0, 1) := by decide +kernel
theorem dX9_personOf_110 : decode cX9_personOf 110 = .ok (.ldc 82, 2) := by decide +kernel
theorem dX9_personOf_112 : decode cX9_personOf 112 = .ok (.invokevirtual 83, 3) := by decide +kernel
theorem dX9_personOf_115 : decode cX9_personOf 115 = .ok (.ireturn, 1) := by decide +kernel
theorem dX9_thing_0 : decode cX9_thing 0 = .ok (.iload_n 1, 1) := by decide +kernel
theorem dX9_thing_1 : decode cX9_thing 1 = .ok (.invokestatic 116, 3) := by decide +kernel
theorem dX9_thing_4 : decode cX9_thing 4 = .ok (.ifCond .eq 13, 3) := by decide +kernel
theorem dX9_thing_7 : decode cX9_thing 7 = .ok (.iload_n 2, 1) := by decide +kernel
theorem dX9_thing_8 : decode cX9_thing 8 = .ok (.iconst 0, 1) := by decide +kernel
theorem dX9_thing_9 : decode cX9_thing 9 = .ok (.bipush 99, 2) := by decide +kernel
theorem dX9_thing_11 : decode cX9_thing 11 = .ok (.invokestatic 87, 3) := by decide +kernel
theorem dX9_thing_14 : decode cX9_thing 14 = .ok (.ifCond .ne 10, 3) := by decide +kernel
theorem dX9_thing_17 : decode cX9_thing 17 = .ok (.aload_n 0, 1) := by decide +kernel
theorem dX9_thing_18 : decode cX9_thing 18 = .ok (.ldc 82, 2) := by decide +kernel
theorem dX9_thing_20 : decode cX9_thing 20 = .ok (.invokevirtual 83, 3) := by decide +kernel
theorem dX9_thing_23 : decode cX9_thing 23 = .ok (.ireturn, 1) := by decide +kernel
theorem dX9_thing_24 : decode cX9_thing 24 = .ok (.aload_n 0, 1) := by decide +kernel
theorem dX9_thing_25 : decode cX9_thing 25 = .ok (.getfield 44, 3) := by decide +kernel
theorem dX9_thing_28 : decode cX9_thing 28 = .ok (.invokevirtual 119, 3) := by decide +kernel
theorem dX9_thing_31 : decode cX9_thing 31 = .ok (.ifCond .eq 10, 3) := by decide +kernel
theorem dX9_thing_34 : decode cX9_thing 34 = .ok (.aload_n 0, 1) := by decide +kernel
theorem dX9_thing_35 : decode cX9_thing 35 = .ok (.ldc 123, 2) := by decide +kernel
theorem dX9_thing_37 : decode cX9_thing 37 = .ok (.invokevirtual 83, 3) := by decide +kernel
theorem dX9_thing_40 : decode cX9_thing 40 = .ok (.ireturn, 1) := by decide +kernel
theorem dX9_thing_41 : decode cX9_thing 41 = .ok (.aload_n 0, 1) := by decide +kernel
theorem dX9_thing_42 : decode cX9_thing 42 = .ok (.getfield 44, 3) := by decide +kernel
theorem dX9_thing_45 : decode cX9_thing 45 = .ok (.getfield 124, 3) := by decide +kernel
theorem dX9_thing_48 : decode cX9_thing 48 = .ok (.istore_n 3, 1) := by decide +kernel
theorem dX9_thing_49 : decode cX9_thing 49 = .ok (.aload_n 0, 1) := by decide +kernel
theorem dX9_thing_50 : decode cX9_thing 50 = .ok (.getfield 44, 3) := by decide +kernel
theorem dX9_thing_53 : decode cX9_thing 53 = .ok (.iload_n 1, 1) := by decide +kernel
theorem dX9_thing_54 : decode cX9_thing 54 = .ok (.iload_n 2, 1) := by decide +kernel
theorem dX9_thing_55 : decode cX9_thing 55 = .ok (.iconst (-1), 1) := by decide +kernel
theorem dX9_thing_56 : decode cX9_thing 56 = .ok (.iconst 0, 1) := by decide +kernel
theorem dX9_thing_57 : decode cX9_thing 57 = .ok (.invokevirtual 128, 3) := by decide +kernel
theorem dX9_thing_60 : decode cX9_thing 60 = .ok (.iload_n 3, 1) := by decide +kernel
theorem dX9_thing_61 : decode cX9_thing 61 = .ok (.ireturn, 1) := by decide +kernel
theorem dX9_of_0 : decode cX9_of 0 = .ok (.aload_n 0, 1) := by decide +kernel
theorem dX9_of_1 : decode cX9_of 1 = .ok (.iload_n 1, 1) := by decide +kernel
theorem dX9_of_2 : decode cX9_of 2 = .ok (.invokevirtual 132, 3) := by decide +kernel
theorem dX9_of_5 : decode cX9_of 5 = .ok (.ifCond .ne 10, 3) := by decide +kernel
theorem dX9_of_8 : decode cX9_of 8 = .ok (.aload_n 0, 1) := by decide +kernel
theorem dX9_of_9 : decode cX9_of 9 = .ok (.ldc 82, 2) := by decide +kernel
theorem dX9_of_11 : decode cX9_of 11 = .ok (.invokevirtual 83, 3) := by decide +kernel
theorem dX9_of_14 : decode cX9_of 14 = .ok (.ireturn, 1) := by decide +kernel
theorem dX9_of_15 : decode cX9_of 15 = .ok (.iload_n 2, 1) := by decide +kernel
theorem dX9_of_16 : decode cX9_of 16 = .ok (.tableswitch 122 0 5 #[40, 50, 60, 70, 80, 92], 40) := by decide +kernel
theorem dX9_of_56 : decode cX9_of 56 = .ok (.aload_n 0, 1) := by decide +kernel
theorem dX9_of_57 : decode cX9_of 57 = .ok (.getfield 44, 3) := by decide +kernel
theorem dX9_of_60 : decode cX9_of 60 = .ok (.getfield 135, 3) := by decide +kernel
theorem dX9_of_63 : decode cX9_of 63 = .ok (.iload_n 1, 1) := by decide +kernel
theorem dX9_of_64 : decode cX9_of 64 = .ok (.iaload, 1) := by decide +kernel
theorem dX9_of_65 : decode cX9_of 65 = .ok (.ireturn, 1) := by decide +kernel
theorem dX9_of_66 : decode cX9_of 66 = .ok (.aload_n 0, 1) := by decide +kernel
theorem dX9_of_67 : decode cX9_of 67 = .ok (.getfield 44, 3) := by decide +kernel
theorem dX9_of_70 : decode cX9_of 70 = .ok (.getfield 138, 3) := by decide +kernel
theorem dX9_of_73 : decode cX9_of 73 = .ok (.iload_n 1, 1) := by decide +kernel
theorem dX9_of_74 : decode cX9_of 74 = .ok (.iaload, 1) := by decide +kernel
theorem dX9_of_75 : decode cX9_of 75 = .ok (.ireturn, 1) := by decide +kernel
theorem dX9_of_76 : decode cX9_of 76 = .ok (.aload_n 0, 1) := by decide +kernel
theorem dX9_of_77 : decode cX9_of 77 = .ok (.getfield 44, 3) := by decide +kernel
theorem dX9_of_80 : decode cX9_of 80 = .ok (.getfield 141, 3) := by decide +kernel
theorem dX9_of_83 : decode cX9_of 83 = .ok (.iload_n 1, 1) := by decide +kernel
theorem dX9_of_84 : decode cX9_of 84 = .ok (.iaload, 1) := by decide +kernel
theorem dX9_of_85 : decode cX9_of 85 = .ok (.ireturn, 1) := by decide +kernel
theorem dX9_of_86 : decode cX9_of 86 = .ok (.aload_n 0, 1) := by decide +kernel
theorem dX9_of_87 : decode cX9_of 87 = .ok (.getfield 44, 3) := by decide +kernel
theorem dX9_of_90 : decode cX9_of 90 = .ok (.getfield 144, 3) := by decide +kernel
theorem dX9_of_93 : decode cX9_of 93 = .ok (.iload_n 1, 1) := by decide +kernel
theorem dX9_of_94 : decode cX9_of 94 = .ok (.iaload, 1) := by decide +kernel
theorem dX9_of_95 : decode cX9_of 95 = .ok (.ireturn, 1) := by decide +kernel
theorem dX9_of_96 : decode cX9_of 96 = .ok (.aload_n 0, 1) := by decide +kernel
theorem dX9_of_97 : decode cX9_of 97 = .ok (.getfield 44, 3) := by decide +kernel
theorem dX9_of_100 : decode cX9_of 100 = .ok (.iload_n 1, 1) := by decide +kernel
theorem dX9_of_101 : decode cX9_of 101 = .ok (.invokevirtual 147, 3) := by decide +kernel
theorem dX9_of_104 : decode cX9_of 104 = .ok (.invokevirtual 151, 3) := by decide +kernel
theorem dX9_of_107 : decode cX9_of 107 = .ok (.ireturn, 1) := by decide +kernel
theorem dX9_of_108 : decode cX9_of 108 = .ok (.aload_n 0, 1) := by decide +kernel
theorem dX9_of_109 : decode cX9_of 109 = .ok (.getfield 44, 3) := by decide +kernel
theorem dX9_of_112 : decode cX9_of 112 = .ok (.iload_n 1, 1) := by decide +kernel
theorem dX9_of_113 : decode cX9_of 113 = .ok (.invokevirtual 147, 3) := by decide +kernel
theorem dX9_of_116 : decode cX9_of 116 = .ok (.aload_n 0, 1) := by decide +kernel
theorem dX9_of_117 : decode cX9_of 117 = .ok (.getfield 44, 3) := by decide +kernel
theorem dX9_of_120 : decode cX9_of 120 = .ok (.getfield 138, 3) := by decide +kernel
theorem dX9_of_123 : decode cX9_of 123 = .ok (.iload_n 1, 1) := by decide +kernel
theorem dX9_of_124 : decode cX9_of 124 = .ok (.iaload, 1) := by decide +kernel
theorem dX9_of_125 : decode cX9_of 125 = .ok (.aload_n 0, 1) := by decide +kernel
theorem dX9_of_126 : decode cX9_of 126 = .ok (.getfield 44, 3) := by decide +kernel
theorem dX9_of_129 : decode cX9_of 129 = .ok (.getfield 144, 3) := by decide +kernel
theorem dX9_of_132 : decode cX9_of 132 = .ok (.iload_n 1, 1) := by decide +kernel
theorem dX9_of_133 : decode cX9_of 133 = .ok (.iaload, 1) := by decide +kernel
theorem dX9_of_134 : decode cX9_of 134 = .ok (.invokevirtual 154, 3) := by decide +kernel
theorem dX9_of_137 : decode cX9_of 137 = .ok (.ireturn, 1) := by decide +kernel
theorem dX9_of_138 : decode cX9_of 138 = .ok (.aload_n 0, 1) := by decide +kernel
theorem dX9_of_139 : decode cX9_of 139 = .ok (.ldc 82, 2) := by decide +kernel
theorem dX9_of_141 : decode cX9_of 141 = .ok (.invokevirtual 83, 3) := by decide +kernel
theorem dX9_of_144 : decode cX9_of 144 = .ok (.ireturn, 1) := by decide +kernel
theorem dX9_by_0 : decode cX9_by 0 = .ok (.aload_n 0, 1) := by decide +kernel
theorem dX9_by_1 : decode cX9_by 1 = .ok (.iload_n 1, 1) := by decide +kernel
theorem dX9_by_2 : decode cX9_by 2 = .ok (.invokevirtual 132, 3) := by decide +kernel
theorem dX9_by_5 : decode cX9_by 5 = .ok (.ifCond .eq 10, 3) := by decide +kernel
theorem dX9_by_8 : decode cX9_by 8 = .ok (.iload_n 2, 1) := by decide +kernel
theorem dX9_by_9 : decode cX9_by 9 = .ok (.invokestatic 78, 3) := by decide +kernel
theorem dX9_by_12 : decode cX9_by 12 = .ok (.ifCond .ne 10, 3) := by decide +kernel
theorem dX9_by_15 : decode cX9_by 15 = .ok (.aload_n 0, 1) := by decide +kernel
theorem dX9_by_16 : decode cX9_by 16 = .ok (.ldc 82, 2) := by decide +kernel
theorem dX9_by_18 : decode cX9_by 18 = .ok (.invokevirtual 83, 3) := by decide +kernel
theorem dX9_by_21 : decode cX9_by 21 = .ok (.ireturn, 1) := by decide +kernel
theorem dX9_by_22 : decode cX9_by 22 = .ok (.aload_n 0, 1) := by decide +kernel
theorem dX9_by_23 : decode cX9_by 23 = .ok (.getfield 44, 3) := by decide +kernel
theorem dX9_by_26 : decode cX9_by 26 = .ok (.iload_n 1, 1) := by decide +kernel
theorem dX9_by_27 : decode cX9_by 27 = .ok (.invokevirtual 147, 3) := by decide +kernel
theorem dX9_by_30 : decode cX9_by 30 = .ok (.astore 4, 2) := by decide +kernel
theorem dX9_by_32 : decode cX9_by 32 = .ok (.aload_n 0, 1) := by decide +kernel
theorem dX9_by_33 : decode cX9_by 33 = .ok (.getfield 44, 3) := by decide +kernel
theorem dX9_by_36 : decode cX9_by 36 = .ok (.getfield 91, 3) := by decide +kernel
theorem dX9_by_39 : decode cX9_by 39 = .ok (.iload_n 2, 1) := by decide +kernel
theorem dX9_by_40 : decode cX9_by 40 = .ok (.iaload, 1) := by decide +kernel
theorem dX9_by_41 : decode cX9_by 41 = .ok (.istore 5, 2) := by decide +kernel
theorem dX9_by_43 : decode cX9_by 43 = .ok (.iload_n 3, 1) := by decide +kernel
theorem dX9_by_44 : decode cX9_by 44 = .ok (.lookupswitch 80 #[(0, 28), (1, 54)], 28) := by decide +kernel
theorem dX9_by_72 : decode cX9_by 72 = .ok (.aload 4, 2) := by decide +kernel
theorem dX9_by_74 : decode cX9_by 74 = .ok (.iload 5, 2) := by decide +kernel
theorem dX9_by_76 : decode cX9_by 76 = .ok (.aload_n 0, 1) := by decide +kernel
theorem dX9_by_77 : decode cX9_by 77 = .ok (.getfield 44, 3) := by decide +kernel
theorem dX9_by_80 : decode cX9_by 80 = .ok (.getfield 138, 3) := by decide +kernel
theorem dX9_by_83 : decode cX9_by 83 = .ok (.iload_n 1, 1) := by decide +kernel
theorem dX9_by_84 : decode cX9_by 84 = .ok (.iaload, 1) := by decide +kernel
theorem dX9_by_85 : decode cX9_by 85 = .ok (.aload_n 0, 1) := by decide +kernel
theorem dX9_by_86 : decode cX9_by 86 = .ok (.getfield 44, 3) := by decide +kernel
theorem dX9_by_89 : decode cX9_by 89 = .ok (.getfield 144, 3) := by decide +kernel
theorem dX9_by_92 : decode cX9_by 92 = .ok (.iload_n 1, 1) := by decide +kernel
theorem dX9_by_93 : decode cX9_by 93 = .ok (.iaload, 1) := by decide +kernel
theorem dX9_by_94 : decode cX9_by 94 = .ok (.invokevirtual 158, 3) := by decide +kernel
theorem dX9_by_97 : decode cX9_by 97 = .ok (.ireturn, 1) := by decide +kernel
theorem dX9_by_98 : decode cX9_by 98 = .ok (.aload 4, 2) := by decide +kernel
theorem dX9_by_100 : decode cX9_by 100 = .ok (.iload 5, 2) := by decide +kernel
theorem dX9_by_102 : decode cX9_by 102 = .ok (.aload_n 0, 1) := by decide +kernel
theorem dX9_by_103 : decode cX9_by 103 = .ok (.getfield 44, 3) := by decide +kernel
theorem dX9_by_106 : decode cX9_by 106 = .ok (.getfield 138, 3) := by decide +kernel
theorem dX9_by_109 : decode cX9_by 109 = .ok (.iload_n 1, 1) := by decide +kernel
theorem dX9_by_110 : decode cX9_by 110 = .ok (.iaload, 1) := by decide +kernel
theorem dX9_by_111 : decode cX9_by 111 = .ok (.aload_n 0, 1) := by decide +kernel
theorem dX9_by_112 : decode cX9_by 112 = .ok (.getfield 44, 3) := by decide +kernel
theorem dX9_by_115 : decode cX9_by 115 = .ok (.getfield 144, 3) := by decide +kernel
theorem dX9_by_118 : decode cX9_by 118 = .ok (.iload_n 1, 1) := by decide +kernel
theorem dX9_by_119 : decode cX9_by 119 = .ok (.iaload, 1) := by decide +kernel
theorem dX9_by_120 : decode cX9_by 120 = .ok (.invokevirtual 162, 3) := by decide +kernel
theorem dX9_by_123 : decode cX9_by 123 = .ok (.ireturn, 1) := by decide +kernel
theorem dX9_by_124 : decode cX9_by 124 = .ok (.aload_n 0, 1) := by decide +kernel
theorem dX9_by_125 : decode cX9_by 125 = .ok (.ldc 82, 2) := by decide +kernel
theorem dX9_by_127 : decode cX9_by 127 = .ok (.invokevirtual 83, 3) := by decide +kernel
theorem dX9_by_130 : decode cX9_by 130 = .ok (.ireturn, 1) := by decide +kernel
theorem dX9_set_0 : decode cX9_set 0 = .ok (.aload_n 0, 1) := by decide +kernel
theorem dX9_set_1 : decode cX9_set 1 = .ok (.iload_n 1, 1) := by decide +kernel
theorem dX9_set_2 : decode cX9_set 2 = .ok (.invokevirtual 132, 3) := by decide +kernel
theorem dX9_set_5 : decode cX9_set 5 = .ok (.ifCond .ne 10, 3) := by decide +kernel
theorem dX9_set_8 : decode cX9_set 8 = .ok (.aload_n 0, 1) := by decide +kernel
theorem dX9_set_9 : decode cX9_set 9 = .ok (.ldc 82, 2) := by decide +kernel
theorem dX9_set_11 : decode cX9_set 11 = .ok (.invokevirtual 83, 3) := by decide +kernel
theorem dX9_set_14 : decode cX9_set 14 = .ok (.ireturn, 1) := by decide +kernel
theorem dX9_set_15 : decode cX9_set 15 = .ok (.iload_n 2, 1) := by decide +kernel
theorem dX9_set_16 : decode cX9_set 16 = .ok (.tableswitch 124 1 3 #[28, 60, 91], 28) := by decide +kernel
theorem dX9_set_44 : decode cX9_set 44 = .ok (.iload_n 3, 1) := by decide +kernel
theorem dX9_set_45 : decode cX9_set 45 = .ok (.iconst 0, 1) := by decide +kernel
theorem dX9_set_46 : decode cX9_set 46 = .ok (.bipush 100, 2) := by decide +kernel
theorem dX9_set_48 : decode cX9_set 48 = .ok (.invokestatic 87, 3) := by decide +kernel
theorem dX9_set_51 : decode cX9_set 51 = .ok (.ifCond .eq 18, 3) := by decide +kernel
theorem dX9_set_54 : decode cX9_set 54 = .ok (.aload_n 0, 1) := by decide +kernel
theorem dX9_set_55 : decode cX9_set 55 = .ok (.getfield 44, 3) := by decide +kernel
theorem dX9_set_58 : decode cX9_set 58 = .ok (.getfield 138, 3) := by decide +kernel
theorem dX9_set_61 : decode cX9_set 61 = .ok (.iload_n 1, 1) := by decide +kernel
theorem dX9_set_62 : decode cX9_set 62 = .ok (.iload_n 3, 1) := by decide +kernel
theorem dX9_set_63 : decode cX9_set 63 = .ok (.invokestatic 94, 3) := by decide +kernel
theorem dX9_set_66 : decode cX9_set 66 = .ok (.goto 9, 3) := by decide +kernel
theorem dX9_set_69 : decode cX9_set 69 = .ok (.aload_n 0, 1) := by decide +kernel
theorem dX9_set_70 : decode cX9_set 70 = .ok (.ldc 82, 2) := by decide +kernel
theorem dX9_set_72 : decode cX9_set 72 = .ok (.invokevirtual 83, 3) := by decide +kernel
theorem dX9_set_75 : decode cX9_set 75 = .ok (.ireturn, 1) := by decide +kernel
theorem dX9_set_76 : decode cX9_set 76 = .ok (.iload_n 3, 1) := by decide +kernel
theorem dX9_set_77 : decode cX9_set 77 = .ok (.iconst (-1), 1) := by decide +kernel
theorem dX9_set_78 : decode cX9_set 78 = .ok (.iconst 5, 1) := by decide +kernel
theorem dX9_set_79 : decode cX9_set 79 = .ok (.invokestatic 87, 3) := by decide +kernel
theorem dX9_set_82 : decode cX9_set 82 = .ok (.ifCond .eq 18, 3) := by decide +kernel
theorem dX9_set_85 : decode cX9_set 85 = .ok (.aload_n 0, 1) := by decide +kernel
theorem dX9_set_86 : decode cX9_set 86 = .ok (.getfield 44, 3) := by decide +kernel
theorem dX9_set_89 : decode cX9_set 89 = .ok (.getfield 141, 3) := by decide +kernel
theorem dX9_set_92 : decode cX9_set 92 = .ok (.iload_n 1, 1) := by decide +kernel
theorem dX9_set_93 : decode cX9_set 93 = .ok (.iload_n 3, 1) := by decide +kernel
theorem dX9_set_94 : decode cX9_set 94 = .ok (.invokestatic 94, 3) := by decide +kernel
theorem dX9_set_97 : decode cX9_set 97 = .ok (.goto 9, 3) := by decide +kernel
theorem dX9_set_100 : decode cX9_set 100 = .ok (.aload_n 0, 1) := by decide +kernel
theorem dX9_set_101 : decode cX9_set 101 = .ok (.ldc 82, 2) := by decide +kernel
theorem dX9_set_103 : decode cX9_set 103 = .ok (.invokevirtual 83, 3) := by decide +kernel
theorem dX9_set_106 : decode cX9_set 106 = .ok (.ireturn, 1) := by decide +kernel
theorem dX9_set_107 : decode cX9_set 107 = .ok (.iload_n 3, 1) := by decide +kernel
theorem dX9_set_108 : decode cX9_set 108 = .ok (.iconst 0, 1) := by decide +kernel
theorem dX9_set_109 : decode cX9_set 109 = .ok (.sipush 999, 3) := by decide +kernel
theorem dX9_set_112 : decode cX9_set 112 = .ok (.invokestatic 87, 3) := by decide +kernel
theorem dX9_set_115 : decode cX9_set 115 = .ok (.ifCond .eq 18, 3) := by decide +kernel
theorem dX9_set_118 : decode cX9_set 118 = .ok (.aload_n 0, 1) := by decide +kernel
theorem dX9_set_119 : decode cX9_set 119 = .ok (.getfield 44, 3) := by decide +kernel
theorem dX9_set_122 : decode cX9_set 122 = .ok (.getfield 144, 3) := by decide +kernel
theorem dX9_set_125 : decode cX9_set 125 = .ok (.iload_n 1, 1) := by decide +kernel
theorem dX9_set_126 : decode cX9_set 126 = .ok (.iload_n 3, 1) := by decide +kernel
theorem dX9_set_127 : decode cX9_set 127 = .ok (.invokestatic 94, 3) := by decide +kernel
theorem dX9_set_130 : decode cX9_set 130 = .ok (.goto 9, 3) := by decide +kernel
theorem dX9_set_133 : decode cX9_set 133 = .ok (.aload_n 0, 1) := by decide +kernel
theorem dX9_set_134 : decode cX9_set 134 = .ok (.ldc 82, 2) := by decide +kernel
theorem dX9_set_136 : decode cX9_set 136 = .ok (.invokevirtual 83, 3) := by decide +kernel
theorem dX9_set_139 : decode cX9_set 139 = .ok (.ireturn, 1) := by decide +kernel
theorem dX9_set_140 : decode cX9_set 140 = .ok (.aload_n 0, 1) := by decide +kernel
theorem dX9_set_141 : decode cX9_set 141 = .ok (.ldc 82, 2) := by decide +kernel
theorem dX9_set_143 : decode cX9_set 143 = .ok (.invokevirtual 83, 3) := by decide +kernel
theorem dX9_set_146 : decode cX9_set 146 = .ok (.ireturn, 1) := by decide +kernel
theorem dX9_turn_0 : decode cX9_turn 0 = .ok (.aload_n 0, 1) := by decide +kernel
theorem dX9_turn_1 : decode cX9_turn 1 = .ok (.iload_n 1, 1) := by decide +kernel
theorem dX9_turn_2 : decode cX9_turn 2 = .ok (.invokevirtual 132, 3) := by decide +kernel
theorem dX9_turn_5 : decode cX9_turn 5 = .ok (.ifCond .eq 10, 3) := by decide +kernel
theorem dX9_turn_8 : decode cX9_turn 8 = .ok (.iload_n 2, 1) := by decide +kernel
theorem dX9_turn_9 : decode cX9_turn 9 = .ok (.invokestatic 116, 3) := by decide +kernel
theorem dX9_turn_12 : decode cX9_turn 12 = .ok (.ifCond .ne 10, 3) := by decide +kernel
theorem dX9_turn_15 : decode cX9_turn 15 = .ok (.aload_n 0, 1) := by decide +kernel
theorem dX9_turn_16 : decode cX9_turn 16 = .ok (.ldc 82, 2) := by decide +kernel
theorem dX9_turn_18 : decode cX9_turn 18 = .ok (.invokevirtual 83, 3) := by decide +kernel
theorem dX9_turn_21 : decode cX9_turn 21 = .ok (.ireturn, 1) := by decide +kernel
theorem dX9_turn_22 : decode cX9_turn 22 = .ok (.aload_n 0, 1) := by decide +kernel
theorem dX9_turn_23 : decode cX9_turn 23 = .ok (.getfield 44, 3) := by decide +kernel
theorem dX9_turn_26 : decode cX9_turn 26 = .ok (.getfield 135, 3) := by decide +kernel
theorem dX9_turn_29 : decode cX9_turn 29 = .ok (.iload_n 1, 1) := by decide +kernel
theorem dX9_turn_30 : decode cX9_turn 30 = .ok (.iload_n 2, 1) := by decide +kernel
theorem dX9_turn_31 : decode cX9_turn 31 = .ok (.invokestatic 94, 3) := by decide +kernel
theorem dX9_turn_34 : decode cX9_turn 34 = .ok (.ireturn, 1) := by decide +kernel
theorem dX9_as_0 : decode cX9_as 0 = .ok (.aload_n 0, 1) := by decide +kernel
theorem dX9_as_1 : decode cX9_as 1 = .ok (.iload_n 1, 1) := by decide +kernel
theorem dX9_as_2 : decode cX9_as 2 = .ok (.invokevirtual 132, 3) := by decide +kernel
theorem dX9_as_5 : decode cX9_as 5 = .ok (.ifCond .eq 10, 3) := by decide +kernel
theorem dX9_as_8 : decode cX9_as 8 = .ok (.iload_n 2, 1) := by decide +kernel
theorem dX9_as_9 : decode cX9_as 9 = .ok (.invokestatic 116, 3) := by decide +kernel
theorem dX9_as_12 : decode cX9_as 12 = .ok (.ifCond .ne 10, 3) := by decide +kernel
theorem dX9_as_15 : decode cX9_as 15 = .ok (.aload_n 0, 1) := by decide +kernel
theorem dX9_as_16 : decode cX9_as 16 = .ok (.ldc 82, 2) := by decide +kernel
theorem dX9_as_18 : decode cX9_as 18 = .ok (.invokevirtual 83, 3) := by decide +kernel
theorem dX9_as_21 : decode cX9_as 21 = .ok (.ireturn, 1) := by decide +kernel
theorem dX9_as_22 : decode cX9_as 22 = .ok (.aload_n 0, 1) := by decide +kernel
theorem dX9_as_23 : decode cX9_as 23 = .ok (.getfield 44, 3) := by decide +kernel
theorem dX9_as_26 : decode cX9_as 26 = .ok (.getfield 135, 3) := by decide +kernel
theorem dX9_as_29 : decode cX9_as 29 = .ok (.iload_n 1, 1) := by decide +kernel
theorem dX9_as_30 : decode cX9_as 30 = .ok (.iaload, 1) := by decide +kernel
theorem dX9_as_31 : decode cX9_as 31 = .ok (.iload_n 2, 1) := by decide +kernel
theorem dX9_as_32 : decode cX9_as 32 = .ok (.invokestatic 165, 3) := by decide +kernel
theorem dX9_as_35 : decode cX9_as 35 = .ok (.ifCond .ne 10, 3) := by decide +kernel
theorem dX9_as_38 : decode cX9_as 38 = .ok (.aload_n 0, 1) := by decide +kernel
theorem dX9_as_39 : decode cX9_as 39 = .ok (.ldc 169, 2) := by decide +kernel
theorem dX9_as_41 : decode cX9_as 41 = .ok (.invokevirtual 83, 3) := by decide +kernel
theorem dX9_as_44 : decode cX9_as 44 = .ok (.ireturn, 1) := by decide +kernel
theorem dX9_as_45 : decode cX9_as 45 = .ok (.aload_n 0, 1) := by decide +kernel
theorem dX9_as_46 : decode cX9_as 46 = .ok (.getfield 44, 3) := by decide +kernel
theorem dX9_as_49 : decode cX9_as 49 = .ok (.getfield 138, 3) := by decide +kernel
theorem dX9_as_52 : decode cX9_as 52 = .ok (.iload_n 1, 1) := by decide +kernel
theorem dX9_as_53 : decode cX9_as 53 = .ok (.iaload, 1) := by decide +kernel
theorem dX9_as_54 : decode cX9_as 54 = .ok (.ireturn, 1) := by decide +kernel
theorem dX9_leave_0 : decode cX9_leave 0 = .ok (.aload_n 0, 1) := by decide +kernel
theorem dX9_leave_1 : decode cX9_leave 1 = .ok (.iload_n 1, 1) := by decide +kernel
theorem dX9_leave_2 : decode cX9_leave 2 = .ok (.invokevirtual 132, 3) := by decide +kernel
theorem dX9_leave_5 : decode cX9_leave 5 = .ok (.ifCond .ne 10, 3) := by decide +kernel
theorem dX9_leave_8 : decode cX9_leave 8 = .ok (.aload_n 0, 1) := by decide +kernel
theorem dX9_leave_9 : decode cX9_leave 9 = .ok (.ldc 82, 2) := by decide +kernel
theorem dX9_leave_11 : decode cX9_leave 11 = .ok (.invokevirtual 83, 3) := by decide +kernel
theorem dX9_leave_14 : decode cX9_leave 14 = .ok (.ireturn, 1) := by decide +kernel
theorem dX9_leave_15 : decode cX9_leave 15 = .ok (.aload_n 0, 1) := by decide +kernel
theorem dX9_leave_16 : decode cX9_leave 16 = .ok (.getfield 44, 3) := by decide +kernel
theorem dX9_leave_19 : decode cX9_leave 19 = .ok (.iload_n 1, 1) := by decide +kernel
theorem dX9_leave_20 : decode cX9_leave 20 = .ok (.invokevirtual 170, 3) := by decide +kernel
theorem dX9_leave_23 : decode cX9_leave 23 = .ok (.ifCond .ne 10, 3) := by decide +kernel
theorem dX9_leave_26 : decode cX9_leave 26 = .ok (.aload_n 0, 1) := by decide +kernel
theorem dX9_leave_27 : decode cX9_leave 27 = .ok (.ldc 173, 2) := by decide +kernel
theorem dX9_leave_29 : decode cX9_leave 29 = .ok (.invokevirtual 83, 3) := by decide +kernel
theorem dX9_leave_32 : decode cX9_leave 32 = .ok (.ireturn, 1) := by decide +kernel
theorem dX9_leave_33 : decode cX9_leave 33 = .ok (.aload_n 0, 1) := by decide +kernel
theorem dX9_leave_34 : decode cX9_leave 34 = .ok (.getfield 44, 3) := by decide +kernel
theorem dX9_leave_37 : decode cX9_leave 37 = .ok (.getfield 141, 3) := by decide +kernel
theorem dX9_leave_40 : decode cX9_leave 40 = .ok (.iload_n 1, 1) := by decide +kernel
theorem dX9_leave_41 : decode cX9_leave 41 = .ok (.iaload, 1) := by decide +kernel
theorem dX9_leave_42 : decode cX9_leave 42 = .ok (.istore_n 2, 1) := by decide +kernel
theorem dX9_leave_43 : decode cX9_leave 43 = .ok (.aload_n 0, 1) := by decide +kernel
theorem dX9_leave_44 : decode cX9_leave 44 = .ok (.getfield 44, 3) := by decide +kernel
theorem dX9_leave_47 : decode cX9_leave 47 = .ok (.iload_n 1, 1) := by decide +kernel
theorem dX9_leave_48 : decode cX9_leave 48 = .ok (.invokevirtual 174, 3) := by decide +kernel
theorem dX9_leave_51 : decode cX9_leave 51 = .ok (.iload_n 2, 1) := by decide +kernel
theorem dX9_leave_52 : decode cX9_leave 52 = .ok (.ireturn, 1) := by decide +kernel
theorem dX9_goesTo_0 : decode cX9_goesTo 0 = .ok (.aload_n 0, 1) := by decide +kernel
theorem dX9_goesTo_1 : decode cX9_goesTo 1 = .ok (.iload_n 1, 1) := by decide +kernel
theorem dX9_goesTo_2 : decode cX9_goesTo 2 = .ok (.invokevirtual 132, 3) := by decide +kernel
theorem dX9_goesTo_5 : decode cX9_goesTo 5 = .ok (.ifCond .ne 10, 3) := by decide +kernel
theorem dX9_goesTo_8 : decode cX9_goesTo 8 = .ok (.aload_n 0, 1) := by decide +kernel
theorem dX9_goesTo_9 : decode cX9_goesTo 9 = .ok (.ldc 82, 2) := by decide +kernel
theorem dX9_goesTo_11 : decode cX9_goesTo 11 = .ok (.invokevirtual 83, 3) := by decide +kernel
theorem dX9_goesTo_14 : decode cX9_goesTo 14 = .ok (.ireturn, 1) := by decide +kernel
theorem dX9_goesTo_15 : decode cX9_goesTo 15 = .ok (.aload_n 0, 1) := by decide +kernel
theorem dX9_goesTo_16 : decode cX9_goesTo 16 = .ok (.getfield 44, 3) := by decide +kernel
theorem dX9_goesTo_19 : decode cX9_goesTo 19 = .ok (.iload_n 1, 1) := by decide +kernel
theorem dX9_goesTo_20 : decode cX9_goesTo 20 = .ok (.invokevirtual 178, 3) := by decide +kernel
theorem dX9_goesTo_23 : decode cX9_goesTo 23 = .ok (.ifCond .ne 10, 3) := by decide +kernel
theorem dX9_goesTo_26 : decode cX9_goesTo 26 = .ok (.aload_n 0, 1) := by decide +kernel
theorem dX9_goesTo_27 : decode cX9_goesTo 27 = .ok (.ldc 173, 2) := by decide +kernel
theorem dX9_goesTo_29 : decode cX9_goesTo 29 = .ok (.invokevirtual 83, 3) := by decide +kernel
theorem dX9_goesTo_32 : decode cX9_goesTo 32 = .ok (.ireturn, 1) := by decide +kernel
theorem dX9_goesTo_33 : decode cX9_goesTo 33 = .ok (.aload_n 0, 1) := by decide +kernel
theorem dX9_goesTo_34 : decode cX9_goesTo 34 = .ok (.getfield 44, 3) := by decide +kernel
theorem dX9_goesTo_37 : decode cX9_goesTo 37 = .ok (.invokevirtual 181, 3) := by decide +kernel
theorem dX9_goesTo_40 : decode cX9_goesTo 40 = .ok (.aload_n 0, 1) := by decide +kernel
theorem dX9_goesTo_41 : decode cX9_goesTo 41 = .ok (.getfield 44, 3) := by decide +kernel
theorem dX9_goesTo_44 : decode cX9_goesTo 44 = .ok (.iload_n 1, 1) := by decide +kernel
theorem dX9_goesTo_45 : decode cX9_goesTo 45 = .ok (.invokevirtual 184, 3) := by decide +kernel
theorem dX9_goesTo_48 : decode cX9_goesTo 48 = .ok (.istore_n 2, 1) := by decide +kernel
theorem dX9_goesTo_49 : decode cX9_goesTo 49 = .ok (.iload_n 2, 1) := by decide +kernel
theorem dX9_goesTo_50 : decode cX9_goesTo 50 = .ok (.iconst (-1), 1) := by decide +kernel
theorem dX9_goesTo_51 : decode cX9_goesTo 51 = .ok (.if_icmp .ne 12, 3) := by decide +kernel
theorem dX9_goesTo_54 : decode cX9_goesTo 54 = .ok (.aload_n 0, 1) := by decide +kernel
theorem dX9_goesTo_55 : decode cX9_goesTo 55 = .ok (.ldc 187, 2) := by decide +kernel
theorem dX9_goesTo_57 : decode cX9_goesTo 57 = .ok (.invokevirtual 83, 3) := by decide +kernel
theorem dX9_goesTo_60 : decode cX9_goesTo 60 = .ok (.goto 4, 3) := by decide +kernel
theorem dX9_goesTo_63 : decode cX9_goesTo 63 = .ok (.iload_n 2, 1) := by decide +kernel
theorem dX9_goesTo_64 : decode cX9_goesTo 64 = .ok (.ireturn, 1) := by decide +kernel
end
section
theorem dX9_years_0 : decode cX9_years 0 = .ok (.iload_n 1, 1) := by decide +kernel
theorem dX9_years_1 : decode cX9_years 1 = .ok (.iconst 1, 1) := by decide +kernel
theorem dX9_years_2 : decode cX9_years 2 = .ok (.bipush 60, 2) := by decide +kernel
theorem dX9_years_4 : decode cX9_years 4 = .ok (.invokestatic 87, 3) := by decide +kernel
theorem dX9_years_7 : decode cX9_years 7 = .ok (.ifCond .ne 10, 3) := by decide +kernel
theorem dX9_years_10 : decode cX9_years 10 = .ok (.aload_n 0, 1) := by decide +kernel
theorem dX9_years_11 : decode cX9_years 11 = .ok (.ldc 82, 2) := by decide +kernel
theorem dX9_years_13 : decode cX9_years 13 = .ok (.invokevirtual 83, 3) := by decide +kernel
theorem dX9_years_16 : decode cX9_years 16 = .ok (.ireturn, 1) := by decide +kernel
theorem dX9_years_17 : decode cX9_years 17 = .ok (.aload_n 0, 1) := by decide +kernel
theorem dX9_years_18 : decode cX9_years 18 = .ok (.getfield 44, 3) := by decide +kernel
theorem dX9_years_21 : decode cX9_years 21 = .ok (.getfield 188, 3) := by decide +kernel
theorem dX9_years_24 : decode cX9_years 24 = .ok (.iload_n 1, 1) := by decide +kernel
theorem dX9_years_25 : decode cX9_years 25 = .ok (.iadd, 1) := by decide +kernel
theorem dX9_years_26 : decode cX9_years 26 = .ok (.sipush 9999, 3) := by decide +kernel
theorem dX9_years_29 : decode cX9_years 29 = .ok (.if_icmp .le 10, 3) := by decide +kernel
theorem dX9_years_32 : decode cX9_years 32 = .ok (.aload_n 0, 1) := by decide +kernel
theorem dX9_years_33 : decode cX9_years 33 = .ok (.ldc 173, 2) := by decide +kernel
theorem dX9_years_35 : decode cX9_years 35 = .ok (.invokevirtual 83, 3) := by decide +kernel
theorem dX9_years_38 : decode cX9_years 38 = .ok (.ireturn, 1) := by decide +kernel
theorem dX9_years_39 : decode cX9_years 39 = .ok (.aload_n 0, 1) := by decide +kernel
theorem dX9_years_40 : decode cX9_years 40 = .ok (.getfield 44, 3) := by decide +kernel
theorem dX9_years_43 : decode cX9_years 43 = .ok (.iload_n 1, 1) := by decide +kernel
theorem dX9_years_44 : decode cX9_years 44 = .ok (.invokevirtual 191, 3) := by decide +kernel
theorem dX9_years_47 : decode cX9_years 47 = .ok (.aload_n 0, 1) := by decide +kernel
theorem dX9_years_48 : decode cX9_years 48 = .ok (.getfield 44, 3) := by decide +kernel
theorem dX9_years_51 : decode cX9_years 51 = .ok (.invokevirtual 107, 3) := by decide +kernel
theorem dX9_years_54 : decode cX9_years 54 = .ok (.ireturn, 1) := by decide +kernel
theorem dX9_now_0 : decode cX9_now 0 = .ok (.iload_n 1, 1) := by decide +kernel
theorem dX9_now_1 : decode cX9_now 1 = .ok (.tableswitch 76 0 4 #[35, 43, 51, 60, 68], 35) := by decide +kernel
theorem dX9_now_36 : decode cX9_now 36 = .ok (.aload_n 0, 1) := by decide +kernel
theorem dX9_now_37 : decode cX9_now 37 = .ok (.getfield 44, 3) := by decide +kernel
theorem dX9_now_40 : decode cX9_now 40 = .ok (.getfield 188, 3) := by decide +kernel
theorem dX9_now_43 : decode cX9_now 43 = .ok (.ireturn, 1) := by decide +kernel
theorem dX9_now_44 : decode cX9_now 44 = .ok (.aload_n 0, 1) := by decide +kernel
theorem dX9_now_45 : decode cX9_now 45 = .ok (.getfield 44, 3) := by decide +kernel
theorem dX9_now_48 : decode cX9_now 48 = .ok (.invokevirtual 107, 3) := by decide +kernel
theorem dX9_now_51 : decode cX9_now 51 = .ok (.ireturn, 1) := by decide +kernel
theorem dX9_now_52 : decode cX9_now 52 = .ok (.aload_n 0, 1) := by decide +kernel
theorem dX9_now_53 : decode cX9_now 53 = .ok (.getfield 44, 3) := by decide +kernel
theorem dX9_now_56 : decode cX9_now 56 = .ok (.iconst (-1), 1) := by decide +kernel
theorem dX9_now_57 : decode cX9_now 57 = .ok (.invokevirtual 104, 3) := by decide +kernel
theorem dX9_now_60 : decode cX9_now 60 = .ok (.ireturn, 1) := by decide +kernel
theorem dX9_now_61 : decode cX9_now 61 = .ok (.aload_n 0, 1) := by decide +kernel
theorem dX9_now_62 : decode cX9_now 62 = .ok (.getfield 44, 3) := by decide +kernel
theorem dX9_now_65 : decode cX9_now 65 = .ok (.invokevirtual 194, 3) := by decide +kernel
theorem dX9_now_68 : decode cX9_now 68 = .ok (.ireturn, 1) := by decide +kernel
theorem dX9_now_69 : decode cX9_now 69 = .ok (.aload_n 0, 1) := by decide +kernel
theorem dX9_now_70 : decode cX9_now 70 = .ok (.getfield 44, 3) := by decide +kernel
theorem dX9_now_73 : decode cX9_now 73 = .ok (.invokevirtual 197, 3) := by decide +kernel
theorem dX9_now_76 : decode cX9_now 76 = .ok (.ireturn, 1) := by decide +kernel
theorem dX9_now_77 : decode cX9_now 77 = .ok (.aload_n 0, 1) := by decide +kernel
theorem dX9_now_78 : decode cX9_now 78 = .ok (.ldc 82, 2) := by decide +kernel
theorem dX9_now_80 : decode cX9_now 80 = .ok (.invokevirtual 83, 3) := by decide +kernel
theorem dX9_now_83 : decode cX9_now 83 = .ok (.ireturn, 1) := by decide +kernel
theorem dX9_on_0 : decode cX9_on 0 = .ok (.aload_n 0, 1) := by decide +kernel
theorem dX9_on_1 : decode cX9_on 1 = .ok (.iload_n 1, 1) := by decide +kernel
theorem dX9_on_2 : decode cX9_on 2 = .ok (.invokevirtual 132, 3) := by decide +kernel
theorem dX9_on_5 : decode cX9_on 5 = .ok (.ifCond .eq 22, 3) := by decide +kernel
theorem dX9_on_8 : decode cX9_on 8 = .ok (.iload_n 2, 1) := by decide +kernel
theorem dX9_on_9 : decode cX9_on 9 = .ok (.iconst 0, 1) := by decide +kernel
theorem dX9_on_10 : decode cX9_on 10 = .ok (.bipush 100, 2) := by decide +kernel
theorem dX9_on_12 : decode cX9_on 12 = .ok (.invokestatic 87, 3) := by decide +kernel
theorem dX9_on_15 : decode cX9_on 15 = .ok (.ifCond .eq 12, 3) := by decide +kernel
theorem dX9_on_18 : decode cX9_on 18 = .ok (.iload_n 3, 1) := by decide +kernel
theorem dX9_on_19 : decode cX9_on 19 = .ok (.iconst 0, 1) := by decide +kernel
theorem dX9_on_20 : decode cX9_on 20 = .ok (.iconst 2, 1) := by decide +kernel
theorem dX9_on_21 : decode cX9_on 21 = .ok (.invokestatic 87, 3) := by decide +kernel
theorem dX9_on_24 : decode cX9_on 24 = .ok (.ifCond .ne 10, 3) := by decide +kernel
theorem dX9_on_27 : decode cX9_on 27 = .ok (.aload_n 0, 1) := by decide +kernel
theorem dX9_on_28 : decode cX9_on 28 = .ok (.ldc 82, 2) := by decide +kernel
theorem dX9_on_30 : decode cX9_on 30 = .ok (.invokevirtual 83, 3) := by decide +kernel
theorem dX9_on_33 : decode cX9_on 33 = .ok (.ireturn, 1) := by decide +kernel
theorem dX9_on_34 : decode cX9_on 34 = .ok (.aload_n 0, 1) := by decide +kernel
theorem dX9_on_35 : decode cX9_on 35 = .ok (.getfield 50, 3) := by decide +kernel
theorem dX9_on_38 : decode cX9_on 38 = .ok (.aload_n 0, 1) := by decide +kernel
theorem dX9_on_39 : decode cX9_on 39 = .ok (.getfield 44, 3) := by decide +kernel
theorem dX9_on_42 : decode cX9_on 42 = .ok (.invokevirtual 200, 3) := by decide +kernel
theorem dX9_on_45 : decode cX9_on 45 = .ok (.aload_n 0, 1) := by decide +kernel
theorem dX9_on_46 : decode cX9_on 46 = .ok (.getfield 50, 3) := by decide +kernel
theorem dX9_on_49 : decode cX9_on 49 = .ok (.iload_n 2, 1) := by decide +kernel
theorem dX9_on_50 : decode cX9_on 50 = .ok (.invokevirtual 191, 3) := by decide +kernel
theorem dX9_on_53 : decode cX9_on 53 = .ok (.iload_n 3, 1) := by decide +kernel
theorem dX9_on_54 : decode cX9_on 54 = .ok (.lookupswitch 46 #[(0, 26), (1, 36)], 26) := by decide +kernel
theorem dX9_on_80 : decode cX9_on 80 = .ok (.aload_n 0, 1) := by decide +kernel
theorem dX9_on_81 : decode cX9_on 81 = .ok (.getfield 50, 3) := by decide +kernel
theorem dX9_on_84 : decode cX9_on 84 = .ok (.getfield 138, 3) := by decide +kernel
theorem dX9_on_87 : decode cX9_on 87 = .ok (.iload_n 1, 1) := by decide +kernel
theorem dX9_on_88 : decode cX9_on 88 = .ok (.iaload, 1) := by decide +kernel
theorem dX9_on_89 : decode cX9_on 89 = .ok (.ireturn, 1) := by decide +kernel
theorem dX9_on_90 : decode cX9_on 90 = .ok (.aload_n 0, 1) := by decide +kernel
theorem dX9_on_91 : decode cX9_on 91 = .ok (.getfield 50, 3) := by decide +kernel
theorem dX9_on_94 : decode cX9_on 94 = .ok (.getfield 141, 3) := by decide +kernel
theorem dX9_on_97 : decode cX9_on 97 = .ok (.iload_n 1, 1) := by decide +kernel
theorem dX9_on_98 : decode cX9_on 98 = .ok (.iaload, 1) := by decide +kernel
theorem dX9_on_99 : decode cX9_on 99 = .ok (.ireturn, 1) := by decide +kernel
theorem dX9_on_100 : decode cX9_on 100 = .ok (.aload_n 0, 1) := by decide +kernel
theorem dX9_on_101 : decode cX9_on 101 = .ok (.getfield 50, 3) := by decide +kernel
theorem dX9_on_104 : decode cX9_on 104 = .ok (.getfield 144, 3) := by decide +kernel
theorem dX9_on_107 : decode cX9_on 107 = .ok (.iload_n 1, 1) := by decide +kernel
theorem dX9_on_108 : decode cX9_on 108 = .ok (.iaload, 1) := by decide +kernel
theorem dX9_on_109 : decode cX9_on 109 = .ok (.ireturn, 1) := by decide +kernel
theorem dX9_then_0 : decode cX9_then 0 = .ok (.iload_n 1, 1) := by decide +kernel
theorem dX9_then_1 : decode cX9_then 1 = .ok (.invokestatic 78, 3) := by decide +kernel
theorem dX9_then_4 : decode cX9_then 4 = .ok (.ifCond .eq 22, 3) := by decide +kernel
theorem dX9_then_7 : decode cX9_then 7 = .ok (.iload_n 2, 1) := by decide +kernel
theorem dX9_then_8 : decode cX9_then 8 = .ok (.iconst 0, 1) := by decide +kernel
theorem dX9_then_9 : decode cX9_then 9 = .ok (.bipush 100, 2) := by decide +kernel
theorem dX9_then_11 : decode cX9_then 11 = .ok (.invokestatic 87, 3) := by decide +kernel
theorem dX9_then_14 : decode cX9_then 14 = .ok (.ifCond .eq 12, 3) := by decide +kernel
theorem dX9_then_17 : decode cX9_then 17 = .ok (.iload_n 3, 1) := by decide +kernel
theorem dX9_then_18 : decode cX9_then 18 = .ok (.iconst 0, 1) := by decide +kernel
theorem dX9_then_19 : decode cX9_then 19 = .ok (.iconst 1, 1) := by decide +kernel
theorem dX9_then_20 : decode cX9_then 20 = .ok (.invokestatic 87, 3) := by decide +kernel
theorem dX9_then_23 : decode cX9_then 23 = .ok (.ifCond .ne 10, 3) := by decide +kernel
theorem dX9_then_26 : decode cX9_then 26 = .ok (.aload_n 0, 1) := by decide +kernel
theorem dX9_then_27 : decode cX9_then 27 = .ok (.ldc 82, 2) := by decide +kernel
theorem dX9_then_29 : decode cX9_then 29 = .ok (.invokevirtual 83, 3) := by decide +kernel
theorem dX9_then_32 : decode cX9_then 32 = .ok (.ireturn, 1) := by decide +kernel
theorem dX9_then_33 : decode cX9_then 33 = .ok (.aload_n 0, 1) := by decide +kernel
theorem dX9_then_34 : decode cX9_then 34 = .ok (.getfield 50, 3) := by decide +kernel
theorem dX9_then_37 : decode cX9_then 37 = .ok (.aload_n 0, 1) := by decide +kernel
theorem dX9_then_38 : decode cX9_then 38 = .ok (.getfield 44, 3) := by decide +kernel
theorem dX9_then_41 : decode cX9_then 41 = .ok (.invokevirtual 200, 3) := by decide +kernel
theorem dX9_then_44 : decode cX9_then 44 = .ok (.aload_n 0, 1) := by decide +kernel
theorem dX9_then_45 : decode cX9_then 45 = .ok (.getfield 50, 3) := by decide +kernel
theorem dX9_then_48 : decode cX9_then 48 = .ok (.iload_n 2, 1) := by decide +kernel
theorem dX9_then_49 : decode cX9_then 49 = .ok (.invokevirtual 191, 3) := by decide +kernel
theorem dX9_then_52 : decode cX9_then 52 = .ok (.iload_n 3, 1) := by decide +kernel
theorem dX9_then_53 : decode cX9_then 53 = .ok (.ifCond .ne 15, 3) := by decide +kernel
theorem dX9_then_56 : decode cX9_then 56 = .ok (.aload_n 0, 1) := by decide +kernel
theorem dX9_then_57 : decode cX9_then 57 = .ok (.getfield 50, 3) := by decide +kernel
theorem dX9_then_60 : decode cX9_then 60 = .ok (.getfield 98, 3) := by decide +kernel
theorem dX9_then_63 : decode cX9_then 63 = .ok (.iload_n 1, 1) := by decide +kernel
theorem dX9_then_64 : decode cX9_then 64 = .ok (.iaload, 1) := by decide +kernel
theorem dX9_then_65 : decode cX9_then 65 = .ok (.goto 12, 3) := by decide +kernel
theorem dX9_then_68 : decode cX9_then 68 = .ok (.aload_n 0, 1) := by decide +kernel
theorem dX9_then_69 : decode cX9_then 69 = .ok (.getfield 50, 3) := by decide +kernel
theorem dX9_then_72 : decode cX9_then 72 = .ok (.getfield 101, 3) := by decide +kernel
theorem dX9_then_75 : decode cX9_then 75 = .ok (.iload_n 1, 1) := by decide +kernel
theorem dX9_then_76 : decode cX9_then 76 = .ok (.iaload, 1) := by decide +kernel
theorem dX9_then_77 : decode cX9_then 77 = .ok (.ireturn, 1) := by decide +kernel
theorem dX9_finished_0 : decode cX9_finished 0 = .ok (.aload_n 0, 1) := by decide +kernel
theorem dX9_finished_1 : decode cX9_finished 1 = .ok (.iload_n 1, 1) := by decide +kernel
theorem dX9_finished_2 : decode cX9_finished 2 = .ok (.invokevirtual 132, 3) := by decide +kernel
theorem dX9_finished_5 : decode cX9_finished 5 = .ok (.ifCond .ne 10, 3) := by decide +kernel
theorem dX9_finished_8 : decode cX9_finished 8 = .ok (.aload_n 0, 1) := by decide +kernel
theorem dX9_finished_9 : decode cX9_finished 9 = .ok (.ldc 82, 2) := by decide +kernel
theorem dX9_finished_11 : decode cX9_finished 11 = .ok (.invokevirtual 83, 3) := by decide +kernel
theorem dX9_finished_14 : decode cX9_finished 14 = .ok (.ireturn, 1) := by decide +kernel
theorem dX9_finished_15 : decode cX9_finished 15 = .ok (.aload_n 0, 1) := by decide +kernel
theorem dX9_finished_16 : decode cX9_finished 16 = .ok (.getfield 50, 3) := by decide +kernel
theorem dX9_finished_19 : decode cX9_finished 19 = .ok (.aload_n 0, 1) := by decide +kernel
theorem dX9_finished_20 : decode cX9_finished 20 = .ok (.getfield 44, 3) := by decide +kernel
theorem dX9_finished_23 : decode cX9_finished 23 = .ok (.invokevirtual 200, 3) := by decide +kernel
theorem dX9_finished_26 : decode cX9_finished 26 = .ok (.aload_n 0, 1) := by decide +kernel
theorem dX9_finished_27 : decode cX9_finished 27 = .ok (.iload_n 1, 1) := by decide +kernel
theorem dX9_finished_28 : decode cX9_finished 28 = .ok (.sipush 200, 3) := by decide +kernel
theorem dX9_finished_31 : decode cX9_finished 31 = .ok (.invokevirtual 204, 3) := by decide +kernel
theorem dX9_finished_34 : decode cX9_finished 34 = .ok (.istore_n 2, 1) := by decide +kernel
theorem dX9_finished_35 : decode cX9_finished 35 = .ok (.iload_n 2, 1) := by decide +kernel
theorem dX9_finished_36 : decode cX9_finished 36 = .ok (.ifCond .ge 12, 3) := by decide +kernel
theorem dX9_finished_39 : decode cX9_finished 39 = .ok (.aload_n 0, 1) := by decide +kernel
theorem dX9_finished_40 : decode cX9_finished 40 = .ok (.ldc 187, 2) := by decide +kernel
theorem dX9_finished_42 : decode cX9_finished 42 = .ok (.invokevirtual 83, 3) := by decide +kernel
theorem dX9_finished_45 : decode cX9_finished 45 = .ok (.goto 4, 3) := by decide +kernel
theorem dX9_finished_48 : decode cX9_finished 48 = .ok (.iload_n 2, 1) := by decide +kernel
theorem dX9_finished_49 : decode cX9_finished 49 = .ok (.ireturn, 1) := by decide +kernel
theorem dX9_comes_0 : decode cX9_comes 0 = .ok (.aload_n 0, 1) := by decide +kernel
theorem dX9_comes_1 : decode cX9_comes 1 = .ok (.iload_n 1, 1) := by decide +kernel
theorem dX9_comes_2 : decode cX9_comes 2 = .ok (.invokevirtual 132, 3) := by decide +kernel
theorem dX9_comes_5 : decode cX9_comes 5 = .ok (.ifCond .eq 10, 3) := by decide +kernel
theorem dX9_comes_8 : decode cX9_comes 8 = .ok (.iload_n 2, 1) := by decide +kernel
theorem dX9_comes_9 : decode cX9_comes 9 = .ok (.invokestatic 78, 3) := by decide +kernel
theorem dX9_comes_12 : decode cX9_comes 12 = .ok (.ifCond .ne 10, 3) := by decide +kernel
theorem dX9_comes_15 : decode cX9_comes 15 = .ok (.aload_n 0, 1) := by decide +kernel
theorem dX9_comes_16 : decode cX9_comes 16 = .ok (.ldc 82, 2) := by decide +kernel
theorem dX9_comes_18 : decode cX9_comes 18 = .ok (.invokevirtual 83, 3) := by decide +kernel
theorem dX9_comes_21 : decode cX9_comes 21 = .ok (.ireturn, 1) := by decide +kernel
theorem dX9_comes_22 : decode cX9_comes 22 = .ok (.aload_n 0, 1) := by decide +kernel
theorem dX9_comes_23 : decode cX9_comes 23 = .ok (.getfield 50, 3) := by decide +kernel
theorem dX9_comes_26 : decode cX9_comes 26 = .ok (.aload_n 0, 1) := by decide +kernel
theorem dX9_comes_27 : decode cX9_comes 27 = .ok (.getfield 44, 3) := by decide +kernel
theorem dX9_comes_30 : decode cX9_comes 30 = .ok (.invokevirtual 200, 3) := by decide +kernel
theorem dX9_comes_33 : decode cX9_comes 33 = .ok (.iconst 0, 1) := by decide +kernel
theorem dX9_comes_34 : decode cX9_comes 34 = .ok (.istore_n 3, 1) := by decide +kernel
theorem dX9_comes_35 : decode cX9_comes 35 = .ok (.iload_n 3, 1) := by decide +kernel
theorem dX9_comes_36 : decode cX9_comes 36 = .ok (.sipush 200, 3) := by decide +kernel
theorem dX9_comes_39 : decode cX9_comes 39 = .ok (.if_icmp .gt 31, 3) := by decide +kernel
theorem dX9_comes_42 : decode cX9_comes 42 = .ok (.aload_n 0, 1) := by decide +kernel
theorem dX9_comes_43 : decode cX9_comes 43 = .ok (.getfield 50, 3) := by decide +kernel
theorem dX9_comes_46 : decode cX9_comes 46 = .ok (.getfield 141, 3) := by decide +kernel
theorem dX9_comes_49 : decode cX9_comes 49 = .ok (.iload_n 1, 1) := by decide +kernel
theorem dX9_comes_50 : decode cX9_comes 50 = .ok (.iaload, 1) := by decide +kernel
theorem dX9_comes_51 : decode cX9_comes 51 = .ok (.iload_n 2, 1) := by decide +kernel
theorem dX9_comes_52 : decode cX9_comes 52 = .ok (.if_icmp .ne 5, 3) := by decide +kernel
theorem dX9_comes_55 : decode cX9_comes 55 = .ok (.iload_n 3, 1) := by decide +kernel
theorem dX9_comes_56 : decode cX9_comes 56 = .ok (.ireturn, 1) := by decide +kernel
theorem dX9_comes_57 : decode cX9_comes 57 = .ok (.aload_n 0, 1) := by decide +kernel
theorem dX9_comes_58 : decode cX9_comes 58 = .ok (.getfield 50, 3) := by decide +kernel
theorem dX9_comes_61 : decode cX9_comes 61 = .ok (.invokevirtual 207, 3) := by decide +kernel
theorem dX9_comes_64 : decode cX9_comes 64 = .ok (.iinc 3 1, 3) := by decide +kernel
theorem dX9_comes_67 : decode cX9_comes 67 = .ok (.goto (-32), 3) := by decide +kernel
theorem dX9_comes_70 : decode cX9_comes 70 = .ok (.aload_n 0, 1) := by decide +kernel
theorem dX9_comes_71 : decode cX9_comes 71 = .ok (.ldc 187, 2) := by decide +kernel
theorem dX9_comes_73 : decode cX9_comes 73 = .ok (.invokevirtual 83, 3) := by decide +kernel
theorem dX9_comes_76 : decode cX9_comes 76 = .ok (.ireturn, 1) := by decide +kernel
theorem dX9_all_0 : decode cX9_all 0 = .ok (.aload_n 0, 1) := by decide +kernel
theorem dX9_all_1 : decode cX9_all 1 = .ok (.getfield 50, 3) := by decide +kernel
theorem dX9_all_4 : decode cX9_all 4 = .ok (.aload_n 0, 1) := by decide +kernel
theorem dX9_all_5 : decode cX9_all 5 = .ok (.getfield 44, 3) := by decide +kernel
theorem dX9_all_8 : decode cX9_all 8 = .ok (.invokevirtual 200, 3) := by decide +kernel
theorem dX9_all_11 : decode cX9_all 11 = .ok (.iconst 0, 1) := by decide +kernel
theorem dX9_all_12 : decode cX9_all 12 = .ok (.istore_n 1, 1) := by decide +kernel
theorem dX9_all_13 : decode cX9_all 13 = .ok (.iload_n 1, 1) := by decide +kernel
theorem dX9_all_14 : decode cX9_all 14 = .ok (.sipush 200, 3) := by decide +kernel
theorem dX9_all_17 : decode cX9_all 17 = .ok (.if_icmp .gt 28, 3) := by decide +kernel
theorem dX9_all_20 : decode cX9_all 20 = .ok (.aload_n 0, 1) := by decide +kernel
theorem dX9_all_21 : decode cX9_all 21 = .ok (.getfield 50, 3) := by decide +kernel
theorem dX9_all_24 : decode cX9_all 24 = .ok (.invokevirtual 210, 3) := by decide +kernel
theorem dX9_all_27 : decode cX9_all 27 = .ok (.ifCond .eq 5, 3) := by decide +kernel
theorem dX9_all_30 : decode cX9_all 30 = .ok (.iload_n 1, 1) := by decide +kernel
theorem dX9_all_31 : decode cX9_all 31 = .ok (.ireturn, 1) := by decide +kernel
theorem dX9_all_32 : decode cX9_all 32 = .ok (.aload_n 0, 1) := by decide +kernel
theorem dX9_all_33 : decode cX9_all 33 = .ok (.getfield 50, 3) := by decide +kernel
theorem dX9_all_36 : decode cX9_all 36 = .ok (.invokevirtual 207, 3) := by decide +kernel
theorem dX9_all_39 : decode cX9_all 39 = .ok (.iinc 1 1, 3) := by decide +kernel
theorem dX9_all_42 : decode cX9_all 42 = .ok (.goto (-29), 3) := by decide +kernel
theorem dX9_all_45 : decode cX9_all 45 = .ok (.aload_n 0, 1) := by decide +kernel
theorem dX9_all_46 : decode cX9_all 46 = .ok (.ldc 187, 2) := by decide +kernel
theorem dX9_all_48 : decode cX9_all 48 = .ok (.invokevirtual 83, 3) := by decide +kernel
theorem dX9_all_51 : decode cX9_all 51 = .ok (.ireturn, 1) := by decide +kernel
theorem dX9_give_0 : decode cX9_give 0 = .ok (.aload_n 0, 1) := by decide +kernel
theorem dX9_give_1 : decode cX9_give 1 = .ok (.iload_n 1, 1) := by decide +kernel
theorem dX9_give_2 : decode cX9_give 2 = .ok (.invokevirtual 132, 3) := by decide +kernel
theorem dX9_give_5 : decode cX9_give 5 = .ok (.ifCond .ne 10, 3) := by decide +kernel
theorem dX9_give_8 : decode cX9_give 8 = .ok (.aload_n 0, 1) := by decide +kernel
theorem dX9_give_9 : decode cX9_give 9 = .ok (.ldc 82, 2) := by decide +kernel
theorem dX9_give_11 : decode cX9_give 11 = .ok (.invokevirtual 83, 3) := by decide +kernel
theorem dX9_give_14 : decode cX9_give 14 = .ok (.ireturn, 1) := by decide +kernel
theorem dX9_give_15 : decode cX9_give 15 = .ok (.aload_n 0, 1) := by decide +kernel
theorem dX9_give_16 : decode cX9_give 16 = .ok (.getfield 44, 3) := by decide +kernel
theorem dX9_give_19 : decode cX9_give 19 = .ok (.iload_n 1, 1) := by decide +kernel
theorem dX9_give_20 : decode cX9_give 20 = .ok (.invokevirtual 213, 3) := by decide +kernel
theorem dX9_give_23 : decode cX9_give 23 = .ok (.ifCond .eq 10, 3) := by decide +kernel
theorem dX9_give_26 : decode cX9_give 26 = .ok (.aload_n 0, 1) := by decide +kernel
theorem dX9_give_27 : decode cX9_give 27 = .ok (.ldc 173, 2) := by decide +kernel
theorem dX9_give_29 : decode cX9_give 29 = .ok (.invokevirtual 83, 3) := by decide +kernel
theorem dX9_give_32 : decode cX9_give 32 = .ok (.ireturn, 1) := by decide +kernel
theorem dX9_give_33 : decode cX9_give 33 = .ok (.iconst (-1), 1) := by decide +kernel
theorem dX9_give_34 : decode cX9_give 34 = .ok (.istore_n 2, 1) := by decide +kernel
theorem dX9_give_35 : decode cX9_give 35 = .ok (.bipush 101, 2) := by decide +kernel
theorem dX9_give_37 : decode cX9_give 37 = .ok (.istore_n 3, 1) := by decide +kernel
theorem dX9_give_38 : decode cX9_give 38 = .ok (.iconst 0, 1) := by decide +kernel
theorem dX9_give_39 : decode cX9_give 39 = .ok (.istore 4, 2) := by decide +kernel
theorem dX9_give_41 : decode cX9_give 41 = .ok (.iload 4, 2) := by decide +kernel
theorem dX9_give_43 : decode cX9_give 43 = .ok (.bipush 6, 2) := by decide +kernel
theorem dX9_give_45 : decode cX9_give 45 = .ok (.if_icmp .ge 52, 3) := by decide +kernel
theorem dX9_give_48 : decode cX9_give 48 = .ok (.aload_n 0, 1) := by decide +kernel
theorem dX9_give_49 : decode cX9_give 49 = .ok (.getfield 50, 3) := by decide +kernel
theorem dX9_give_52 : decode cX9_give 52 = .ok (.aload_n 0, 1) := by decide +kernel
theorem dX9_give_53 : decode cX9_give 53 = .ok (.getfield 44, 3) := by decide +kernel
theorem dX9_give_56 : decode cX9_give 56 = .ok (.invokevirtual 200, 3) := by decide +kernel
theorem dX9_give_59 : decode cX9_give 59 = .ok (.aload_n 0, 1) := by decide +kernel
theorem dX9_give_60 : decode cX9_give 60 = .ok (.getfield 50, 3) := by decide +kernel
theorem dX9_give_63 : decode cX9_give 63 = .ok (.getfield 141, 3) := by decide +kernel
theorem dX9_give_66 : decode cX9_give 66 = .ok (.iload_n 1, 1) := by decide +kernel
theorem dX9_give_67 : decode cX9_give 67 = .ok (.iload 4, 2) := by decide +kernel
theorem dX9_give_69 : decode cX9_give 69 = .ok (.iastore, 1) := by decide +kernel
theorem dX9_give_70 : decode cX9_give 70 = .ok (.aload_n 0, 1) := by decide +kernel
theorem dX9_give_71 : decode cX9_give 71 = .ok (.iload_n 1, 1) := by decide +kernel
theorem dX9_give_72 : decode cX9_give 72 = .ok (.iload_n 3, 1) := by decide +kernel
theorem dX9_give_73 : decode cX9_give 73 = .ok (.iconst 1, 1) := by decide +kernel
theorem dX9_give_74 : decode cX9_give 74 = .ok (.isub, 1) := by decide +kernel
theorem dX9_give_75 : decode cX9_give 75 = .ok (.invokevirtual 204, 3) := by decide +kernel
theorem dX9_give_78 : decode cX9_give 78 = .ok (.istore 5, 2) := by decide +kernel
theorem dX9_give_80 : decode cX9_give 80 = .ok (.iload 5, 2) := by decide +kernel
theorem dX9_give_82 : decode cX9_give 82 = .ok (.ifCond .lt 9, 3) := by decide +kernel
theorem dX9_give_85 : decode cX9_give 85 = .ok (.iload 4, 2) := by decide +kernel
theorem dX9_give_87 : decode cX9_give 87 = .ok (.istore_n 2, 1) := by decide +kernel
theorem dX9_give_88 : decode cX9_give 88 = .ok (.iload 5, 2) := by decide +kernel
theorem dX9_give_90 : decode cX9_give 90 = .ok (.istore_n 3, 1) := by decide +kernel
theorem dX9_give_91 : decode cX9_give 91 = .ok (.iinc 4 1, 3) := by decide +kernel
theorem dX9_give_94 : decode cX9_give 94 = .ok (.goto (-53), 3) := by decide +kernel
theorem dX9_give_97 : decode cX9_give 97 = .ok (.iload_n 2, 1) := by decide +kernel
theorem dX9_give_98 : decode cX9_give 98 = .ok (.ifCond .ge 12, 3) := by decide +kernel
theorem dX9_give_101 : decode cX9_give 101 = .ok (.aload_n 0, 1) := by decide +kernel
theorem dX9_give_102 : decode cX9_give 102 = .ok (.ldc 187, 2) := by decide +kernel
theorem dX9_give_104 : decode cX9_give 104 = .ok (.invokevirtual 83, 3) := by decide +kernel
theorem dX9_give_107 : decode cX9_give 107 = .ok (.goto 4, 3) := by decide +kernel
theorem dX9_give_110 : decode cX9_give 110 = .ok (.iload_n 2, 1) := by decide +kernel
theorem dX9_give_111 : decode cX9_give 111 = .ok (.ireturn, 1) := by decide +kernel
theorem dX9_kind_0 : decode cX9_kind 0 = .ok (.aload_n 0, 1) := by decide +kernel
theorem dX9_kind_1 : decode cX9_kind 1 = .ok (.iload_n 1, 1) := by decide +kernel
theorem dX9_kind_2 : decode cX9_kind 2 = .ok (.invokevirtual 132, 3) := by decide +kernel
theorem dX9_kind_5 : decode cX9_kind 5 = .ok (.ifCond .ne 10, 3) := by decide +kernel
theorem dX9_kind_8 : decode cX9_kind 8 = .ok (.aload_n 0, 1) := by decide +kernel
theorem dX9_kind_9 : decode cX9_kind 9 = .ok (.ldc 82, 2) := by decide +kernel
theorem dX9_kind_11 : decode cX9_kind 11 = .ok (.invokevirtual 83, 3) := by decide +kernel
theorem dX9_kind_14 : decode cX9_kind 14 = .ok (.ireturn, 1) := by decide +kernel
theorem dX9_kind_15 : decode cX9_kind 15 = .ok (.iconst (-1), 1) := by decide +kernel
theorem dX9_kind_16 : decode cX9_kind 16 = .ok (.istore_n 2, 1) := by decide +kernel
theorem dX9_kind_17 : decode cX9_kind 17 = .ok (.bipush 101, 2) := by decide +kernel
theorem dX9_kind_19 : decode cX9_kind 19 = .ok (.istore_n 3, 1) := by decide +kernel
theorem dX9_kind_20 : decode cX9_kind 20 = .ok (.iconst 0, 1) := by decide +kernel
theorem dX9_kind_21 : decode cX9_kind 21 = .ok (.istore 4, 2) := by decide +kernel
theorem dX9_kind_23 : decode cX9_kind 23 = .ok (.iload 4, 2) := by decide +kernel
theorem dX9_kind_25 : decode cX9_kind 25 = .ok (.bipush 6, 2) := by decide +kernel
theorem dX9_kind_27 : decode cX9_kind 27 = .ok (.if_icmp .ge 52, 3) := by decide +kernel
theorem dX9_kind_30 : decode cX9_kind 30 = .ok (.aload_n 0, 1) := by decide +kernel
theorem dX9_kind_31 : decode cX9_kind 31 = .ok (.getfield 50, 3) := by decide +kernel
theorem dX9_kind_34 : decode cX9_kind 34 = .ok (.aload_n 0, 1) := by decide +kernel
theorem dX9_kind_35 : decode cX9_kind 35 = .ok (.getfield 44, 3) := by decide +kernel
theorem dX9_kind_38 : decode cX9_kind 38 = .ok (.invokevirtual 200, 3) := by decide +kernel
theorem dX9_kind_41 : decode cX9_kind 41 = .ok (.aload_n 0, 1) := by decide +kernel
theorem dX9_kind_42 : decode cX9_kind 42 = .ok (.getfield 50, 3) := by decide +kernel
theorem dX9_kind_45 : decode cX9_kind 45 = .ok (.getfield 135, 3) := by decide +kernel
theorem dX9_kind_48 : decode cX9_kind 48 = .ok (.iload_n 1, 1) := by decide +kernel
theorem dX9_kind_49 : decode cX9_kind 49 = .ok (.iload 4, 2) := by decide +kernel
theorem dX9_kind_51 : decode cX9_kind 51 = .ok (.iastore, 1) := by decide +kernel
theorem dX9_kind_52 : decode cX9_kind 52 = .ok (.aload_n 0, 1) := by decide +kernel
theorem dX9_kind_53 : decode cX9_kind 53 = .ok (.iload_n 1, 1) := by decide +kernel
theorem dX9_kind_54 : decode cX9_kind 54 = .ok (.iload_n 3, 1) := by decide +kernel
theorem dX9_kind_55 : decode cX9_kind 55 = .ok (.iconst 1, 1) := by decide +kernel
theorem dX9_kind_56 : decode cX9_kind 56 = .ok (.isub, 1) := by decide +kernel
theorem dX9_kind_57 : decode cX9_kind 57 = .ok (.invokevirtual 204, 3) := by decide +kernel
theorem dX9_kind_60 : decode cX9_kind 60 = .ok (.istore 5, 2) := by decide +kernel
theorem dX9_kind_62 : decode cX9_kind 62 = .ok (.iload 5, 2) := by decide +kernel
theorem dX9_kind_64 : decode cX9_kind 64 = .ok (.ifCond .lt 9, 3) := by decide +kernel
theorem dX9_kind_67 : decode cX9_kind 67 = .ok (.iload 4, 2) := by decide +kernel
theorem dX9_kind_69 : decode cX9_kind 69 = .ok (.istore_n 2, 1) := by decide +kernel
theorem dX9_kind_70 : decode cX9_kind 70 = .ok (.iload 5, 2) := by decide +kernel
theorem dX9_kind_72 : decode cX9_kind 72 = .ok (.istore_n 3, 1) := by decide +kernel
theorem dX9_kind_73 : decode cX9_kind 73 = .ok (.iinc 4 1, 3) := by decide +kernel
theorem dX9_kind_76 : decode cX9_kind 76 = .ok (.goto (-53), 3) := by decide +kernel
theorem dX9_kind_79 : decode cX9_kind 79 = .ok (.iload_n 2, 1) := by decide +kernel
theorem dX9_kind_80 : decode cX9_kind 80 = .ok (.ifCond .ge 12, 3) := by decide +kernel
theorem dX9_kind_83 : decode cX9_kind 83 = .ok (.aload_n 0, 1) := by decide +kernel
theorem dX9_kind_84 : decode cX9_kind 84 = .ok (.ldc 187, 2) := by decide +kernel
theorem dX9_kind_86 : decode cX9_kind 86 = .ok (.invokevirtual 83, 3) := by decide +kernel
theorem dX9_kind_89 : decode cX9_kind 89 = .ok (.goto 4, 3) := by decide +kernel
theorem dX9_kind_92 : decode cX9_kind 92 = .ok (.iload_n 2, 1) := by decide +kernel
theorem dX9_kind_93 : decode cX9_kind 93 = .ok (.ireturn, 1) := by decide +kernel
theorem dX9_zeal_0 : decode cX9_zeal 0 = .ok (.iload_n 1, 1) := by decide +kernel
theorem dX9_zeal_1 : decode cX9_zeal 1 = .ok (.invokestatic 78, 3) := by decide +kernel
theorem dX9_zeal_4 : decode cX9_zeal 4 = .ok (.ifCond .eq 24, 3) := by decide +kernel
theorem dX9_zeal_7 : decode cX9_zeal 7 = .ok (.iload_n 2, 1) := by decide +kernel
theorem dX9_zeal_8 : decode cX9_zeal 8 = .ok (.iconst 1, 1) := by decide +kernel
theorem dX9_zeal_9 : decode cX9_zeal 9 = .ok (.bipush 60, 2) := by decide +kernel
theorem dX9_zeal_11 : decode cX9_zeal 11 = .ok (.invokestatic 87, 3) := by decide +kernel
theorem dX9_zeal_14 : decode cX9_zeal 14 = .ok (.ifCond .eq 14, 3) := by decide +kernel
theorem dX9_zeal_17 : decode cX9_zeal 17 = .ok (.iload_n 3, 1) := by decide +kernel
theorem dX9_zeal_18 : decode cX9_zeal 18 = .ok (.iconst 0, 1) := by decide +kernel
theorem dX9_zeal_19 : decode cX9_zeal 19 = .ok (.sipush 999, 3) := by decide +kernel
theorem dX9_zeal_22 : decode cX9_zeal 22 = .ok (.invokestatic 87, 3) := by decide +kernel
theorem dX9_zeal_25 : decode cX9_zeal 25 = .ok (.ifCond .ne 10, 3) := by decide +kernel
theorem dX9_zeal_28 : decode cX9_zeal 28 = .ok (.aload_n 0, 1) := by decide +kernel
theorem dX9_zeal_29 : decode cX9_zeal 29 = .ok (.ldc 82, 2) := by decide +kernel
theorem dX9_zeal_31 : decode cX9_zeal 31 = .ok (.invokevirtual 83, 3) := by decide +kernel
theorem dX9_zeal_34 : decode cX9_zeal 34 = .ok (.ireturn, 1) := by decide +kernel
theorem dX9_zeal_35 : decode cX9_zeal 35 = .ok (.iconst 0, 1) := by decide +kernel
theorem dX9_zeal_36 : decode cX9_zeal 36 = .ok (.istore 4, 2) := by decide +kernel
theorem dX9_zeal_38 : decode cX9_zeal 38 = .ok (.iload 4, 2) := by decide +kernel
theorem dX9_zeal_40 : decode cX9_zeal 40 = .ok (.bipush 9, 2) := by decide +kernel
theorem dX9_zeal_42 : decode cX9_zeal 42 = .ok (.if_icmp .gt 55, 3) := by decide +kernel
theorem dX9_zeal_45 : decode cX9_zeal 45 = .ok (.aload_n 0, 1) := by decide +kernel
theorem dX9_zeal_46 : decode cX9_zeal 46 = .ok (.getfield 50, 3) := by decide +kernel
theorem dX9_zeal_49 : decode cX9_zeal 49 = .ok (.aload_n 0, 1) := by decide +kernel
theorem dX9_zeal_50 : decode cX9_zeal 50 = .ok (.getfield 44, 3) := by decide +kernel
theorem dX9_zeal_53 : decode cX9_zeal 53 = .ok (.invokevirtual 200, 3) := by decide +kernel
theorem dX9_zeal_56 : decode cX9_zeal 56 = .ok (.aload_n 0, 1) := by decide +kernel
theorem dX9_zeal_57 : decode cX9_zeal 57 = .ok (.getfield 50, 3) := by decide +kernel
theorem dX9_zeal_60 : decode cX9_zeal 60 = .ok (.getfield 98, 3) := by decide +kernel
theorem dX9_zeal_63 : decode cX9_zeal 63 = .ok (.iload_n 1, 1) := by decide +kernel
theorem dX9_zeal_64 : decode cX9_zeal 64 = .ok (.iload 4, 2) := by decide +kernel
theorem dX9_zeal_66 : decode cX9_zeal 66 = .ok (.iastore, 1) := by decide +kernel
theorem dX9_zeal_67 : decode cX9_zeal 67 = .ok (.aload_n 0, 1) := by decide +kernel
theorem dX9_zeal_68 : decode cX9_zeal 68 = .ok (.getfield 50, 3) := by decide +kernel
theorem dX9_zeal_71 : decode cX9_zeal 71 = .ok (.iload_n 2, 1) := by decide +kernel
theorem dX9_zeal_72 : decode cX9_zeal 72 = .ok (.invokevirtual 191, 3) := by decide +kernel
theorem dX9_zeal_75 : decode cX9_zeal 75 = .ok (.aload_n 0, 1) := by decide +kernel
theorem dX9_zeal_76 : decode cX9_zeal 76 = .ok (.getfield 50, 3) := by decide +kernel
theorem dX9_zeal_79 : decode cX9_zeal 79 = .ok (.getfield 101, 3) := by decide +kernel
theorem dX9_zeal_82 : decode cX9_zeal 82 = .ok (.iload_n 1, 1) := by decide +kernel
theorem dX9_zeal_83 : decode cX9_zeal 83 = .ok (.iaload, 1) := by decide +kernel
theorem dX9_zeal_84 : decode cX9_zeal 84 = .ok (.iload_n 3, 1) := by decide +kernel
theorem dX9_zeal_85 : decode cX9_zeal 85 = .ok (.if_icmp .lt 6, 3) := by decide +kernel
theorem dX9_zeal_88 : decode cX9_zeal 88 = .ok (.iload 4, 2) := by decide +kernel
theorem dX9_zeal_90 : decode cX9_zeal 90 = .ok (.ireturn, 1) := by decide +kernel
theorem dX9_zeal_91 : decode cX9_zeal 91 = .ok (.iinc 4 1, 3) := by decide +kernel
theorem dX9_zeal_94 : decode cX9_zeal 94 = .ok (.goto (-56), 3) := by decide +kernel
theorem dX9_zeal_97 : decode cX9_zeal 97 = .ok (.aload_n 0, 1) := by decide +kernel
theorem dX9_zeal_98 : decode cX9_zeal 98 = .ok (.ldc 187, 2) := by decide +kernel
theorem dX9_zeal_100 : decode cX9_zeal 100 = .ok (.invokevirtual 83, 3) := by decide +kernel
theorem dX9_zeal_103 : decode cX9_zeal 103 = .ok (.ireturn, 1) := by decide +kernel
theorem dX9_skill_0 : decode cX9_skill 0 = .ok (.iload_n 1, 1) := by decide +kernel
theorem dX9_skill_1 : decode cX9_skill 1 = .ok (.invokestatic 78, 3) := by decide +kernel
theorem dX9_skill_4 : decode cX9_skill 4 = .ok (.ifCond .eq 13, 3) := by decide +kernel
theorem dX9_skill_7 : decode cX9_skill 7 = .ok (.iload_n 2, 1) := by decide +kernel
theorem dX9_skill_8 : decode cX9_skill 8 = .ok (.iconst 1, 1) := by decide +kernel
theorem dX9_skill_9 : decode cX9_skill 9 = .ok (.bipush 60, 2) := by decide +kernel
theorem dX9_skill_11 : decode cX9_skill 11 = .ok (.invokestatic 87, 3) := by decide +kernel
theorem dX9_skill_14 : decode cX9_skill 14 = .ok (.ifCond .ne 10, 3) := by decide +kernel
theorem dX9_skill_17 : decode cX9_skill 17 = .ok (.aload_n 0, 1) := by decide +kernel
theorem dX9_skill_18 : decode cX9_skill 18 = .ok (.ldc 82, 2) := by decide +kernel
theorem dX9_skill_20 : decode cX9_skill 20 = .ok (.invokevirtual 83, 3) := by decide +kernel
theorem dX9_skill_23 : decode cX9_skill 23 = .ok (.ireturn, 1) := by decide +kernel
theorem dX9_skill_24 : decode cX9_skill 24 = .ok (.iconst 0, 1) := by decide +kernel
theorem dX9_skill_25 : decode cX9_skill 25 = .ok (.istore_n 3, 1) := by decide +kernel
theorem dX9_skill_26 : decode cX9_skill 26 = .ok (.iload_n 3, 1) := by decide +kernel
theorem dX9_skill_27 : decode cX9_skill 27 = .ok (.bipush 20, 2) := by decide +kernel
theorem dX9_skill_29 : decode cX9_skill 29 = .ok (.if_icmp .gt 50, 3) := by decide +kernel
theorem dX9_skill_32 : decode cX9_skill 32 = .ok (.aload_n 0, 1) := by decide +kernel
theorem dX9_skill_33 : decode cX9_skill 33 = .ok (.getfield 50, 3) := by decide +kernel
theorem dX9_skill_36 : decode cX9_skill 36 = .ok (.aload_n 0, 1) := by decide +kernel
theorem dX9_skill_37 : decode cX9_skill 37 = .ok (.getfield 44, 3) := by decide +kernel
theorem dX9_skill_40 : decode cX9_skill 40 = .ok (.invokevirtual 200, 3) := by decide +kernel
theorem dX9_skill_43 : decode cX9_skill 43 = .ok (.aload_n 0, 1) := by decide +kernel
theorem dX9_skill_44 : decode cX9_skill 44 = .ok (.getfield 50, 3) := by decide +kernel
theorem dX9_skill_47 : decode cX9_skill 47 = .ok (.getfield 91, 3) := by decide +kernel
theorem dX9_skill_50 : decode cX9_skill 50 = .ok (.iload_n 1, 1) := by decide +kernel
theorem dX9_skill_51 : decode cX9_skill 51 = .ok (.iload_n 3, 1) := by decide +kernel
theorem dX9_skill_52 : decode cX9_skill 52 = .ok (.iastore, 1) := by decide +kernel
theorem dX9_skill_53 : decode cX9_skill 53 = .ok (.aload_n 0, 1) := by decide +kernel
theorem dX9_skill_54 : decode cX9_skill 54 = .ok (.getfield 50, 3) := by decide +kernel
theorem dX9_skill_57 : decode cX9_skill 57 = .ok (.iload_n 2, 1) := by decide +kernel
theorem dX9_skill_58 : decode cX9_skill 58 = .ok (.invokevirtual 191, 3) := by decide +kernel
theorem dX9_skill_61 : decode cX9_skill 61 = .ok (.aload_n 0, 1) := by decide +kernel
theorem dX9_skill_62 : decode cX9_skill 62 = .ok (.getfield 50, 3) := by decide +kernel
theorem dX9_skill_65 : decode cX9_skill 65 = .ok (.invokevirtual 210, 3) := by decide +kernel
theorem dX9_skill_68 : decode cX9_skill 68 = .ok (.ifCond .eq 5, 3) := by decide +kernel
theorem dX9_skill_71 : decode cX9_skill 71 = .ok (.iload_n 3, 1) := by decide +kernel
theorem dX9_skill_72 : decode cX9_skill 72 = .ok (.ireturn, 1) := by decide +kernel
theorem dX9_skill_73 : decode cX9_skill 73 = .ok (.iinc 3 1, 3) := by decide +kernel
theorem dX9_skill_76 : decode cX9_skill 76 = .ok (.goto (-50), 3) := by decide +kernel
theorem dX9_skill_79 : decode cX9_skill 79 = .ok (.aload_n 0, 1) := by decide +kernel
theorem dX9_skill_80 : decode cX9_skill 80 = .ok (.ldc 187, 2) := by decide +kernel
theorem dX9_skill_82 : decode cX9_skill 82 = .ok (.invokevirtual 83, 3) := by decide +kernel
theorem dX9_skill_85 : decode cX9_skill 85 = .ok (.ireturn, 1) := by decide +kernel
theorem dX9_maker_0 : decode cX9_maker 0 = .ok (.iload_n 1, 1) := by decide +kernel
theorem dX9_maker_1 : decode cX9_maker 1 = .ok (.iconst 0, 1) := by decide +kernel
theorem dX9_maker_2 : decode cX9_maker 2 = .ok (.bipush 100, 2) := by decide +kernel
theorem dX9_maker_4 : decode cX9_maker 4 = .ok (.invokestatic 87, 3) := by decide +kernel
theorem dX9_maker_7 : decode cX9_maker 7 = .ok (.ifCond .ne 10, 3) := by decide +kernel
theorem dX9_maker_10 : decode cX9_maker 10 = .ok (.aload_n 0, 1) := by decide +kernel
theorem dX9_maker_11 : decode cX9_maker 11 = .ok (.ldc 82, 2) := by decide +kernel
theorem dX9_maker_13 : decode cX9_maker 13 = .ok (.invokevirtual 83, 3) := by decide +kernel
theorem dX9_maker_16 : decode cX9_maker 16 = .ok (.ireturn, 1) := by decide +kernel
theorem dX9_maker_17 : decode cX9_maker 17 = .ok (.aload_n 0, 1) := by decide +kernel
theorem dX9_maker_18 : decode cX9_maker 18 = .ok (.getfield 50, 3) := by decide +kernel
theorem dX9_maker_21 : decode cX9_maker 21 = .ok (.aload_n 0, 1) := by decide +kernel
theorem dX9_maker_22 : decode cX9_maker 22 = .ok (.getfield 44, 3) := by decide +kernel
theorem dX9_maker_25 : decode cX9_maker 25 = .ok (.invokevirtual 200, 3) := by decide +kernel
theorem dX9_maker_28 : decode cX9_maker 28 = .ok (.aload_n 0, 1) := by decide +kernel
theorem dX9_maker_29 : decode cX9_maker 29 = .ok (.getfield 50, 3) := by decide +kernel
theorem dX9_maker_32 : decode cX9_maker 32 = .ok (.iload_n 1, 1) := by decide +kernel
theorem dX9_maker_33 : decode cX9_maker 33 = .ok (.invokevirtual 191, 3) := by decide +kernel
theorem dX9_maker_36 : decode cX9_maker 36 = .ok (.iconst 0, 1) := by decide +kernel
theorem dX9_maker_37 : decode cX9_maker 37 = .ok (.istore_n 2, 1) := by decide +kernel
theorem dX9_maker_38 : decode cX9_maker 38 = .ok (.iconst 1, 1) := by decide +kernel
theorem dX9_maker_39 : decode cX9_maker 39 = .ok (.istore_n 3, 1) := by decide +kernel
theorem dX9_maker_40 : decode cX9_maker 40 = .ok (.iload_n 3, 1) := by decide +kernel
theorem dX9_maker_41 : decode cX9_maker 41 = .ok (.bipush 6, 2) := by decide +kernel
theorem dX9_maker_43 : decode cX9_maker 43 = .ok (.if_icmp .ge 32, 3) := by decide +kernel
theorem dX9_maker_46 : decode cX9_maker 46 = .ok (.aload_n 0, 1) := by decide +kernel
theorem dX9_maker_47 : decode cX9_maker 47 = .ok (.getfield 50, 3) := by decide +kernel
theorem dX9_maker_50 : decode cX9_maker 50 = .ok (.getfield 101, 3) := by decide +kernel
theorem dX9_maker_53 : decode cX9_maker 53 = .ok (.iload_n 3, 1) := by decide +kernel
theorem dX9_maker_54 : decode cX9_maker 54 = .ok (.iaload, 1) := by decide +kernel
theorem dX9_maker_55 : decode cX9_maker 55 = .ok (.aload_n 0, 1) := by decide +kernel
theorem dX9_maker_56 : decode cX9_maker 56 = .ok (.getfield 50, 3) := by decide +kernel
theorem dX9_maker_59 : decode cX9_maker 59 = .ok (.getfield 101, 3) := by decide +kernel
theorem dX9_maker_62 : decode cX9_maker 62 = .ok (.iload_n 2, 1) := by decide +kernel
theorem dX9_maker_63 : decode cX9_maker 63 = .ok (.iaload, 1) := by decide +kernel
theorem dX9_maker_64 : decode cX9_maker 64 = .ok (.if_icmp .le 5, 3) := by decide +kernel
theorem dX9_maker_67 : decode cX9_maker 67 = .ok (.iload_n 3, 1) := by decide +kernel
theorem dX9_maker_68 : decode cX9_maker 68 = .ok (.istore_n 2, 1) := by decide +kernel
theorem dX9_maker_69 : decode cX9_maker 69 = .ok (.iinc 3 1, 3) := by decide +kernel
theorem dX9_maker_72 : decode cX9_maker 72 = .ok (.goto (-32), 3) := by decide +kernel
theorem dX9_maker_75 : decode cX9_maker 75 = .ok (.iload_n 2, 1) := by decide +kernel
theorem dX9_maker_76 : decode cX9_maker 76 = .ok (.ireturn, 1) := by decide +kernel
theorem dX9_drop_0 : decode cX9_drop 0 = .ok (.iload_n 1, 1) := by decide +kernel
theorem dX9_drop_1 : decode cX9_drop 1 = .ok (.iconst 1, 1) := by decide +kernel
theorem dX9_drop_2 : decode cX9_drop 2 = .ok (.bipush 30, 2) := by decide +kernel
theorem dX9_drop_4 : decode cX9_drop 4 = .ok (.invokestatic 87, 3) := by decide +kernel
theorem dX9_drop_7 : decode cX9_drop 7 = .ok (.ifCond .ne 10, 3) := by decide +kernel
theorem dX9_drop_10 : decode cX9_drop 10 = .ok (.aload_n 0, 1) := by decide +kernel
theorem dX9_drop_11 : decode cX9_drop 11 = .ok (.ldc 82, 2) := by decide +kernel
theorem dX9_drop_13 : decode cX9_drop 13 = .ok (.invokevirtual 83, 3) := by decide +kernel
theorem dX9_drop_16 : decode cX9_drop 16 = .ok (.ireturn, 1) := by decide +kernel
theorem dX9_drop_17 : decode cX9_drop 17 = .ok (.iconst (-1), 1) := by decide +kernel
theorem dX9_drop_18 : decode cX9_drop 18 = .ok (.istore_n 2, 1) := by decide +kernel
theorem dX9_drop_19 : decode cX9_drop 19 = .ok (.iconst (-1), 1) := by decide +kernel
theorem dX9_drop_20 : decode cX9_drop 20 = .ok (.istore_n 3, 1) := by decide +kernel
theorem dX9_drop_21 : decode cX9_drop 21 = .ok (.iconst 0, 1) := by decide +kernel
theorem dX9_drop_22 : decode cX9_drop 22 = .ok (.istore 4, 2) := by decide +kernel
theorem dX9_drop_24 : decode cX9_drop 24 = .ok (.iload 4, 2) := by decide +kernel
theorem dX9_drop_26 : decode cX9_drop 26 = .ok (.aload_n 0, 1) := by decide +kernel
theorem dX9_drop_27 : decode cX9_drop 27 = .ok (.getfield 44, 3) := by decide +kernel
theorem dX9_drop_30 : decode cX9_drop 30 = .ok (.getfield 124, 3) := by decide +kernel
theorem dX9_drop_33 : decode cX9_drop 33 = .ok (.if_icmp .ge 70, 3) := by decide +kernel
theorem dX9_drop_36 : decode cX9_drop 36 = .ok (.aload_n 0, 1) := by decide +kernel
theorem dX9_drop_37 : decode cX9_drop 37 = .ok (.getfield 44, 3) := by decide +kernel
theorem dX9_drop_40 : decode cX9_drop 40 = .ok (.iload 4, 2) := by decide +kernel
theorem dX9_drop_42 : decode cX9_drop 42 = .ok (.invokevirtual 170, 3) := by decide +kernel
theorem dX9_drop_45 : decode cX9_drop 45 = .ok (.ifCond .eq 52, 3) := by decide +kernel
theorem dX9_drop_48 : decode cX9_drop 48 = .ok (.aload_n 0, 1) := by decide +kernel
theorem dX9_drop_49 : decode cX9_drop 49 = .ok (.getfield 50, 3) := by decide +kernel
theorem dX9_drop_52 : decode cX9_drop 52 = .ok (.aload_n 0, 1) := by decide +kernel
theorem dX9_drop_53 : decode cX9_drop 53 = .ok (.getfield 44, 3) := by decide +kernel
theorem dX9_drop_56 : decode cX9_drop 56 = .ok (.invokevirtual 200, 3) := by decide +kernel
theorem dX9_drop_59 : decode cX9_drop 59 = .ok (.aload_n 0, 1) := by decide +kernel
theorem dX9_drop_60 : decode cX9_drop 60 = .ok (.getfield 50, 3) := by decide +kernel
theorem dX9_drop_63 : decode cX9_drop 63 = .ok (.iload 4, 2) := by decide +kernel
theorem dX9_drop_65 : decode cX9_drop 65 = .ok (.invokevirtual 174, 3) := by decide +kernel
theorem dX9_drop_68 : decode cX9_drop 68 = .ok (.aload_n 0, 1) := by decide +kernel
theorem dX9_drop_69 : decode cX9_drop 69 = .ok (.getfield 50, 3) := by decide +kernel
theorem dX9_drop_72 : decode cX9_drop 72 = .ok (.iload_n 1, 1) := by decide +kernel
theorem dX9_drop_73 : decode cX9_drop 73 = .ok (.invokevirtual 191, 3) := by decide +kernel
theorem dX9_drop_76 : decode cX9_drop 76 = .ok (.aload_n 0, 1) := by decide +kernel
theorem dX9_drop_77 : decode cX9_drop 77 = .ok (.getfield 50, 3) := by decide +kernel
theorem dX9_drop_80 : decode cX9_drop 80 = .ok (.invokevirtual 194, 3) := by decide +kernel
theorem dX9_drop_83 : decode cX9_drop 83 = .ok (.istore 5, 2) := by decide +kernel
theorem dX9_drop_85 : decode cX9_drop 85 = .ok (.iload 5, 2) := by decide +kernel
theorem dX9_drop_87 : decode cX9_drop 87 = .ok (.iload_n 3, 1) := by decide +kernel
theorem dX9_drop_88 : decode cX9_drop 88 = .ok (.if_icmp .le 9, 3) := by decide +kernel
theorem dX9_drop_91 : decode cX9_drop 91 = .ok (.iload 4, 2) := by decide +kernel
theorem dX9_drop_93 : decode cX9_drop 93 = .ok (.istore_n 2, 1) := by decide +kernel
theorem dX9_drop_94 : decode cX9_drop 94 = .ok (.iload 5, 2) := by decide +kernel
theorem dX9_drop_96 : decode cX9_drop 96 = .ok (.istore_n 3, 1) := by decide +kernel
theorem dX9_drop_97 : decode cX9_drop 97 = .ok (.iinc 4 1, 3) := by decide +kernel
theorem dX9_drop_100 : decode cX9_drop 100 = .ok (.goto (-76), 3) := by decide +kernel
theorem dX9_drop_103 : decode cX9_drop 103 = .ok (.iload_n 2, 1) := by decide +kernel
theorem dX9_drop_104 : decode cX9_drop 104 = .ok (.ifCond .ge 12, 3) := by decide +kernel
theorem dX9_drop_107 : decode cX9_drop 107 = .ok (.aload_n 0, 1) := by decide +kernel
theorem dX9_drop_108 : decode cX9_drop 108 = .ok (.ldc 187, 2) := by decide +kernel
theorem dX9_drop_110 : decode cX9_drop 110 = .ok (.invokevirtual 83, 3) := by decide +kernel
theorem dX9_drop_113 : decode cX9_drop 113 = .ok (.goto 4, 3) := by decide +kernel
theorem dX9_drop_116 : decode cX9_drop 116 = .ok (.iload_n 2, 1) := by decide +kernel
theorem dX9_drop_117 : decode cX9_drop 117 = .ok (.ireturn, 1) := by decide +kernel
theorem dX9_feed_0 : decode cX9_feed 0 = .ok (.iload_n 2, 1) := by decide +kernel
theorem dX9_feed_1 : decode cX9_feed 1 = .ok (.iconst 1, 1) := by decide +kernel
theorem dX9_feed_2 : decode cX9_feed 2 = .ok (.iconst 4, 1) := by decide +kernel
theorem dX9_feed_3 : decode cX9_feed 3 = .ok (.invokestatic 87, 3) := by decide +kernel
theorem dX9_feed_6 : decode cX9_feed 6 = .ok (.ifCond .ne 10, 3) := by decide +kernel
theorem dX9_feed_9 : decode cX9_feed 9 = .ok (.aload_n 0, 1) := by decide +kernel
theorem dX9_feed_10 : decode cX9_feed 10 = .ok (.ldc 82, 2) := by decide +kernel
theorem dX9_feed_12 : decode cX9_feed 12 = .ok (.invokevirtual 83, 3) := by decide +kernel
theorem dX9_feed_15 : decode cX9_feed 15 = .ok (.ireturn, 1) := by decide +kernel
theorem dX9_feed_16 : decode cX9_feed 16 = .ok (.aload_n 0, 1) := by decide +kernel
theorem dX9_feed_17 : decode cX9_feed 17 = .ok (.getfield 63, 3) := by decide +kernel
theorem dX9_feed_20 : decode cX9_feed 20 = .ok (.iload_n 2, 1) := by decide +kernel
theorem dX9_feed_21 : decode cX9_feed 21 = .ok (.invokevirtual 216, 3) := by decide +kernel
theorem dX9_feed_24 : decode cX9_feed 24 = .ok (.ifCond .ne 10, 3) := by decide +kernel
theorem dX9_feed_27 : decode cX9_feed 27 = .ok (.aload_n 0, 1) := by decide +kernel
theorem dX9_feed_28 : decode cX9_feed 28 = .ok (.ldc 123, 2) := by decide +kernel
theorem dX9_feed_30 : decode cX9_feed 30 = .ok (.invokevirtual 83, 3) := by decide +kernel
theorem dX9_feed_33 : decode cX9_feed 33 = .ok (.ireturn, 1) := by decide +kernel
theorem dX9_feed_34 : decode cX9_feed 34 = .ok (.aload_n 0, 1) := by decide +kernel
theorem dX9_feed_35 : decode cX9_feed 35 = .ok (.getfield 63, 3) := by decide +kernel
theorem dX9_feed_38 : decode cX9_feed 38 = .ok (.iload_n 1, 1) := by decide +kernel
theorem dX9_feed_39 : decode cX9_feed 39 = .ok (.iload_n 2, 1) := by decide +kernel
theorem dX9_feed_40 : decode cX9_feed 40 = .ok (.invokevirtual 219, 3) := by decide +kernel
theorem dX9_feed_43 : decode cX9_feed 43 = .ok (.aload_n 0, 1) := by decide +kernel
theorem dX9_feed_44 : decode cX9_feed 44 = .ok (.getfield 63, 3) := by decide +kernel
theorem dX9_feed_47 : decode cX9_feed 47 = .ok (.getfield 223, 3) := by decide +kernel
theorem dX9_feed_50 : decode cX9_feed 50 = .ok (.ireturn, 1) := by decide +kernel
theorem dX9_wipe_0 : decode cX9_wipe 0 = .ok (.aload_n 0, 1) := by decide +kernel
theorem dX9_wipe_1 : decode cX9_wipe 1 = .ok (.getfield 63, 3) := by decide +kernel
theorem dX9_wipe_4 : decode cX9_wipe 4 = .ok (.getfield 223, 3) := by decide +kernel
theorem dX9_wipe_7 : decode cX9_wipe 7 = .ok (.istore_n 1, 1) := by decide +kernel
theorem dX9_wipe_8 : decode cX9_wipe 8 = .ok (.aload_n 0, 1) := by decide +kernel
theorem dX9_wipe_9 : decode cX9_wipe 9 = .ok (.getfield 63, 3) := by decide +kernel
theorem dX9_wipe_12 : decode cX9_wipe 12 = .ok (.iconst 0, 1) := by decide +kernel
theorem dX9_wipe_13 : decode cX9_wipe 13 = .ok (.putfield 223, 3) := by decide +kernel
theorem dX9_wipe_16 : decode cX9_wipe 16 = .ok (.iload_n 1, 1) := by decide +kernel
theorem dX9_wipe_17 : decode cX9_wipe 17 = .ok (.ireturn, 1) := by decide +kernel
theorem dX9_common_0 : decode cX9_common 0 = .ok (.aload_n 0, 1) := by decide +kernel
theorem dX9_common_1 : decode cX9_common 1 = .ok (.getfield 50, 3) := by decide +kernel
theorem dX9_common_4 : decode cX9_common 4 = .ok (.aload_n 0, 1) := by decide +kernel
theorem dX9_common_5 : decode cX9_common 5 = .ok (.getfield 44, 3) := by decide +kernel
theorem dX9_common_8 : decode cX9_common 8 = .ok (.invokevirtual 200, 3) := by decide +kernel
theorem dX9_common_11 : decode cX9_common 11 = .ok (.aload_n 0, 1) := by decide +kernel
theorem dX9_common_12 : decode cX9_common 12 = .ok (.getfield 63, 3) := by decide +kernel
theorem dX9_common_15 : decode cX9_common 15 = .ok (.aload_n 0, 1) := by decide +kernel
theorem dX9_common_16 : decode cX9_common 16 = .ok (.getfield 50, 3) := by decide +kernel
theorem dX9_common_19 : decode cX9_common 19 = .ok (.invokevirtual 226, 3) := by decide +kernel
theorem dX9_common_22 : decode cX9_common 22 = .ok (.istore_n 1, 1) := by decide +kernel
theorem dX9_common_23 : decode cX9_common 23 = .ok (.aload_n 0, 1) := by decide +kernel
theorem dX9_common_24 : decode cX9_common 24 = .ok (.getfield 63, 3) := by decide +kernel
theorem dX9_common_27 : decode cX9_common 27 = .ok (.iconst 0, 1) := by decide +kernel
theorem dX9_common_28 : decode cX9_common 28 = .ok (.putfield 223, 3) := by decide +kernel
theorem dX9_common_31 : decode cX9_common 31 = .ok (.iload_n 1, 1) := by decide +kernel
theorem dX9_common_32 : decode cX9_common 32 = .ok (.ifCond .lt 14, 3) := by decide +kernel
theorem dX9_common_35 : decode cX9_common 35 = .ok (.aload_n 0, 1) := by decide +kernel
theorem dX9_common_36 : decode cX9_common 36 = .ok (.getfield 44, 3) := by decide +kernel
theorem dX9_common_39 : decode cX9_common 39 = .ok (.aload_n 0, 1) := by decide +kernel
theorem dX9_common_40 : decode cX9_common 40 = .ok (.getfield 50, 3) := by decide +kernel
theorem dX9_common_43 : decode cX9_common 43 = .ok (.invokevirtual 200, 3) := by decide +kernel
theorem dX9_common_46 : decode cX9_common 46 = .ok (.iload_n 1, 1) := by decide +kernel
theorem dX9_common_47 : decode cX9_common 47 = .ok (.ireturn, 1) := by decide +kernel
theorem dX9_sheet_0 : decode cX9_sheet 0 = .ok (.iload_n 1, 1) := by decide +kernel
theorem dX9_sheet_1 : decode cX9_sheet 1 = .ok (.invokestatic 230, 3) := by decide +kernel
theorem dX9_sheet_4 : decode cX9_sheet 4 = .ok (.ifCond .eq 10, 3) := by decide +kernel
theorem dX9_sheet_7 : decode cX9_sheet 7 = .ok (.iload_n 2, 1) := by decide +kernel
theorem dX9_sheet_8 : decode cX9_sheet 8 = .ok (.invokestatic 233, 3) := by decide +kernel
theorem dX9_sheet_11 : decode cX9_sheet 11 = .ok (.ifCond .ne 10, 3) := by decide +kernel
theorem dX9_sheet_14 : decode cX9_sheet 14 = .ok (.aload_n 0, 1) := by decide +kernel
theorem dX9_sheet_15 : decode cX9_sheet 15 = .ok (.ldc 82, 2) := by decide +kernel
theorem dX9_sheet_17 : decode cX9_sheet 17 = .ok (.invokevirtual 83, 3) := by decide +kernel
theorem dX9_sheet_20 : decode cX9_sheet 20 = .ok (.ireturn, 1) := by decide +kernel
theorem dX9_sheet_21 : decode cX9_sheet 21 = .ok (.iload_n 3, 1) := by decide +kernel
theorem dX9_sheet_22 : decode cX9_sheet 22 = .ok (.ifCond .ge 10, 3) := by decide +kernel
theorem dX9_sheet_25 : decode cX9_sheet 25 = .ok (.aload_n 0, 1) := by decide +kernel
theorem dX9_sheet_26 : decode cX9_sheet 26 = .ok (.ldc 236, 2) := by decide +kernel
theorem dX9_sheet_28 : decode cX9_sheet 28 = .ok (.invokevirtual 83, 3) := by decide +kernel
theorem dX9_sheet_31 : decode cX9_sheet 31 = .ok (.ireturn, 1) := by decide +kernel
theorem dX9_sheet_32 : decode cX9_sheet 32 = .ok (.iload_n 3, 1) := by decide +kernel
theorem dX9_sheet_33 : decode cX9_sheet 33 = .ok (.bipush 40, 2) := by decide +kernel
theorem dX9_sheet_35 : decode cX9_sheet 35 = .ok (.if_icmp .le 10, 3) := by decide +kernel
theorem dX9_sheet_38 : decode cX9_sheet 38 = .ok (.aload_n 0, 1) := by decide +kernel
theorem dX9_sheet_39 : decode cX9_sheet 39 = .ok (.ldc 82, 2) := by decide +kernel
theorem dX9_sheet_41 : decode cX9_sheet 41 = .ok (.invokevirtual 83, 3) := by decide +kernel
theorem dX9_sheet_44 : decode cX9_sheet 44 = .ok (.ireturn, 1) := by decide +kernel
theorem dX9_sheet_45 : decode cX9_sheet 45 = .ok (.aload_n 0, 1) := by decide +kernel
theorem dX9_sheet_46 : decode cX9_sheet 46 = .ok (.getfield 69, 3) := by decide +kernel
theorem dX9_sheet_49 : decode cX9_sheet 49 = .ok (.iload_n 1, 1) := by decide +kernel
theorem dX9_sheet_50 : decode cX9_sheet 50 = .ok (.aaload, 1) := by decide +kernel
theorem dX9_sheet_51 : decode cX9_sheet 51 = .ok (.iload_n 2, 1) := by decide +kernel
theorem dX9_sheet_52 : decode cX9_sheet 52 = .ok (.iload_n 3, 1) := by decide +kernel
theorem dX9_sheet_53 : decode cX9_sheet 53 = .ok (.invokevirtual 237, 3) := by decide +kernel
theorem dX9_sheet_56 : decode cX9_sheet 56 = .ok (.aload_n 0, 1) := by decide +kernel
theorem dX9_sheet_57 : decode cX9_sheet 57 = .ok (.getfield 69, 3) := by decide +kernel
theorem dX9_sheet_60 : decode cX9_sheet 60 = .ok (.iload_n 1, 1) := by decide +kernel
theorem dX9_sheet_61 : decode cX9_sheet 61 = .ok (.aaload, 1) := by decide +kernel
theorem dX9_sheet_62 : decode cX9_sheet 62 = .ok (.getfield 240, 3) := by decide +kernel
theorem dX9_sheet_65 : decode cX9_sheet 65 = .ok (.ireturn, 1) := by decide +kernel
theorem dX9_write_0 : decode cX9_write 0 = .ok (.iload_n 1, 1) := by decide +kernel
theorem dX9_write_1 : decode cX9_write 1 = .ok (.invokestatic 230, 3) := by decide +kernel
theorem dX9_write_4 : decode cX9_write 4 = .ok (.ifCond .ne 11, 3) := by decide +kernel
theorem dX9_write_7 : decode cX9_write 7 = .ok (.aload_n 0, 1) := by decide +kernel
theorem dX9_write_8 : decode cX9_write 8 = .ok (.ldc 82, 2) := by decide +kernel
theorem dX9_write_10 : decode cX9_write 10 = .ok (.invokevirtual 83, 3) := by decide +kernel
theorem dX9_write_13 : decode cX9_write 13 = .ok (.i2l, 1) := by decide +kernel
theorem dX9_write_14 : decode cX9_write 14 = .ok (.lreturn, 1) := by decide +kernel
theorem dX9_write_15 : decode cX9_write 15 = .ok (.aload_n 0, 1) := by decide +kernel
theorem dX9_write_16 : decode cX9_write 16 = .ok (.getfield 69, 3) := by decide +kernel
theorem dX9_write_19 : decode cX9_write 19 = .ok (.iload_n 1, 1) := by decide +kernel
theorem dX9_write_20 : decode cX9_write 20 = .ok (.aaload, 1) := by decide +kernel
theorem dX9_write_21 : decode cX9_write 21 = .ok (.astore 5, 2) := by decide +kernel
theorem dX9_write_23 : decode cX9_write 23 = .ok (.aload 5, 2) := by decide +kernel
theorem dX9_write_25 : decode cX9_write 25 = .ok (.invokevirtual 241, 3) := by decide +kernel
theorem dX9_write_28 : decode cX9_write 28 = .ok (.ifCond .eq 11, 3) := by decide +kernel
theorem dX9_write_31 : decode cX9_write 31 = .ok (.aload_n 0, 1) := by decide +kernel
theorem dX9_write_32 : decode cX9_write 32 = .ok (.ldc 244, 2) := by decide +kernel
theorem dX9_write_34 : decode cX9_write 34 = .ok (.invokevirtual 83, 3) := by decide +kernel
theorem dX9_write_37 : decode cX9_write 37 = .ok (.i2l, 1) := by decide +kernel
theorem dX9_write_38 : decode cX9_write 38 = .ok (.lreturn, 1) := by decide +kernel
theorem dX9_write_39 : decode cX9_write 39 = .ok (.iload_n 2, 1) := by decide +kernel
theorem dX9_write_40 : decode cX9_write 40 = .ok (.iconst 0, 1) := by decide +kernel
theorem dX9_write_41 : decode cX9_write 41 = .ok (.aload 5, 2) := by decide +kernel
theorem dX9_write_43 : decode cX9_write 43 = .ok (.getfield 240, 3) := by decide +kernel
theorem dX9_write_46 : decode cX9_write 46 = .ok (.iconst 1, 1) := by decide +kernel
theorem dX9_write_47 : decode cX9_write 47 = .ok (.isub, 1) := by decide +kernel
theorem dX9_write_48 : decode cX9_write 48 = .ok (.invokestatic 87, 3) := by decide +kernel
theorem dX9_write_51 : decode cX9_write 51 = .ok (.ifCond .ne 11, 3) := by decide +kernel
theorem dX9_write_54 : decode cX9_write 54 = .ok (.aload_n 0, 1) := by decide +kernel
theorem dX9_write_55 : decode cX9_write 55 = .ok (.ldc 82, 2) := by decide +kernel
theorem dX9_write_57 : decode cX9_write 57 = .ok (.invokevirtual 83, 3) := by decide +kernel
theorem dX9_write_60 : decode cX9_write 60 = .ok (.i2l, 1) := by decide +kernel
theorem dX9_write_61 : decode cX9_write 61 = .ok (.lreturn, 1) := by decide +kernel
theorem dX9_write_62 : decode cX9_write 62 = .ok (.aload 5, 2) := by decide +kernel
theorem dX9_write_64 : decode cX9_write 64 = .ok (.getfield 245, 3) := by decide +kernel
theorem dX9_write_67 : decode cX9_write 67 = .ok (.iload_n 2, 1) := by decide +kernel
theorem dX9_write_68 : decode cX9_write 68 = .ok (.laload, 1) := by decide +kernel
theorem dX9_write_69 : decode cX9_write 69 = .ok (.lstore 6, 2) := by decide +kernel
theorem dX9_write_71 : decode cX9_write 71 = .ok (.aload 5, 2) := by decide +kernel
theorem dX9_write_73 : decode cX9_write 73 = .ok (.iload_n 2, 1) := by decide +kernel
theorem dX9_write_74 : decode cX9_write 74 = .ok (.lload_n 3, 1) := by decide +kernel
theorem dX9_write_75 : decode cX9_write 75 = .ok (.invokevirtual 249, 3) := by decide +kernel
theorem dX9_write_78 : decode cX9_write 78 = .ok (.lload 6, 2) := by decide +kernel
theorem dX9_write_80 : decode cX9_write 80 = .ok (.lreturn, 1) := by decide +kernel
theorem dX9_copy_0 : decode cX9_copy 0 = .ok (.iload_n 1, 1) := by decide +kernel
theorem dX9_copy_1 : decode cX9_copy 1 = .ok (.invokestatic 230, 3) := by decide +kernel
theorem dX9_copy_4 : decode cX9_copy 4 = .ok (.ifCond .eq 10, 3) := by decide +kernel
theorem dX9_copy_7 : decode cX9_copy 7 = .ok (.iload_n 3, 1) := by decide +kernel
theorem dX9_copy_8 : decode cX9_copy 8 = .ok (.invokestatic 230, 3) := by decide +kernel
theorem dX9_copy_11 : decode cX9_copy 11 = .ok (.ifCond .ne 10, 3) := by decide +kernel
theorem dX9_copy_14 : decode cX9_copy 14 = .ok (.aload_n 0, 1) := by decide +kernel
theorem dX9_copy_15 : decode cX9_copy 15 = .ok (.ldc 82, 2) := by decide +kernel
theorem dX9_copy_17 : decode cX9_copy 17 = .ok (.invokevirtual 83, 3) := by decide +kernel
theorem dX9_copy_20 : decode cX9_copy 20 = .ok (.ireturn, 1) := by decide +kernel
theorem dX9_copy_21 : decode cX9_copy 21 = .ok (.aload_n 0, 1) := by decide +kernel
theorem dX9_copy_22 : decode cX9_copy 22 = .ok (.getfield 69, 3) := by decide +kernel
theorem dX9_copy_25 : decode cX9_copy 25 = .ok (.iload_n 1, 1) := by decide +kernel
theorem dX9_copy_26 : decode cX9_copy 26 = .ok (.aaload, 1) := by decide +kernel
theorem dX9_copy_27 : decode cX9_copy 27 = .ok (.astore 6, 2) := by decide +kernel
theorem dX9_copy_29 : decode cX9_copy 29 = .ok (.aload_n 0, 1) := by decide +kernel
theorem dX9_copy_30 : decode cX9_copy 30 = .ok (.getfield 69, 3) := by decide +kernel
theorem dX9_copy_33 : decode cX9_copy 33 = .ok (.iload_n 3, 1) := by decide +kernel
theorem dX9_copy_34 : decode cX9_copy 34 = .ok (.aaload, 1) := by decide +kernel
theorem dX9_copy_35 : decode cX9_copy 35 = .ok (.astore 7, 2) := by decide +kernel
theorem dX9_copy_37 : decode cX9_copy 37 = .ok (.aload 6, 2) := by decide +kernel
theorem dX9_copy_39 : decode cX9_copy 39 = .ok (.invokevirtual 241, 3) := by decide +kernel
theorem dX9_copy_42 : decode cX9_copy 42 = .ok (.ifCond .ne 11, 3) := by decide +kernel
theorem dX9_copy_45 : decode cX9_copy 45 = .ok (.aload 7, 2) := by decide +kernel
theorem dX9_copy_47 : decode cX9_copy 47 = .ok (.invokevirtual 241, 3) := by decide +kernel
theorem dX9_copy_50 : decode cX9_copy 50 = .ok (.ifCond .eq 10, 3) := by decide +kernel
theorem dX9_copy_53 : decode cX9_copy 53 = .ok (.aload_n 0, 1) := by decide +kernel
theorem dX9_copy_54 : decode cX9_copy 54 = .ok (.ldc 244, 2) := by decide +kernel
theorem dX9_copy_56 : decode cX9_copy 56 = .ok (.invokevirtual 83, 3) := by decide +kernel
theorem dX9_copy_59 : decode cX9_copy 59 = .ok (.ireturn, 1) := by decide +kernel
theorem dX9_copy_60 : decode cX9_copy 60 = .ok (.aload 6, 2) := by decide +kernel
theorem dX9_copy_62 : decode cX9_copy 62 = .ok (.getfield 253, 3) := by decide +kernel
theorem dX9_copy_65 : decode cX9_copy 65 = .ok (.aload 7, 2) := by decide +kernel
theorem dX9_copy_67 : decode cX9_copy 67 = .ok (.getfield 253, 3) := by decide +kernel
theorem dX9_copy_70 : decode cX9_copy 70 = .ok (.if_icmp .eq 10, 3) := by decide +kernel
theorem dX9_copy_73 : decode cX9_copy 73 = .ok (.aload_n 0, 1) := by decide +kernel
theorem dX9_copy_74 : decode cX9_copy 74 = .ok (.ldc 169, 2) := by decide +kernel
theorem dX9_copy_76 : decode cX9_copy 76 = .ok (.invokevirtual 83, 3) := by decide +kernel
theorem dX9_copy_79 : decode cX9_copy 79 = .ok (.ireturn, 1) := by decide +kernel
theorem dX9_copy_80 : decode cX9_copy 80 = .ok (.aload 6, 2) := by decide +kernel
theorem dX9_copy_82 : decode cX9_copy 82 = .ok (.iload_n 2, 1) := by decide +kernel
theorem dX9_copy_83 : decode cX9_copy 83 = .ok (.iload 5, 2) := by decide +kernel
theorem dX9_copy_85 : decode cX9_copy 85 = .ok (.invokevirtual 256, 3) := by decide +kernel
theorem dX9_copy_88 : decode cX9_copy 88 = .ok (.ifCond .eq 15, 3) := by decide +kernel
theorem dX9_copy_91 : decode cX9_copy 91 = .ok (.aload 7, 2) := by decide +kernel
theorem dX9_copy_93 : decode cX9_copy 93 = .ok (.iload 4, 2) := by decide +kernel
theorem dX9_copy_95 : decode cX9_copy 95 = .ok (.iload 5, 2) := by decide +kernel
theorem dX9_copy_97 : decode cX9_copy 97 = .ok (.invokevirtual 256, 3) := by decide +kernel
theorem dX9_copy_100 : decode cX9_copy 100 = .ok (.ifCond .ne 10, 3) := by decide +kernel
theorem dX9_copy_103 : decode cX9_copy 103 = .ok (.aload_n 0, 1) := by decide +kernel
theorem dX9_copy_104 : decode cX9_copy 104 = .ok (.ldc 82, 2) := by decide +kernel
theorem dX9_copy_106 : decode cX9_copy 106 = .ok (.invokevirtual 83, 3) := by decide +kernel
theorem dX9_copy_109 : decode cX9_copy 109 = .ok (.ireturn, 1) := by decide +kernel
theorem dX9_copy_110 : decode cX9_copy 110 = .ok (.aload 6, 2) := by decide +kernel
theorem dX9_copy_112 : decode cX9_copy 112 = .ok (.getfield 245, 3) := by decide +kernel
theorem dX9_copy_115 : decode cX9_copy 115 = .ok (.iload_n 2, 1) := by decide +kernel
theorem dX9_copy_116 : decode cX9_copy 116 = .ok (.aload 7, 2) := by decide +kernel
theorem dX9_copy_118 : decode cX9_copy 118 = .ok (.getfield 245, 3) := by decide +kernel
theorem dX9_copy_121 : decode cX9_copy 121 = .ok (.iload 4, 2) := by decide +kernel
theorem dX9_copy_123 : decode cX9_copy 123 = .ok (.iload 5, 2) := by decide +kernel
theorem dX9_copy_125 : decode cX9_copy 125 = .ok (.invokestatic 259, 3) := by decide +kernel
theorem dX9_copy_128 : decode cX9_copy 128 = .ok (.iload 5, 2) := by decide +kernel
theorem dX9_copy_130 : decode cX9_copy 130 = .ok (.ireturn, 1) := by decide +kernel
theorem dX9_lays_0 : decode cX9_lays 0 = .ok (.iload_n 1, 1) := by decide +kernel
theorem dX9_lays_1 : decode cX9_lays 1 = .ok (.invokestatic 230, 3) := by decide +kernel
theorem dX9_lays_4 : decode cX9_lays 4 = .ok (.ifCond .ne 10, 3) := by decide +kernel
theorem dX9_lays_7 : decode cX9_lays 7 = .ok (.aload_n 0, 1) := by decide +kernel
theorem dX9_lays_8 : decode cX9_lays 8 = .ok (.ldc 82, 2) := by decide +kernel
theorem dX9_lays_10 : decode cX9_lays 10 = .ok (.invokevirtual 83, 3) := by decide +kernel
theorem dX9_lays_13 : decode cX9_lays 13 = .ok (.ireturn, 1) := by decide +kernel
theorem dX9_lays_14 : decode cX9_lays 14 = .ok (.aload_n 0, 1) := by decide +kernel
theorem dX9_lays_15 : decode cX9_lays 15 = .ok (.getfield 69, 3) := by decide +kernel
theorem dX9_lays_18 : decode cX9_lays 18 = .ok (.iload_n 1, 1) := by decide +kernel
theorem dX9_lays_19 : decode cX9_lays 19 = .ok (.aaload, 1) := by decide +kernel
theorem dX9_lays_20 : decode cX9_lays 20 = .ok (.astore_n 2, 1) := by decide +kernel
theorem dX9_lays_21 : decode cX9_lays 21 = .ok (.aload_n 2, 1) := by decide +kernel
theorem dX9_lays_22 : decode cX9_lays 22 = .ok (.invokevirtual 241, 3) := by decide +kernel
theorem dX9_lays_25 : decode cX9_lays 25 = .ok (.ifCond .eq 10, 3) := by decide +kernel
theorem dX9_lays_28 : decode cX9_lays 28 = .ok (.aload_n 0, 1) := by decide +kernel
theorem dX9_lays_29 : decode cX9_lays 29 = .ok (.ldc 244, 2) := by decide +kernel
theorem dX9_lays_31 : decode cX9_lays 31 = .ok (.invokevirtual 83, 3) := by decide +kernel
theorem dX9_lays_34 : decode cX9_lays 34 = .ok (.ireturn, 1) := by decide +kernel
theorem dX9_lays_35 : decode cX9_lays 35 = .ok (.iconst 0, 1) := by decide +kernel
theorem dX9_lays_36 : decode cX9_lays 36 = .ok (.istore_n 3, 1) := by decide +kernel
theorem dX9_lays_37 : decode cX9_lays 37 = .ok (.iconst 0, 1) := by decide +kernel
theorem dX9_lays_38 : decode cX9_lays 38 = .ok (.istore 4, 2) := by decide +kernel
theorem dX9_lays_40 : decode cX9_lays 40 = .ok (.iload 4, 2) := by decide +kernel
theorem dX9_lays_42 : decode cX9_lays 42 = .ok (.bipush 6, 2) := by decide +kernel
theorem dX9_lays_44 : decode cX9_lays 44 = .ok (.if_icmp .ge 59, 3) := by decide +kernel
theorem dX9_lays_47 : decode cX9_lays 47 = .ok (.iload 4, 2) := by decide +kernel
theorem dX9_lays_49 : decode cX9_lays 49 = .ok (.aload_n 2, 1) := by decide +kernel
theorem dX9_lays_50 : decode cX9_lays 50 = .ok (.getfield 240, 3) := by decide +kernel
theorem dX9_lays_53 : decode cX9_lays 53 = .ok (.if_icmp .ge 50, 3) := by decide +kernel
theorem dX9_lays_56 : decode cX9_lays 56 = .ok (.aload_n 2, 1) := by decide +kernel
theorem dX9_lays_57 : decode cX9_lays 57 = .ok (.getfield 245, 3) := by decide +kernel
theorem dX9_lays_60 : decode cX9_lays 60 = .ok (.iload 4, 2) := by decide +kernel
theorem dX9_lays_62 : decode cX9_lays 62 = .ok (.laload, 1) := by decide +kernel
theorem dX9_lays_63 : decode cX9_lays 63 = .ok (.lstore 5, 2) := by decide +kernel
theorem dX9_lays_65 : decode cX9_lays 65 = .ok (.lload 5, 2) := by decide +kernel
theorem dX9_lays_67 : decode cX9_lays 67 = .ok (.lconst 0, 1) := by decide +kernel
theorem dX9_lays_68 : decode cX9_lays 68 = .ok (.lcmp, 1) := by decide +kernel
theorem dX9_lays_69 : decode cX9_lays 69 = .ok (.ifCond .lt 28, 3) := by decide +kernel
theorem dX9_lays_72 : decode cX9_lays 72 = .ok (.lload 5, 2) := by decide +kernel
theorem dX9_lays_74 : decode cX9_lays 74 = .ok (.ldc2_w 265, 3) := by decide +kernel
theorem dX9_lays_77 : decode cX9_lays 77 = .ok (.lcmp, 1) := by decide +kernel
theorem dX9_lays_78 : decode cX9_lays 78 = .ok (.ifCond .gt 19, 3) := by decide +kernel
theorem dX9_lays_81 : decode cX9_lays 81 = .ok (.aload_n 0, 1) := by decide +kernel
theorem dX9_lays_82 : decode cX9_lays 82 = .ok (.getfield 44, 3) := by decide +kernel
theorem dX9_lays_85 : decode cX9_lays 85 = .ok (.getfield 91, 3) := by decide +kernel
theorem dX9_lays_88 : decode cX9_lays 88 = .ok (.iload 4, 2) := by decide +kernel
theorem dX9_lays_90 : decode cX9_lays 90 = .ok (.lload 5, 2) := by decide +kernel
theorem dX9_lays_92 : decode cX9_lays 92 = .ok (.l2i, 1) := by decide +kernel
theorem dX9_lays_93 : decode cX9_lays 93 = .ok (.iastore, 1) := by decide +kernel
theorem dX9_lays_94 : decode cX9_lays 94 = .ok (.iinc 3 1, 3) := by decide +kernel
theorem dX9_lays_97 : decode cX9_lays 97 = .ok (.iinc 4 1, 3) := by decide +kernel
theorem dX9_lays_100 : decode cX9_lays 100 = .ok (.goto (-60), 3) := by decide +kernel
theorem dX9_lays_103 : decode cX9_lays 103 = .ok (.iload_n 3, 1) := by decide +kernel
theorem dX9_lays_104 : decode cX9_lays 104 = .ok (.ireturn, 1) := by decide +kernel
theorem dX9_book_0 : decode cX9_book 0 = .ok (.iload_n 1, 1) := by decide +kernel
theorem dX9_book_1 : decode cX9_book 1 = .ok (.invokestatic 230, 3) := by decide +kernel
theorem dX9_book_4 : decode cX9_book 4 = .ok (.ifCond .ne 10, 3) := by decide +kernel
theorem dX9_book_7 : decode cX9_book 7 = .ok (.aload_n 0, 1) := by decide +kernel
theorem dX9_book_8 : decode cX9_book 8 = .ok (.ldc 82, 2) := by decide +kernel
theorem dX9_book_10 : decode cX9_book 10 = .ok (.invokevirtual 83, 3) := by decide +kernel
theorem dX9_book_13 : decode cX9_book 13 = .ok (.ireturn, 1) := by decide +kernel
theorem dX9_book_14 : decode cX9_book 14 = .ok (.aload_n 0, 1) := by decide +kernel
theorem dX9_book_15 : decode cX9_book 15 = .ok (.getfield 69, 3) := by decide +kernel
theorem dX9_book_18 : decode cX9_book 18 = .ok (.iload_n 1, 1) := by decide +kernel
theorem dX9_book_19 : decode cX9_book 19 = .ok (.aaload, 1) := by decide +kernel
theorem dX9_book_20 : decode cX9_book 20 = .ok (.astore_n 3, 1) := by decide +kernel
theorem dX9_book_21 : decode cX9_book 21 = .ok (.aload_n 3, 1) := by decide +kernel
theorem dX9_book_22 : decode cX9_book 22 = .ok (.invokevirtual 241, 3) := by decide +kernel
theorem dX9_book_25 : decode cX9_book 25 = .ok (.ifCond .eq 10, 3) := by decide +kernel
theorem dX9_book_28 : decode cX9_book 28 = .ok (.aload_n 0, 1) := by decide +kernel
theorem dX9_book_29 : decode cX9_book 29 = .ok (.ldc 244, 2) := by decide +kernel
theorem dX9_book_31 : decode cX9_book 31 = .ok (.invokevirtual 83, 3) := by decide +kernel
theorem dX9_book_34 : decode cX9_book 34 = .ok (.ireturn, 1) := by decide +kernel
theorem dX9_book_35 : decode cX9_book 35 = .ok (.aload_n 0, 1) := by decide +kernel
theorem dX9_book_36 : decode cX9_book 36 = .ok (.iload_n 2, 1) := by decide +kernel
theorem dX9_book_37 : decode cX9_book 37 = .ok (.invokevirtual 132, 3) := by decide +kernel
theorem dX9_book_40 : decode cX9_book 40 = .ok (.ifCond .ne 10, 3) := by decide +kernel
theorem dX9_book_43 : decode cX9_book 43 = .ok (.aload_n 0, 1) := by decide +kernel
theorem dX9_book_44 : decode cX9_book 44 = .ok (.ldc 82, 2) := by decide +kernel
theorem dX9_book_46 : decode cX9_book 46 = .ok (.invokevirtual 83, 3) := by decide +kernel
theorem dX9_book_49 : decode cX9_book 49 = .ok (.ireturn, 1) := by decide +kernel
theorem dX9_book_50 : decode cX9_book 50 = .ok (.aload_n 0, 1) := by decide +kernel
theorem dX9_book_51 : decode cX9_book 51 = .ok (.getfield 50, 3) := by decide +kernel
theorem dX9_book_54 : decode cX9_book 54 = .ok (.aload_n 0, 1) := by decide +kernel
theorem dX9_book_55 : decode cX9_book 55 = .ok (.getfield 44, 3) := by decide +kernel
theorem dX9_book_58 : decode cX9_book 58 = .ok (.invokevirtual 200, 3) := by decide +kernel
theorem dX9_book_61 : decode cX9_book 61 = .ok (.iconst 0, 1) := by decide +kernel
theorem dX9_book_62 : decode cX9_book 62 = .ok (.istore 4, 2) := by decide +kernel
theorem dX9_book_64 : decode cX9_book 64 = .ok (.iload 4, 2) := by decide +kernel
theorem dX9_book_66 : decode cX9_book 66 = .ok (.aload_n 3, 1) := by decide +kernel
theorem dX9_book_67 : decode cX9_book 67 = .ok (.getfield 240, 3) := by decide +kernel
theorem dX9_book_70 : decode cX9_book 70 = .ok (.if_icmp .ge 32, 3) := by decide +kernel
theorem dX9_book_73 : decode cX9_book 73 = .ok (.aload_n 3, 1) := by decide +kernel
theorem dX9_book_74 : decode cX9_book 74 = .ok (.iload 4, 2) := by decide +kernel
theorem dX9_book_76 : decode cX9_book 76 = .ok (.aload_n 0, 1) := by decide +kernel
theorem dX9_book_77 : decode cX9_book 77 = .ok (.getfield 50, 3) := by decide +kernel
theorem dX9_book_80 : decode cX9_book 80 = .ok (.getfield 138, 3) := by decide +kernel
theorem dX9_book_83 : decode cX9_book 83 = .ok (.iload_n 2, 1) := by decide +kernel
theorem dX9_book_84 : decode cX9_book 84 = .ok (.iaload, 1) := by decide +kernel
theorem dX9_book_85 : decode cX9_book 85 = .ok (.i2l, 1) := by decide +kernel
theorem dX9_book_86 : decode cX9_book 86 = .ok (.invokevirtual 249, 3) := by decide +kernel
theorem dX9_book_89 : decode cX9_book 89 = .ok (.aload_n 0, 1) := by decide +kernel
theorem dX9_book_90 : decode cX9_book 90 = .ok (.getfield 50, 3) := by decide +kernel
theorem dX9_book_93 : decode cX9_book 93 = .ok (.invokevirtual 207, 3) := by decide +kernel
theorem dX9_book_96 : decode cX9_book 96 = .ok (.iinc 4 1, 3) := by decide +kernel
theorem dX9_book_99 : decode cX9_book 99 = .ok (.goto (-35), 3) := by decide +kernel
theorem dX9_book_102 : decode cX9_book 102 = .ok (.aload_n 3, 1) := by decide +kernel
theorem dX9_book_103 : decode cX9_book 103 = .ok (.getfield 240, 3) := by decide +kernel
theorem dX9_book_106 : decode cX9_book 106 = .ok (.ireturn, 1) := by decide +kernel
theorem dX9_read_0 : decode cX9_read 0 = .ok (.iload_n 1, 1) := by decide +kernel
theorem dX9_read_1 : decode cX9_read 1 = .ok (.invokestatic 230, 3) := by decide +kernel
theorem dX9_read_4 : decode cX9_read 4 = .ok (.ifCond .ne 10, 3) := by decide +kernel
theorem dX9_read_7 : decode cX9_read 7 = .ok (.aload_n 0, 1) := by decide +kernel
theorem dX9_read_8 : decode cX9_read 8 = .ok (.ldc 82, 2) := by decide +kernel
theorem dX9_read_10 : decode cX9_read 10 = .ok (.invokevirtual 83, 3) := by decide +kernel
theorem dX9_read_13 : decode cX9_read 13 = .ok (.ireturn, 1) := by decide +kernel
theorem dX9_read_14 : decode cX9_read 14 = .ok (.aload_n 0, 1) := by decide +kernel
theorem dX9_read_15 : decode cX9_read 15 = .ok (.getfield 69, 3) := by decide +kernel
theorem dX9_read_18 : decode cX9_read 18 = .ok (.iload_n 1, 1) := by decide +kernel
theorem dX9_read_19 : decode cX9_read 19 = .ok (.aaload, 1) := by decide +kernel
theorem dX9_read_20 : decode cX9_read 20 = .ok (.astore 4, 2) := by decide +kernel
theorem dX9_read_22 : decode cX9_read 22 = .ok (.aload 4, 2) := by decide +kernel
theorem dX9_read_24 : decode cX9_read 24 = .ok (.invokevirtual 241, 3) := by decide +kernel
theorem dX9_read_27 : decode cX9_read 27 = .ok (.ifCond .eq 10, 3) := by decide +kernel
theorem dX9_read_30 : decode cX9_read 30 = .ok (.aload_n 0, 1) := by decide +kernel
theorem dX9_read_31 : decode cX9_read 31 = .ok (.ldc 244, 2) := by decide +kernel
theorem dX9_read_33 : decode cX9_read 33 = .ok (.invokevirtual 83, 3) := by decide +kernel
theorem dX9_read_36 : decode cX9_read 36 = .ok (.ireturn, 1) := by decide +kernel
theorem dX9_read_37 : decode cX9_read 37 = .ok (.aload_n 0, 1) := by decide +kernel
theorem dX9_read_38 : decode cX9_read 38 = .ok (.iload_n 2, 1) := by decide +kernel
theorem dX9_read_39 : decode cX9_read 39 = .ok (.invokevirtual 132, 3) := by decide +kernel
theorem dX9_read_42 : decode cX9_read 42 = .ok (.ifCond .eq 10, 3) := by decide +kernel
theorem dX9_read_45 : decode cX9_read 45 = .ok (.iload_n 3, 1) := by decide +kernel
theorem dX9_read_46 : decode cX9_read 46 = .ok (.invokestatic 78, 3) := by decide +kernel
theorem dX9_read_49 : decode cX9_read 49 = .ok (.ifCond .ne 10, 3) := by decide +kernel
theorem dX9_read_52 : decode cX9_read 52 = .ok (.aload_n 0, 1) := by decide +kernel
theorem dX9_read_53 : decode cX9_read 53 = .ok (.ldc 82, 2) := by decide +kernel
theorem dX9_read_55 : decode cX9_read 55 = .ok (.invokevirtual 83, 3) := by decide +kernel
theorem dX9_read_58 : decode cX9_read 58 = .ok (.ireturn, 1) := by decide +kernel
theorem dX9_read_59 : decode cX9_read 59 = .ok (.iconst 0, 1) := by decide +kernel
theorem dX9_read_60 : decode cX9_read 60 = .ok (.istore 5, 2) := by decide +kernel
theorem dX9_read_62 : decode cX9_read 62 = .ok (.iconst 0, 1) := by decide +kernel
theorem dX9_read_63 : decode cX9_read 63 = .ok (.istore 6, 2) := by decide +kernel
theorem dX9_read_65 : decode cX9_read 65 = .ok (.iload 6, 2) := by decide +kernel
theorem dX9_read_67 : decode cX9_read 67 = .ok (.bipush 6, 2) := by decide +kernel
theorem dX9_read_69 : decode cX9_read 69 = .ok (.if_icmp .ge 71, 3) := by decide +kernel
theorem dX9_read_72 : decode cX9_read 72 = .ok (.iconst 0, 1) := by decide +kernel
theorem dX9_read_73 : decode cX9_read 73 = .ok (.istore 7, 2) := by decide +kernel
theorem dX9_read_75 : decode cX9_read 75 = .ok (.iload 7, 2) := by decide +kernel
theorem dX9_read_77 : decode cX9_read 77 = .ok (.bipush 20, 2) := by decide +kernel
theorem dX9_read_79 : decode cX9_read 79 = .ok (.if_icmp .gt 55, 3) := by decide +kernel
theorem dX9_read_82 : decode cX9_read 82 = .ok (.aload_n 0, 1) := by decide +kernel
theorem dX9_read_83 : decode cX9_read 83 = .ok (.getfield 50, 3) := by decide +kernel
theorem dX9_read_86 : decode cX9_read 86 = .ok (.aload_n 0, 1) := by decide +kernel
theorem dX9_read_87 : decode cX9_read 87 = .ok (.getfield 44, 3) := by decide +kernel
theorem dX9_read_90 : decode cX9_read 90 = .ok (.invokevirtual 200, 3) := by decide +kernel
theorem dX9_read_93 : decode cX9_read 93 = .ok (.aload_n 0, 1) := by decide +kernel
theorem dX9_read_94 : decode cX9_read 94 = .ok (.getfield 50, 3) := by decide +kernel
theorem dX9_read_97 : decode cX9_read 97 = .ok (.getfield 135, 3) := by decide +kernel
theorem dX9_read_100 : decode cX9_read 100 = .ok (.iload_n 2, 1) := by decide +kernel
theorem dX9_read_101 : decode cX9_read 101 = .ok (.iload 6, 2) := by decide +kernel
theorem dX9_read_103 : decode cX9_read 103 = .ok (.iastore, 1) := by decide +kernel
theorem dX9_read_104 : decode cX9_read 104 = .ok (.aload_n 0, 1) := by decide +kernel
theorem dX9_read_105 : decode cX9_read 105 = .ok (.getfield 50, 3) := by decide +kernel
theorem dX9_read_108 : decode cX9_read 108 = .ok (.getfield 91, 3) := by decide +kernel
theorem dX9_read_111 : decode cX9_read 111 = .ok (.iload_n 3, 1) := by decide +kernel
theorem dX9_read_112 : decode cX9_read 112 = .ok (.iload 7, 2) := by decide +kernel
theorem dX9_read_114 : decode cX9_read 114 = .ok (.iastore, 1) := by decide +kernel
theorem dX9_read_115 : decode cX9_read 115 = .ok (.aload_n 0, 1) := by decide +kernel
theorem dX9_read_116 : decode cX9_read 116 = .ok (.aload 4, 2) := by decide +kernel
theorem dX9_read_118 : decode cX9_read 118 = .ok (.iload_n 2, 1) := by decide +kernel
theorem dX9_read_119 : decode cX9_read 119 = .ok (.invokevirtual 267, 3) := by decide +kernel
theorem dX9_read_122 : decode cX9_read 122 = .ok (.ifCond .eq 6, 3) := by decide +kernel
theorem dX9_read_125 : decode cX9_read 125 = .ok (.iinc 5 1, 3) := by decide +kernel
theorem dX9_read_128 : decode cX9_read 128 = .ok (.iinc 7 1, 3) := by decide +kernel
theorem dX9_read_131 : decode cX9_read 131 = .ok (.goto (-56), 3) := by decide +kernel
theorem dX9_read_134 : decode cX9_read 134 = .ok (.iinc 6 1, 3) := by decide +kernel
theorem dX9_read_137 : decode cX9_read 137 = .ok (.goto (-72), 3) := by decide +kernel
theorem dX9_read_140 : decode cX9_read 140 = .ok (.iload 5, 2) := by decide +kernel
theorem dX9_read_142 : decode cX9_read 142 = .ok (.ireturn, 1) := by decide +kernel
theorem dX9_image_0 : decode cX9_image 0 = .ok (.aload_n 0, 1) := by decide +kernel
theorem dX9_image_1 : decode cX9_image 1 = .ok (.getfield 53, 3) := by decide +kernel
theorem dX9_image_4 : decode cX9_image 4 = .ok (.aload_n 0, 1) := by decide +kernel
theorem dX9_image_5 : decode cX9_image 5 = .ok (.getfield 44, 3) := by decide +kernel
theorem dX9_image_8 : decode cX9_image 8 = .ok (.invokevirtual 200, 3) := by decide +kernel
theorem dX9_image_11 : decode cX9_image 11 = .ok (.aload_n 0, 1) := by decide +kernel
theorem dX9_image_12 : decode cX9_image 12 = .ok (.iconst 1, 1) := by decide +kernel
theorem dX9_image_13 : decode cX9_image 13 = .ok (.putfield 56, 3) := by decide +kernel
theorem dX9_image_16 : decode cX9_image 16 = .ok (.iconst 1, 1) := by decide +kernel
theorem dX9_image_17 : decode cX9_image 17 = .ok (.ireturn, 1) := by decide +kernel
theorem dX9_undo_0 : decode cX9_undo 0 = .ok (.aload_n 0, 1) := by decide +kernel
theorem dX9_undo_1 : decode cX9_undo 1 = .ok (.getfield 56, 3) := by decide +kernel
theorem dX9_undo_4 : decode cX9_undo 4 = .ok (.ifCond .ne 10, 3) := by decide +kernel
theorem dX9_undo_7 : decode cX9_undo 7 = .ok (.aload_n 0, 1) := by decide +kernel
theorem dX9_undo_8 : decode cX9_undo 8 = .ok (.ldc 187, 2) := by decide +kernel
theorem dX9_undo_10 : decode cX9_undo 10 = .ok (.invokevirtual 83, 3) := by decide +kernel
theorem dX9_undo_13 : decode cX9_undo 13 = .ok (.ireturn, 1) := by decide +kernel
theorem dX9_undo_14 : decode cX9_undo 14 = .ok (.aload_n 0, 1) := by decide +kernel
theorem dX9_undo_15 : decode cX9_undo 15 = .ok (.getfield 44, 3) := by decide +kernel
theorem dX9_undo_18 : decode cX9_undo 18 = .ok (.aload_n 0, 1) := by decide +kernel
theorem dX9_undo_19 : decode cX9_undo 19 = .ok (.getfield 53, 3) := by decide +kernel
theorem dX9_undo_22 : decode cX9_undo 22 = .ok (.invokevirtual 200, 3) := by decide +kernel
theorem dX9_undo_25 : decode cX9_undo 25 = .ok (.aload_n 0, 1) := by decide +kernel
theorem dX9_undo_26 : decode cX9_undo 26 = .ok (.getfield 44, 3) := by decide +kernel
theorem dX9_undo_29 : decode cX9_undo 29 = .ok (.getfield 124, 3) := by decide +kernel
theorem dX9_undo_32 : decode cX9_undo 32 = .ok (.ireturn, 1) := by decide +kernel
theorem dX9_tear_0 : decode cX9_tear 0 = .ok (.aload_n 0, 1) := by decide +kernel
theorem dX9_tear_1 : decode cX9_tear 1 = .ok (.getfield 56, 3) := by decide +kernel
theorem dX9_tear_4 : decode cX9_tear 4 = .ok (.ifCond .eq 7, 3) := by decide +kernel
theorem dX9_tear_7 : decode cX9_tear 7 = .ok (.iconst 1, 1) := by decide +kernel
theorem dX9_tear_8 : decode cX9_tear 8 = .ok (.goto 4, 3) := by decide +kernel
theorem dX9_tear_11 : decode cX9_tear 11 = .ok (.iconst 0, 1) := by decide +kernel
theorem dX9_tear_12 : decode cX9_tear 12 = .ok (.istore_n 1, 1) := by decide +kernel
theorem dX9_tear_13 : decode cX9_tear 13 = .ok (.aload_n 0, 1) := by decide +kernel
theorem dX9_tear_14 : decode cX9_tear 14 = .ok (.iconst 0, 1) := by decide +kernel
theorem dX9_tear_15 : decode cX9_tear 15 = .ok (.putfield 56, 3) := by decide +kernel
theorem dX9_tear_18 : decode cX9_tear 18 = .ok (.iload_n 1, 1) := by decide +kernel
theorem dX9_tear_19 : decode cX9_tear 19 = .ok (.ireturn, 1) := by decide +kernel
theorem dX9_count_0 : decode cX9_count 0 = .ok (.iload_n 1, 1) := by decide +kernel
theorem dX9_count_1 : decode cX9_count 1 = .ok (.tableswitch 66 0 3 #[31, 39, 47, 58], 31) := by decide +kernel
theorem dX9_count_32 : decode cX9_count 32 = .ok (.aload_n 0, 1) := by decide +kernel
theorem dX9_count_33 : decode cX9_count 33 = .ok (.getfield 44, 3) := by decide +kernel
theorem dX9_count_36 : decode cX9_count 36 = .ok (.getfield 124, 3) := by decide +kernel
theorem dX9_count_39 : decode cX9_count 39 = .ok (.ireturn, 1) := by decide +kernel
theorem dX9_count_40 : decode cX9_count 40 = .ok (.aload_n 0, 1) := by decide +kernel
theorem dX9_count_41 : decode cX9_count 41 = .ok (.getfield 63, 3) := by decide +kernel
theorem dX9_count_44 : decode cX9_count 44 = .ok (.getfield 223, 3) := by decide +kernel
theorem dX9_count_47 : decode cX9_count 47 = .ok (.ireturn, 1) := by decide +kernel
theorem dX9_count_48 : decode cX9_count 48 = .ok (.aload_n 0, 1) := by decide +kernel
theorem dX9_count_49 : decode cX9_count 49 = .ok (.getfield 44, 3) := by decide +kernel
theorem dX9_count_52 : decode cX9_count 52 = .ok (.invokevirtual 107, 3) := by decide +kernel
theorem dX9_count_55 : decode cX9_count 55 = .ok (.invokestatic 111, 3) := by decide +kernel
theorem dX9_count_58 : decode cX9_count 58 = .ok (.ireturn, 1) := by decide +kernel
theorem dX9_count_59 : decode cX9_count 59 = .ok (.aload_n 0, 1) := by decide +kernel
theorem dX9_count_60 : decode cX9_count 60 = .ok (.getfield 44, 3) := by decide +kernel
theorem dX9_count_63 : decode cX9_count 63 = .ok (.invokevirtual 271, 3) := by decide +kernel
theorem dX9_count_66 : decode cX9_count 66 = .ok (.ireturn, 1) := by decide +kernel
theorem dX9_count_67 : decode cX9_count 67 = .ok (.aload_n 0, 1) := by decide +kernel
theorem dX9_count_68 : decode cX9_count 68 = .ok (.ldc 82, 2) := by decide +kernel
theorem dX9_count_70 : decode cX9_count 70 = .ok (.invokevirtual 83, 3) := by decide +kernel
theorem dX9_count_73 : decode cX9_count 73 = .ok (.ireturn, 1) := by decide +kernel
theorem dX9_status_0 : decode cX9_status 0 = .ok (.iload_n 1, 1) := by decide +kernel
theorem dX9_status_1 : decode cX9_status 1 = .ok (.iconst (-1), 1) := by decide +kernel
theorem dX9_status_2 : decode cX9_status 2 = .ok (.if_icmp .ne 13, 3) := by decide +kernel
theorem dX9_status_5 : decode cX9_status 5 = .ok (.aload_n 0, 1) := by decide +kernel
theorem dX9_status_6 : decode cX9_status 6 = .ok (.getfield 74, 3) := by decide +kernel
theorem dX9_status_9 : decode cX9_status 9 = .ok (.bipush 7, 2) := by decide +kernel
theorem dX9_status_11 : decode cX9_status 11 = .ok (.invokestatic 274, 3) := by decide +kernel
theorem dX9_status_14 : decode cX9_status 14 = .ok (.ireturn, 1) := by decide +kernel
theorem dX9_status_15 : decode cX9_status 15 = .ok (.iload_n 1, 1) := by decide +kernel
theorem dX9_status_16 : decode cX9_status 16 = .ok (.iconst 0, 1) := by decide +kernel
theorem dX9_status_17 : decode cX9_status 17 = .ok (.bipush 6, 2) := by decide +kernel
theorem dX9_status_19 : decode cX9_status 19 = .ok (.invokestatic 87, 3) := by decide +kernel
theorem dX9_status_22 : decode cX9_status 22 = .ok (.ifCond .ne 10, 3) := by decide +kernel
theorem dX9_status_25 : decode cX9_status 25 = .ok (.aload_n 0, 1) := by decide +kernel
theorem dX9_status_26 : decode cX9_status 26 = .ok (.ldc 82, 2) := by decide +kernel
theorem dX9_status_28 : decode cX9_status 28 = .ok (.invokevirtual 83, 3) := by decide +kernel
theorem dX9_status_31 : decode cX9_status 31 = .ok (.ireturn, 1) := by decide +kernel
theorem dX9_status_32 : decode cX9_status 32 = .ok (.aload_n 0, 1) := by decide +kernel
theorem dX9_status_33 : decode cX9_status 33 = .ok (.getfield 74, 3) := by decide +kernel
theorem dX9_status_36 : decode cX9_status 36 = .ok (.iload_n 1, 1) := by decide +kernel
theorem dX9_status_37 : decode cX9_status 37 = .ok (.iaload, 1) := by decide +kernel
theorem dX9_status_38 : decode cX9_status 38 = .ok (.ireturn, 1) := by decide +kernel
theorem dX9_found_0 : decode cX9_found 0 = .ok (.ldc 82, 2) := by decide +kernel
theorem dX9_found_2 : decode cX9_found 2 = .ok (.iload_n 1, 1) := by decide +kernel
theorem dX9_found_3 : decode cX9_found 3 = .ok (.isub, 1) := by decide +kernel
theorem dX9_found_4 : decode cX9_found 4 = .ok (.istore_n 2, 1) := by decide +kernel
theorem dX9_found_5 : decode cX9_found 5 = .ok (.iload_n 2, 1) := by decide +kernel
theorem dX9_found_6 : decode cX9_found 6 = .ok (.iconst 0, 1) := by decide +kernel
theorem dX9_found_7 : decode cX9_found 7 = .ok (.bipush 6, 2) := by decide +kernel
theorem dX9_found_9 : decode cX9_found 9 = .ok (.invokestatic 87, 3) := by decide +kernel
theorem dX9_found_12 : decode cX9_found 12 = .ok (.ifCond .eq 13, 3) := by decide +kernel
theorem dX9_found_15 : decode cX9_found 15 = .ok (.aload_n 0, 1) := by decide +kernel
theorem dX9_found_16 : decode cX9_found 16 = .ok (.getfield 74, 3) := by decide +kernel
theorem dX9_found_19 : decode cX9_found 19 = .ok (.iload_n 2, 1) := by decide +kernel
theorem dX9_found_20 : decode cX9_found 20 = .ok (.dup2, 1) := by decide +kernel
theorem dX9_found_21 : decode cX9_found 21 = .ok (.iaload, 1) := by decide +kernel
theorem dX9_found_22 : decode cX9_found 22 = .ok (.iconst 1, 1) := by decide +kernel
theorem dX9_found_23 : decode cX9_found 23 = .ok (.iadd, 1) := by decide +kernel
theorem dX9_found_24 : decode cX9_found 24 = .ok (.iastore, 1) := by decide +kernel
theorem dX9_found_25 : decode cX9_found 25 = .ok (.iload_n 1, 1) := by decide +kernel
theorem dX9_found_26 : decode cX9_found 26 = .ok (.ireturn, 1) := by decide +kernel
theorem dX9_isThing_0 : decode cX9_isThing 0 = .ok (.iload_n 1, 1) := by decide +kernel
theorem dX9_isThing_1 : decode cX9_isThing 1 = .ok (.iconst 0, 1) := by decide +kernel
theorem dX9_isThing_2 : decode cX9_isThing 2 = .ok (.aload_n 0, 1) := by decide +kernel
theorem dX9_isThing_3 : decode cX9_isThing 3 = .ok (.getfield 44, 3) := by decide +kernel
theorem dX9_isThing_6 : decode cX9_isThing 6 = .ok (.getfield 124, 3) := by decide +kernel
theorem dX9_isThing_9 : decode cX9_isThing 9 = .ok (.iconst 1, 1) := by decide +kernel
theorem dX9_isThing_10 : decode cX9_isThing 10 = .ok (.isub, 1) := by decide +kernel
theorem dX9_isThing_11 : decode cX9_isThing 11 = .ok (.invokestatic 87, 3) := by decide +kernel
theorem dX9_isThing_14 : decode cX9_isThing 14 = .ok (.ireturn, 1) := by decide +kernel
theorem dX9_trialYearsToFinish_0 : decode cX9_trialYearsToFinish 0 = .ok (.iconst 0, 1) := by decide +kernel
theorem dX9_trialYearsToFinish_1 : decode cX9_trialYearsToFinish 1 = .ok (.istore_n 3, 1) := by decide +kernel
theorem dX9_trialYearsToFinish_2 : decode cX9_trialYearsToFinish 2 = .ok (.iload_n 3, 1) := by decide +kernel
theorem dX9_trialYearsToFinish_3 : decode cX9_trialYearsToFinish 3 = .ok (.iload_n 2, 1) := by decide +kernel
theorem dX9_trialYearsToFinish_4 : decode cX9_trialYearsToFinish 4 = .ok (.if_icmp .gt 29, 3) := by decide +kernel
theorem dX9_trialYearsToFinish_7 : decode cX9_trialYearsToFinish 7 = .ok (.aload_n 0, 1) := by decide +kernel
theorem dX9_trialYearsToFinish_8 : decode cX9_trialYearsToFinish 8 = .ok (.getfield 50, 3) := by decide +kernel
theorem dX9_trialYearsToFinish_11 : decode cX9_trialYearsToFinish 11 = .ok (.iload_n 1, 1) := by decide +kernel
theorem dX9_trialYearsToFinish_12 : decode cX9_trialYearsToFinish 12 = .ok (.invokevirtual 213, 3) := by decide +kernel
theorem dX9_trialYearsToFinish_15 : decode cX9_trialYearsToFinish 15 = .ok (.ifCond .eq 5, 3) := by decide +kernel
theorem dX9_trialYearsToFinish_18 : decode cX9_trialYearsToFinish 18 = .ok (.iload_n 3, 1) := by decide +kernel
theorem dX9_trialYearsToFinish_19 : decode cX9_trialYearsToFinish 19 = .ok (.ireturn, 1) := by decide +kernel
theorem dX9_trialYearsToFinish_20 : decode cX9_trialYearsToFinish 20 = .ok (.aload_n 0, 1) := by decide +kernel
theorem dX9_trialYearsToFinish_21 : decode cX9_trialYearsToFinish 21 = .ok (.getfield 50, 3) := by decide +kernel
theorem dX9_trialYearsToFinish_24 : decode cX9_trialYearsToFinish 24 = .ok (.invokevirtual 207, 3) := by decide +kernel
theorem dX9_trialYearsToFinish_27 : decode cX9_trialYearsToFinish 27 = .ok (.iinc 3 1, 3) := by decide +kernel
theorem dX9_trialYearsToFinish_30 : decode cX9_trialYearsToFinish 30 = .ok (.goto (-28), 3) := by decide +kernel
theorem dX9_trialYearsToFinish_33 : decode cX9_trialYearsToFinish 33 = .ok (.iconst (-1), 1) := by decide +kernel
theorem dX9_trialYearsToFinish_34 : decode cX9_trialYearsToFinish 34 = .ok (.ireturn, 1) := by decide +kernel
theorem dX9_trialGoesAsTold_0 : decode cX9_trialGoesAsTold 0 = .ok (.iconst 0, 1) := by decide +kernel
theorem dX9_trialGoesAsTold_1 : decode cX9_trialGoesAsTold 1 = .ok (.istore_n 3, 1) := by decide +kernel
theorem dX9_trialGoesAsTold_2 : decode cX9_trialGoesAsTold 2 = .ok (.iload_n 3, 1) := by decide +kernel
theorem dX9_trialGoesAsTold_3 : decode cX9_trialGoesAsTold 3 = .ok (.aload_n 1, 1) := by decide +kernel
theorem dX9_trialGoesAsTold_4 : decode cX9_trialGoesAsTold 4 = .ok (.getfield 240, 3) := by decide +kernel
theorem dX9_trialGoesAsTold_7 : decode cX9_trialGoesAsTold 7 = .ok (.if_icmp .ge 38, 3) := by decide +kernel
theorem dX9_trialGoesAsTold_10 : decode cX9_trialGoesAsTold 10 = .ok (.aload_n 1, 1) := by decide +kernel
theorem dX9_trialGoesAsTold_11 : decode cX9_trialGoesAsTold 11 = .ok (.getfield 245, 3) := by decide +kernel
theorem dX9_trialGoesAsTold_14 : decode cX9_trialGoesAsTold 14 = .ok (.iload_n 3, 1) := by decide +kernel
theorem dX9_trialGoesAsTold_15 : decode cX9_trialGoesAsTold 15 = .ok (.laload, 1) := by decide +kernel
theorem dX9_trialGoesAsTold_16 : decode cX9_trialGoesAsTold 16 = .ok (.aload_n 0, 1) := by decide +kernel
theorem dX9_trialGoesAsTold_17 : decode cX9_trialGoesAsTold 17 = .ok (.getfield 50, 3) := by decide +kernel
theorem dX9_trialGoesAsTold_20 : decode cX9_trialGoesAsTold 20 = .ok (.getfield 138, 3) := by decide +kernel
theorem dX9_trialGoesAsTold_23 : decode cX9_trialGoesAsTold 23 = .ok (.iload_n 2, 1) := by decide +kernel
theorem dX9_trialGoesAsTold_24 : decode cX9_trialGoesAsTold 24 = .ok (.iaload, 1) := by decide +kernel
theorem dX9_trialGoesAsTold_25 : decode cX9_trialGoesAsTold 25 = .ok (.i2l, 1) := by decide +kernel
theorem dX9_trialGoesAsTold_26 : decode cX9_trialGoesAsTold 26 = .ok (.lcmp, 1) := by decide +kernel
theorem dX9_trialGoesAsTold_27 : decode cX9_trialGoesAsTold 27 = .ok (.ifCond .eq 5, 3) := by decide +kernel
theorem dX9_trialGoesAsTold_30 : decode cX9_trialGoesAsTold 30 = .ok (.iconst 0, 1) := by decide +kernel
theorem dX9_trialGoesAsTold_31 : decode cX9_trialGoesAsTold 31 = .ok (.ireturn, 1) := by decide +kernel
theorem dX9_trialGoesAsTold_32 : decode cX9_trialGoesAsTold 32 = .ok (.aload_n 0, 1) := by decide +kernel
theorem dX9_trialGoesAsTold_33 : decode cX9_trialGoesAsTold 33 = .ok (.getfield 50, 3) := by decide +kernel
theorem dX9_trialGoesAsTold_36 : decode cX9_trialGoesAsTold 36 = .ok (.invokevirtual 207, 3) := by decide +kernel
theorem dX9_trialGoesAsTold_39 : decode cX9_trialGoesAsTold 39 = .ok (.iinc 3 1, 3) := by decide +kernel
theorem dX9_trialGoesAsTold_42 : decode cX9_trialGoesAsTold 42 = .ok (.goto (-40), 3) := by decide +kernel
theorem dX9_trialGoesAsTold_45 : decode cX9_trialGoesAsTold 45 = .ok (.iconst 1, 1) := by decide +kernel
theorem dX9_trialGoesAsTold_46 : decode cX9_trialGoesAsTold 46 = .ok (.ireturn, 1) := by decide +kernel
theorem dX9_isWithin_0 : decode cX9_isWithin 0 = .ok (.iload_n 0, 1) := by decide +kernel
theorem dX9_isWithin_1 : decode cX9_isWithin 1 = .ok (.iload_n 1, 1) := by decide +kernel
theorem dX9_isWithin_2 : decode cX9_isWithin 2 = .ok (.if_icmp .lt 12, 3) := by decide +kernel
theorem dX9_isWithin_5 : decode cX9_isWithin 5 = .ok (.iload_n 0, 1) := by decide +kernel
theorem dX9_isWithin_6 : decode cX9_isWithin 6 = .ok (.iload_n 2, 1) := by decide +kernel
theorem dX9_isWithin_7 : decode cX9_isWithin 7 = .ok (.if_icmp .gt 7, 3) := by decide +kernel
theorem dX9_isWithin_10 : decode cX9_isWithin 10 = .ok (.iconst 1, 1) := by decide +kernel
theorem dX9_isWithin_11 : decode cX9_isWithin 11 = .ok (.goto 4, 3) := by decide +kernel
theorem dX9_isWithin_14 : decode cX9_isWithin 14 = .ok (.iconst 0, 1) := by decide +kernel
theorem dX9_isWithin_15 : decode cX9_isWithin 15 = .ok (.ireturn, 1) := by decide +kernel
theorem dX9_isPerson_0 : decode cX9_isPerson 0 = .ok (.iload_n 0, 1) := by decide +kernel
theorem dX9_isPerson_1 : decode cX9_isPerson 1 = .ok (.iconst 0, 1) := by decide +kernel
theorem dX9_isPerson_2 : decode cX9_isPerson 2 = .ok (.iconst 5, 1) := by decide +kernel
theorem dX9_isPerson_3 : decode cX9_isPerson 3 = .ok (.invokestatic 87, 3) := by decide +kernel
theorem dX9_isPerson_6 : decode cX9_isPerson 6 = .ok (.ireturn, 1) := by decide +kernel
theorem dX9_isKind_0 : decode cX9_isKind 0 = .ok (.iload_n 0, 1) := by decide +kernel
theorem dX9_isKind_1 : decode cX9_isKind 1 = .ok (.iconst 0, 1) := by decide +kernel
theorem dX9_isKind_2 : decode cX9_isKind 2 = .ok (.iconst 5, 1) := by decide +kernel
theorem dX9_isKind_3 : decode cX9_isKind 3 = .ok (.invokestatic 87, 3) := by decide +kernel
theorem dX9_isKind_6 : decode cX9_isKind 6 = .ok (.ireturn, 1) := by decide +kernel
theorem dX9_isSheet_0 : decode cX9_isSheet 0 = .ok (.iload_n 0, 1) := by decide +kernel
theorem dX9_isSheet_1 : decode cX9_isSheet 1 = .ok (.iconst 0, 1) := by decide +kernel
theorem dX9_isSheet_2 : decode cX9_isSheet 2 = .ok (.iconst 3, 1) := by decide +kernel
theorem dX9_isSheet_3 : decode cX9_isSheet 3 = .ok (.invokestatic 87, 3) := by decide +kernel
theorem dX9_isSheet_6 : decode cX9_isSheet 6 = .ok (.ireturn, 1) := by decide +kernel
theorem dX9_isWidth_0 : decode cX9_isWidth 0 = .ok (.iload_n 0, 1) := by decide +kernel
theorem dX9_isWidth_1 : decode cX9_isWidth 1 = .ok (.ifCond .eq 21, 3) := by decide +kernel
theorem dX9_isWidth_4 : decode cX9_isWidth 4 = .ok (.iload_n 0, 1) := by decide +kernel
theorem dX9_isWidth_5 : decode cX9_isWidth 5 = .ok (.bipush 8, 2) := by decide +kernel
theorem dX9_isWidth_7 : decode cX9_isWidth 7 = .ok (.if_icmp .eq 15, 3) := by decide +kernel
theorem dX9_isWidth_10 : decode cX9_isWidth 10 = .ok (.iload_n 0, 1) := by decide +kernel
theorem dX9_isWidth_11 : decode cX9_isWidth 11 = .ok (.bipush 16, 2) := by decide +kernel
theorem dX9_isWidth_13 : decode cX9_isWidth 13 = .ok (.if_icmp .eq 9, 3) := by decide +kernel
theorem dX9_isWidth_16 : decode cX9_isWidth 16 = .ok (.iload_n 0, 1) := by decide +kernel
theorem dX9_isWidth_17 : decode cX9_isWidth 17 = .ok (.bipush 64, 2) := by decide +kernel
theorem dX9_isWidth_19 : decode cX9_isWidth 19 = .ok (.if_icmp .ne 7, 3) := by decide +kernel
theorem dX9_isWidth_22 : decode cX9_isWidth 22 = .ok (.iconst 1, 1) := by decide +kernel
theorem dX9_isWidth_23 : decode cX9_isWidth 23 = .ok (.goto 4, 3) := by decide +kernel
theorem dX9_isWidth_26 : decode cX9_isWidth 26 = .ok (.iconst 0, 1) := by decide +kernel
theorem dX9_isWidth_27 : decode cX9_isWidth 27 = .ok (.ireturn, 1) := by decide +kernel
theorem dX9_isOrIsUnder_0 : decode cX9_isOrIsUnder 0 = .ok (.iload_n 0, 1) := by decide +kernel
theorem dX9_isOrIsUnder_1 : decode cX9_isOrIsUnder 1 = .ok (.istore_n 2, 1) := by decide +kernel
theorem dX9_isOrIsUnder_2 : decode cX9_isOrIsUnder 2 = .ok (.iconst 0, 1) := by decide +kernel
theorem dX9_isOrIsUnder_3 : decode cX9_isOrIsUnder 3 = .ok (.istore_n 3, 1) := by decide +kernel
theorem dX9_isOrIsUnder_4 : decode cX9_isOrIsUnder 4 = .ok (.iload_n 3, 1) := by decide +kernel
theorem dX9_isOrIsUnder_5 : decode cX9_isOrIsUnder 5 = .ok (.bipush 6, 2) := by decide +kernel
theorem dX9_isOrIsUnder_7 : decode cX9_isOrIsUnder 7 = .ok (.if_icmp .ge 29, 3) := by decide +kernel
theorem dX9_isOrIsUnder_10 : decode cX9_isOrIsUnder 10 = .ok (.iload_n 2, 1) := by decide +kernel
theorem dX9_isOrIsUnder_11 : decode cX9_isOrIsUnder 11 = .ok (.invokestatic 116, 3) := by decide +kernel
theorem dX9_isOrIsUnder_14 : decode cX9_isOrIsUnder 14 = .ok (.ifCond .eq 22, 3) := by decide +kernel
theorem dX9_isOrIsUnder_17 : decode cX9_isOrIsUnder 17 = .ok (.iload_n 2, 1) := by decide +kernel
theorem dX9_isOrIsUnder_18 : decode cX9_isOrIsUnder 18 = .ok (.iload_n 1, 1) := by decide +kernel
theorem dX9_isOrIsUnder_19 : decode cX9_isOrIsUnder 19 = .ok (.if_icmp .ne 5, 3) := by decide +kernel
theorem dX9_isOrIsUnder_22 : decode cX9_isOrIsUnder 22 = .ok (.iconst 1, 1) := by decide +kernel
theorem dX9_isOrIsUnder_23 : decode cX9_isOrIsUnder 23 = .ok (.ireturn, 1) := by decide +kernel
theorem dX9_isOrIsUnder_24 : decode cX9_isOrIsUnder 24 = .ok (.getstatic 278, 3) := by decide +kernel
theorem dX9_isOrIsUnder_27 : decode cX9_isOrIsUnder 27 = .ok (.iload_n 2, 1) := by decide +kernel
theorem dX9_isOrIsUnder_28 : decode cX9_isOrIsUnder 28 = .ok (.iaload, 1) := by decide +kernel
theorem dX9_isOrIsUnder_29 : decode cX9_isOrIsUnder 29 = .ok (.istore_n 2, 1) := by decide +kernel
theorem dX9_isOrIsUnder_30 : decode cX9_isOrIsUnder 30 = .ok (.iinc 3 1, 3) := by decide +kernel
theorem dX9_isOrIsUnder_33 : decode cX9_isOrIsUnder 33 = .ok (.goto (-29), 3) := by decide +kernel
theorem dX9_isOrIsUnder_36 : decode cX9_isOrIsUnder 36 = .ok (.iconst 0, 1) := by decide +kernel
theorem dX9_isOrIsUnder_37 : decode cX9_isOrIsUnder 37 = .ok (.ireturn, 1) := by decide +kernel
theorem dX9_exchange_0 : decode cX9_exchange 0 = .ok (.aload_n 0, 1) := by decide +kernel
theorem dX9_exchange_1 : decode cX9_exchange 1 = .ok (.iload_n 1, 1) := by decide +kernel
theorem dX9_exchange_2 : decode cX9_exchange 2 = .ok (.iaload, 1) := by decide +kernel
theorem dX9_exchange_3 : decode cX9_exchange 3 = .ok (.istore_n 3, 1) := by decide +kernel
theorem dX9_exchange_4 : decode cX9_exchange 4 = .ok (.aload_n 0, 1) := by decide +kernel
theorem dX9_exchange_5 : decode cX9_exchange 5 = .ok (.iload_n 1, 1) := by decide +kernel
theorem dX9_exchange_6 : decode cX9_exchange 6 = .ok (.iload_n 2, 1) := by decide +kernel
theorem dX9_exchange_7 : decode cX9_exchange 7 = .ok (.iastore, 1) := by decide +kernel
theorem dX9_exchange_8 : decode cX9_exchange 8 = .ok (.iload_n 3, 1) := by decide +kernel
theorem dX9_exchange_9 : decode cX9_exchange 9 = .ok (.ireturn, 1) := by decide +kernel
theorem dX9_sum_0 : decode cX9_sum 0 = .ok (.iconst 0, 1) := by decide +kernel
theorem dX9_sum_1 : decode cX9_sum 1 = .ok (.istore_n 2, 1) := by decide +kernel
theorem dX9_sum_2 : decode cX9_sum 2 = .ok (.iconst 0, 1) := by decide +kernel
theorem dX9_sum_3 : decode cX9_sum 3 = .ok (.istore_n 3, 1) := by decide +kernel
theorem dX9_sum_4 : decode cX9_sum 4 = .ok (.iload_n 3, 1) := by decide +kernel
theorem dX9_sum_5 : decode cX9_sum 5 = .ok (.iload_n 1, 1) := by decide +kernel
theorem dX9_sum_6 : decode cX9_sum 6 = .ok (.if_icmp .ge 21, 3) := by decide +kernel
theorem dX9_sum_9 : decode cX9_sum 9 = .ok (.iload_n 3, 1) := by decide +kernel
theorem dX9_sum_10 : decode cX9_sum 10 = .ok (.aload_n 0, 1) := by decide +kernel
theorem dX9_sum_11 : decode cX9_sum 11 = .ok (.arraylength, 1) := by decide +kernel
theorem dX9_sum_12 : decode cX9_sum 12 = .ok (.if_icmp .ge 15, 3) := by decide +kernel
theorem dX9_sum_15 : decode cX9_sum 15 = .ok (.iload_n 2, 1) := by decide +kernel
theorem dX9_sum_16 : decode cX9_sum 16 = .ok (.aload_n 0, 1) := by decide +kernel
theorem dX9_sum_17 : decode cX9_sum 17 = .ok (.iload_n 3, 1) := by decide +kernel
theorem dX9_sum_18 : decode cX9_sum 18 = .ok (.iaload, 1) := by decide +kernel
theorem dX9_sum_19 : decode cX9_sum 19 = .ok (.iadd, 1) := by decide +kernel
theorem dX9_sum_20 : decode cX9_sum 20 = .ok (.istore_n 2, 1) := by decide +kernel
theorem dX9_sum_21 : decode cX9_sum 21 = .ok (.iinc 3 1, 3) := by decide +kernel
theorem dX9_sum_24 : decode cX9_sum 24 = .ok (.goto (-20), 3) := by decide +kernel
theorem dX9_sum_27 : decode cX9_sum 27 = .ok (.iload_n 2, 1) := by decide +kernel
theorem dX9_sum_28 : decode cX9_sum 28 = .ok (.ireturn, 1) := by decide +kernel
theorem dX10_init_0 : decode cX10_init 0 = .ok (.aload_n 0, 1) := by decide +kernel
theorem dX10_init_1 : decode cX10_init 1 = .ok (.invokespecial 3, 3) := by decide +kernel
theorem dX10_init_4 : decode cX10_init 4 = .ok (.aload_n 0, 1) := by decide +kernel
theorem dX10_init_5 : decode cX10_init 5 = .ok (.bipush 52, 2) := by decide +kernel
theorem dX10_init_7 : decode cX10_init 7 = .ok (.newarray .int, 2) := by decide +kernel
theorem dX10_init_9 : decode cX10_init 9 = .ok (.putfield 9, 3) := by decide +kernel
theorem dX10_init_12 : decode cX10_init 12 = .ok (.aload_n 0, 1) := by decide +kernel
theorem dX10_init_13 : decode cX10_init 13 = .ok (.bipush 52, 2) := by decide +kernel
theorem dX10_init_15 : decode cX10_init 15 = .ok (.newarray .int, 2) := by decide +kernel
theorem dX10_init_17 : decode cX10_init 17 = .ok (.putfield 13, 3) := by decide +kernel
theorem dX10_init_20 : decode cX10_init 20 = .ok (.aload_n 0, 1) := by decide +kernel
theorem dX10_init_21 : decode cX10_init 21 = .ok (.bipush 52, 2) := by decide +kernel
theorem dX10_init_23 : decode cX10_init 23 = .ok (.newarray .int, 2) := by decide +kernel
theorem dX10_init_25 : decode cX10_init 25 = .ok (.putfield 16, 3) := by decide +kernel
theorem dX10_init_28 : decode cX10_init 28 = .ok (.aload_n 0, 1) := by decide +kernel
theorem dX10_init_29 : decode cX10_init 29 = .ok (.bipush 7, 2) := by decide +kernel
theorem dX10_init_31 : decode cX10_init 31 = .ok (.newarray .int, 2) := by decide +kernel
theorem dX10_init_33 : decode cX10_init 33 = .ok (.putfield 19, 3) := by decide +kernel
theorem dX10_init_36 : decode cX10_init 36 = .ok (.aload_n 0, 1) := by decide +kernel
theorem dX10_init_37 : decode cX10_init 37 = .ok (.bipush 120, 2) := by decide +kernel
theorem dX10_init_39 : decode cX10_init 39 = .ok (.newarray .int, 2) := by decide +kernel
theorem dX10_init_41 : decode cX10_init 41 = .ok (.putfield 22, 3) := by decide +kernel
theorem dX10_init_44 : decode cX10_init 44 = .ok (.aload_n 0, 1) := by decide +kernel
theorem dX10_init_45 : decode cX10_init 45 = .ok (.iconst 4, 1) := by decide +kernel
theorem dX10_init_46 : decode cX10_init 46 = .ok (.newarray .int, 2) := by decide +kernel
theorem dX10_init_48 : decode cX10_init 48 = .ok (.putfield 25, 3) := by decide +kernel
theorem dX10_init_51 : decode cX10_init 51 = .ok (.aload_n 0, 1) := by decide +kernel
theorem dX10_init_52 : decode cX10_init 52 = .ok (.iconst 4, 1) := by decide +kernel
theorem dX10_init_53 : decode cX10_init 53 = .ok (.newarray .int, 2) := by decide +kernel
theorem dX10_init_55 : decode cX10_init 55 = .ok (.putfield 28, 3) := by decide +kernel
theorem dX10_init_58 : decode cX10_init 58 = .ok (.aload_n 0, 1) := by decide +kernel
theorem dX10_init_59 : decode cX10_init 59 = .ok (.sipush 160, 3) := by decide +kernel
theorem dX10_init_62 : decode cX10_init 62 = .ok (.newarray .long, 2) := by decide +kernel
theorem dX10_init_64 : decode cX10_init 64 = .ok (.putfield 31, 3) := by decide +kernel
theorem dX10_init_67 : decode cX10_init 67 = .ok (.iconst 0, 1) := by decide +kernel
theorem dX10_init_68 : decode cX10_init 68 = .ok (.istore_n 1, 1) := by decide +kernel
theorem dX10_init_69 : decode cX10_init 69 = .ok (.iload_n 1, 1) := by decide +kernel
theorem dX10_init_70 : decode cX10_init 70 = .ok (.bipush 6, 2) := by decide +kernel
theorem dX10_init_72 : decode cX10_init 72 = .ok (.if_icmp .ge 33, 3) := by decide +kernel
theorem dX10_init_75 : decode cX10_init 75 = .ok (.aload_n 0, 1) := by decide +kernel
theorem dX10_init_76 : decode cX10_init 76 = .ok (.getfield 9, 3) := by decide +kernel
theorem dX10_init_79 : decode cX10_init 79 = .ok (.iconst 2, 1) := by decide +kernel
theorem dX10_init_80 : decode cX10_init 80 = .ok (.iconst 3, 1) := by decide +kernel
theorem dX10_init_81 : decode cX10_init 81 = .ok (.iload_n 1, 1) := by decide +kernel
theorem dX10_init_82 : decode cX10_init 82 = .ok (.imul, 1) := by decide +kernel
theorem dX10_init_83 : decode cX10_init 83 = .ok (.iadd, 1) := by decide +kernel
theorem dX10_init_84 : decode cX10_init 84 = .ok (.iconst 5, 1) := by decide +kernel
theorem dX10_init_85 : decode cX10_init 85 = .ok (.iastore, 1) := by decide +kernel
theorem dX10_init_86 : decode cX10_init 86 = .ok (.aload_n 0, 1) := by decide +kernel
theorem dX10_init_87 : decode cX10_init 87 = .ok (.getfield 9, 3) := by decide +kernel
theorem dX10_init_90 : decode cX10_init 90 = .ok (.iconst 2, 1) := by decide +kernel
theorem dX10_init_91 : decode cX10_init 91 = .ok (.iconst 3, 1) := by decide +kernel
theorem dX10_init_92 : decode cX10_init 92 = .ok (.iload_n 1, 1) := by decide +kernel
theorem dX10_init_93 : decode cX10_init 93 = .ok (.imul, 1) := by decide +kernel
theorem dX10_init_94 : decode cX10_init 94 = .ok (.iadd, 1) := by decide +kernel
theorem dX10_init_95 : decode cX10_init 95 = .ok (.iconst 1, 1) := by decide +kernel
theorem dX10_init_96 : decode cX10_init 96 = .ok (.iadd, 1) := by decide +kernel
theorem dX10_init_97 : decode cX10_init 97 = .ok (.iconst 4, 1) := by decide +kernel
theorem dX10_init_98 : decode cX10_init 98 = .ok (.iastore, 1) := by decide +kernel
theorem dX10_init_99 : decode cX10_init 99 = .ok (.iinc 1 1, 3) := by decide +kernel
theorem dX10_init_102 : decode cX10_init 102 = .ok (.goto (-33), 3) := by decide +kernel
theorem dX10_init_105 : decode cX10_init 105 = .ok (.return_, 1) := by decide +kernel
theorem dX10_finds_0 : decode cX10_finds 0 = .ok (.aload_n 0, 1) := by decide +kernel
theorem dX10_finds_1 : decode cX10_finds 1 = .ok (.getfield 19, 3) := by decide +kernel
theorem dX10_finds_4 : decode cX10_finds 4 = .ok (.ldc 35, 2) := by decide +kernel
theorem dX10_finds_6 : decode cX10_finds 6 = .ok (.iload_n 1, 1) := by decide +kernel
theorem dX10_finds_7 : decode cX10_finds 7 = .ok (.isub, 1) := by decide +kernel
theorem dX10_finds_8 : decode cX10_finds 8 = .ok (.dup2, 1) := by decide +kernel
theorem dX10_finds_9 : decode cX10_finds 9 = .ok (.iaload, 1) := by decide +kernel
theorem dX10_finds_10 : decode cX10_finds 10 = .ok (.iconst 1, 1) := by decide +kernel
theorem dX10_finds_11 : decode cX10_finds 11 = .ok (.iadd, 1) := by decide +kernel
theorem dX10_finds_12 : decode cX10_finds 12 = .ok (.iastore, 1) := by decide +kernel
theorem dX10_finds_13 : decode cX10_finds 13 = .ok (.iload_n 1, 1) := by decide +kernel
theorem dX10_finds_14 : decode cX10_finds 14 = .ok (.ireturn, 1) := by decide +kernel
theorem dX10_orNone_0 : decode cX10_orNone 0 = .ok (.iload_n 1, 1) := by decide +kernel
theorem dX10_orNone_1 : decode cX10_orNone 1 = .ok (.ifCond .ge 12, 3) := by decide +kernel
theorem dX10_orNone_4 : decode cX10_orNone 4 = .ok (.aload_n 0, 1) := by decide +kernel
theorem dX10_orNone_5 : decode cX10_orNone 5 = .ok (.ldc 36, 2) := by decide +kernel
theorem dX10_orNone_7 : decode cX10_orNone 7 = .ok (.invokevirtual 37, 3) := by decide +kernel
theorem dX10_orNone_10 : decode cX10_orNone 10 = .ok (.goto 4, 3) := by decide +kernel
theorem dX10_orNone_13 : decode cX10_orNone 13 = .ok (.iload_n 1, 1) := by decide +kernel
theorem dX10_orNone_14 : decode cX10_orNone 14 = .ok (.ireturn, 1) := by decide +kernel
theorem dX10_in_0 : decode cX10_in 0 = .ok (.lload_n 0, 1) := by decide +kernel
theorem dX10_in_1 : decode cX10_in 1 = .ok (.iload_n 2, 1) := by decide +kernel
theorem dX10_in_2 : decode cX10_in 2 = .ok (.i2l, 1) := by decide +kernel
theorem dX10_in_3 : decode cX10_in 3 = .ok (.lcmp, 1) := by decide +kernel
theorem dX10_in_4 : decode cX10_in 4 = .ok (.ifCond .lt 14, 3) := by decide +kernel
theorem dX10_in_7 : decode cX10_in 7 = .ok (.lload_n 0, 1) := by decide +kernel
theorem dX10_in_8 : decode cX10_in 8 = .ok (.iload_n 3, 1) := by decide +kernel
theorem dX10_in_9 : decode cX10_in 9 = .ok (.i2l, 1) := by decide +kernel
theorem dX10_in_10 : decode cX10_in 10 = .ok (.lcmp, 1) := by decide +kernel
theorem dX10_in_11 : decode cX10_in 11 = .ok (.ifCond .gt 7, 3) := by decide +kernel
theorem dX10_in_14 : decode cX10_in 14 = .ok (.iconst 1, 1) := by decide +kernel
theorem dX10_in_15 : decode cX10_in 15 = .ok (.goto 4, 3) := by decide +kernel
theorem dX10_in_18 : decode cX10_in 18 = .ok (.iconst 0, 1) := by decide +kernel
theorem dX10_in_19 : decode cX10_in 19 = .ok (.ireturn, 1) := by decide +kernel
theorem dX10_held_0 : decode cX10_held 0 = .ok (.iload_n 0, 1) := by decide +kernel
theorem dX10_held_1 : decode cX10_held 1 = .ok (.iload_n 1, 1) := by decide +kernel
theorem dX10_held_2 : decode cX10_held 2 = .ok (.if_icmp .ge 7, 3) := by decide +kernel
theorem dX10_held_5 : decode cX10_held 5 = .ok (.iload_n 1, 1) := by decide +kernel
theorem dX10_held_6 : decode cX10_held 6 = .ok (.goto 13, 3) := by decide +kernel
theorem dX10_held_9 : decode cX10_held 9 = .ok (.iload_n 0, 1) := by decide +kernel
theorem dX10_held_10 : decode cX10_held 10 = .ok (.iload_n 2, 1) := by decide +kernel
theorem dX10_held_11 : decode cX10_held 11 = .ok (.if_icmp .le 7, 3) := by decide +kernel
theorem dX10_held_14 : decode cX10_held 14 = .ok (.iload_n 2, 1) := by decide +kernel
theorem dX10_held_15 : decode cX10_held 15 = .ok (.goto 4, 3) := by decide +kernel
theorem dX10_held_18 : decode cX10_held 18 = .ok (.iload_n 0, 1) := by decide +kernel
theorem dX10_held_19 : decode cX10_held 19 = .ok (.ireturn, 1) := by decide +kernel
theorem dX10_copyAll_0 : decode cX10_copyAll 0 = .ok (.iconst 0, 1) := by decide +kernel
theorem dX10_copyAll_1 : decode cX10_copyAll 1 = .ok (.istore_n 2, 1) := by decide +kernel
theorem dX10_copyAll_2 : decode cX10_copyAll 2 = .ok (.iload_n 2, 1) := by decide +kernel
theorem dX10_copyAll_3 : decode cX10_copyAll 3 = .ok (.bipush 52, 2) := by decide +kernel
theorem dX10_copyAll_5 : decode cX10_copyAll 5 = .ok (.if_icmp .ge 15, 3) := by decide +kernel
theorem dX10_copyAll_8 : decode cX10_copyAll 8 = .ok (.aload_n 1, 1) := by decide +kernel
theorem dX10_copyAll_9 : decode cX10_copyAll 9 = .ok (.iload_n 2, 1) := by decide +kernel
theorem dX10_copyAll_10 : decode cX10_copyAll 10 = .ok (.aload_n 0, 1) := by decide +kernel
theorem dX10_copyAll_11 : decode cX10_copyAll 11 = .ok (.iload_n 2, 1) := by decide +kernel
theorem dX10_copyAll_12 : decode cX10_copyAll 12 = .ok (.iaload, 1) := by decide +kernel
theorem dX10_copyAll_13 : decode cX10_copyAll 13 = .ok (.iastore, 1) := by decide +kernel
theorem dX10_copyAll_14 : decode cX10_copyAll 14 = .ok (.iinc 2 1, 3) := by decide +kernel
theorem dX10_copyAll_17 : decode cX10_copyAll 17 = .ok (.goto (-15), 3) := by decide +kernel
theorem dX10_copyAll_20 : decode cX10_copyAll 20 = .ok (.return_, 1) := by decide +kernel
theorem dX10_becomes_0 : decode cX10_becomes 0 = .ok (.aload_n 0, 1) := by decide +kernel
theorem dX10_becomes_1 : decode cX10_becomes 1 = .ok (.getfield 9, 3) := by decide +kernel
theorem dX10_becomes_4 : decode cX10_becomes 4 = .ok (.iload_n 1, 1) := by decide +kernel
theorem dX10_becomes_5 : decode cX10_becomes 5 = .ok (.iaload, 1) := by decide +kernel
theorem dX10_becomes_6 : decode cX10_becomes 6 = .ok (.istore_n 3, 1) := by decide +kernel
theorem dX10_becomes_7 : decode cX10_becomes 7 = .ok (.aload_n 0, 1) := by decide +kernel
theorem dX10_becomes_8 : decode cX10_becomes 8 = .ok (.getfield 9, 3) := by decide +kernel
theorem dX10_becomes_11 : decode cX10_becomes 11 = .ok (.iload_n 1, 1) := by decide +kernel
theorem dX10_becomes_12 : decode cX10_becomes 12 = .ok (.iload_n 2, 1) := by decide +kernel
theorem dX10_becomes_13 : decode cX10_becomes 13 = .ok (.iastore, 1) := by decide +kernel
theorem dX10_becomes_14 : decode cX10_becomes 14 = .ok (.iload_n 3, 1) := by decide +kernel
theorem dX10_becomes_15 : decode cX10_becomes 15 = .ok (.ireturn, 1) := by decide +kernel
theorem dX10_isThing_0 : decode cX10_isThing 0 = .ok (.iload_n 1, 1) := by decide +kernel
theorem dX10_isThing_1 : decode cX10_isThing 1 = .ok (.i2l, 1) := by decide +kernel
theorem dX10_isThing_2 : decode cX10_isThing 2 = .ok (.iconst 0, 1) := by decide +kernel
theorem dX10_isThing_3 : decode cX10_isThing 3 = .ok (.aload_n 0, 1) := by decide +kernel
theorem dX10_isThing_4 : decode cX10_isThing 4 = .ok (.getfield 9, 3) := by decide +kernel
theorem dX10_isThing_7 : decode cX10_isThing 7 = .ok (.iconst 1, 1) := by decide +kernel
theorem dX10_isThing_8 : decode cX10_isThing 8 = .ok (.iaload, 1) := by decide +kernel
theorem dX10_isThing_9 : decode cX10_isThing 9 = .ok (.iconst 1, 1) := by decide +kernel
theorem dX10_isThing_10 : decode cX10_isThing 10 = .ok (.isub, 1) := by decide +kernel
theorem dX10_isThing_11 : decode cX10_isThing 11 = .ok (.invokestatic 41, 3) := by decide +kernel
theorem dX10_isThing_14 : decode cX10_isThing 14 = .ok (.ireturn, 1) := by decide +kernel
theorem dX10_isPerson_0 : decode cX10_isPerson 0 = .ok (.iload_n 0, 1) := by decide +kernel
theorem dX10_isPerson_1 : decode cX10_isPerson 1 = .ok (.i2l, 1) := by decide +kernel
theorem dX10_isPerson_2 : decode cX10_isPerson 2 = .ok (.iconst 0, 1) := by decide +kernel
theorem dX10_isPerson_3 : decode cX10_isPerson 3 = .ok (.iconst 5, 1) := by decide +kernel
theorem dX10_isPerson_4 : decode cX10_isPerson 4 = .ok (.invokestatic 41, 3) := by decide +kernel
theorem dX10_isPerson_7 : decode cX10_isPerson 7 = .ok (.ireturn, 1) := by decide +kernel
theorem dX10_it_0 : decode cX10_it 0 = .ok (.aload_n 0, 1) := by decide +kernel
theorem dX10_it_1 : decode cX10_it 1 = .ok (.getfield 9, 3) := by decide +kernel
theorem dX10_it_4 : decode cX10_it 4 = .ok (.bipush 20, 2) := by decide +kernel
theorem dX10_it_6 : decode cX10_it 6 = .ok (.iconst 4, 1) := by decide +kernel
theorem dX10_it_7 : decode cX10_it 7 = .ok (.iload_n 1, 1) := by decide +kernel
theorem dX10_it_8 : decode cX10_it 8 = .ok (.imul, 1) := by decide +kernel
theorem dX10_it_9 : decode cX10_it 9 = .ok (.iadd, 1) := by decide +kernel
theorem dX10_it_10 : decode cX10_it 10 = .ok (.iload_n 2, 1) := by decide +kernel
theorem dX10_it_11 : decode cX10_it 11 = .ok (.iadd, 1) := by decide +kernel
theorem dX10_it_12 : decode cX10_it 12 = .ok (.iaload, 1) := by decide +kernel
theorem dX10_it_13 : decode cX10_it 13 = .ok (.ireturn, 1) := by decide +kernel
theorem dX10_put_0 : decode cX10_put 0 = .ok (.aload_n 0, 1) := by decide +kernel
theorem dX10_put_1 : decode cX10_put 1 = .ok (.getfield 9, 3) := by decide +kernel
theorem dX10_put_4 : decode cX10_put 4 = .ok (.bipush 20, 2) := by decide +kernel
theorem dX10_put_6 : decode cX10_put 6 = .ok (.iconst 4, 1) := by decide +kernel
theorem dX10_put_7 : decode cX10_put 7 = .ok (.iload_n 1, 1) := by decide +kernel
theorem dX10_put_8 : decode cX10_put 8 = .ok (.imul, 1) := by decide +kernel
theorem dX10_put_9 : decode cX10_put 9 = .ok (.iadd, 1) := by decide +kernel
theorem dX10_put_10 : decode cX10_put 10 = .ok (.iload_n 2, 1) := by decide +kernel
theorem dX10_put_11 : decode cX10_put 11 = .ok (.iadd, 1) := by decide +kernel
theorem dX10_put_12 : decode cX10_put 12 = .ok (.iload_n 3, 1) := by decide +kernel
theorem dX10_put_13 : decode cX10_put 13 = .ok (.iastore, 1) := by decide +kernel
theorem dX10_put_14 : decode cX10_put 14 = .ok (.return_, 1) := by decide +kernel
theorem dX10_his_0 : decode cX10_his 0 = .ok (.aload_n 0, 1) := by decide +kernel
theorem dX10_his_1 : decode cX10_his 1 = .ok (.getfield 9, 3) := by decide +kernel
theorem dX10_his_4 : decode cX10_his 4 = .ok (.iconst 2, 1) := by decide +kernel
theorem dX10_his_5 : decode cX10_his 5 = .ok (.iconst 3, 1) := by decide +kernel
theorem dX10_his_6 : decode cX10_his 6 = .ok (.iload_n 1, 1) := by decide +kernel
theorem dX10_his_7 : decode cX10_his 7 = .ok (.imul, 1) := by decide +kernel
theorem dX10_his_8 : decode cX10_his 8 = .ok (.iadd, 1) := by decide +kernel
theorem dX10_his_9 : decode cX10_his 9 = .ok (.iload_n 2, 1) := by decide +kernel
theorem dX10_his_10 : decode cX10_his 10 = .ok (.iadd, 1) := by decide +kernel
theorem dX10_his_11 : decode cX10_his 11 = .ok (.iaload, 1) := by decide +kernel
theorem dX10_his_12 : decode cX10_his 12 = .ok (.ireturn, 1) := by decide +kernel
theorem dX10_gets_0 : decode cX10_gets 0 = .ok (.aload_n 0, 1) := by decide +kernel
theorem dX10_gets_1 : decode cX10_gets 1 = .ok (.getfield 9, 3) := by decide +kernel
theorem dX10_gets_4 : decode cX10_gets 4 = .ok (.iconst 2, 1) := by decide +kernel
theorem dX10_gets_5 : decode cX10_gets 5 = .ok (.iconst 3, 1) := by decide +kernel
theorem dX10_gets_6 : decode cX10_gets 6 = .ok (.iload_n 1, 1) := by decide +kernel
theorem dX10_gets_7 : decode cX10_gets 7 = .ok (.imul, 1) := by decide +kernel
theorem dX10_gets_8 : decode cX10_gets 8 = .ok (.iadd, 1) := by decide +kernel
theorem dX10_gets_9 : decode cX10_gets 9 = .ok (.iload_n 2, 1) := by decide +kernel
theorem dX10_gets_10 : decode cX10_gets 10 = .ok (.iadd, 1) := by decide +kernel
theorem dX10_gets_11 : decode cX10_gets 11 = .ok (.iload_n 3, 1) := by decide +kernel
theorem dX10_gets_12 : decode cX10_gets 12 = .ok (.iastore, 1) := by decide +kernel
theorem dX10_gets_13 : decode cX10_gets 13 = .ok (.return_, 1) := by decide +kernel
theorem dX10_isDone_0 : decode cX10_isDone 0 = .ok (.aload_n 0, 1) := by decide +kernel
theorem dX10_isDone_1 : decode cX10_isDone 1 = .ok (.iload_n 1, 1) := by decide +kernel
theorem dX10_isDone_2 : decode cX10_isDone 2 = .ok (.iconst 1, 1) := by decide +kernel
theorem dX10_isDone_3 : decode cX10_isDone 3 = .ok (.invokevirtual 45, 3) := by decide +kernel
theorem dX10_isDone_6 : decode cX10_isDone 6 = .ok (.bipush 100, 2) := by decide +kernel
theorem dX10_isDone_8 : decode cX10_isDone 8 = .ok (.if_icmp .ne 7, 3) := by decide +kernel
theorem dX10_isDone_11 : decode cX10_isDone 11 = .ok (.iconst 1, 1) := by decide +kernel
theorem dX10_isDone_12 : decode cX10_isDone 12 = .ok (.goto 4, 3) := by decide +kernel
theorem dX10_isDone_15 : decode cX10_isDone 15 = .ok (.iconst 0, 1) := by decide +kernel
theorem dX10_isDone_16 : decode cX10_isDone 16 = .ok (.ireturn, 1) := by decide +kernel
theorem dX10_mayBe_0 : decode cX10_mayBe 0 = .ok (.iload_n 0, 1) := by decide +kernel
theorem dX10_mayBe_1 : decode cX10_mayBe 1 = .ok (.i2l, 1) := by decide +kernel
theorem dX10_mayBe_2 : decode cX10_mayBe 2 = .ok (.iconst 0, 1) := by decide +kernel
theorem dX10_mayBe_3 : decode cX10_mayBe 3 = .ok (.iconst 2, 1) := by decide +kernel
theorem dX10_mayBe_4 : decode cX10_mayBe 4 = .ok (.invokestatic 41, 3) := by decide +kernel
theorem dX10_mayBe_7 : decode cX10_mayBe 7 = .ok (.ifCond .eq 38, 3) := by decide +kernel
theorem dX10_mayBe_10 : decode cX10_mayBe 10 = .ok (.iload_n 1, 1) := by decide +kernel
theorem dX10_mayBe_11 : decode cX10_mayBe 11 = .ok (.i2l, 1) := by decide +kernel
theorem dX10_mayBe_12 : decode cX10_mayBe 12 = .ok (.iconst 0, 1) := by decide +kernel
theorem dX10_mayBe_13 : decode cX10_mayBe 13 = .ok (.iload_n 0, 1) := by decide +kernel
theorem dX10_mayBe_14 : decode cX10_mayBe 14 = .ok (.ifCond .ne 8, 3) := by decide +kernel
theorem dX10_mayBe_17 : decode cX10_mayBe 17 = .ok (.bipush 20, 2) := by decide +kernel
theorem dX10_mayBe_19 : decode cX10_mayBe 19 = .ok (.goto 16, 3) := by decide +kernel
theorem dX10_mayBe_22 : decode cX10_mayBe 22 = .ok (.iload_n 0, 1) := by decide +kernel
theorem dX10_mayBe_23 : decode cX10_mayBe 23 = .ok (.iconst 1, 1) := by decide +kernel
theorem dX10_mayBe_24 : decode cX10_mayBe 24 = .ok (.if_icmp .ne 8, 3) := by decide +kernel
theorem dX10_mayBe_27 : decode cX10_mayBe 27 = .ok (.bipush 9, 2) := by decide +kernel
theorem dX10_mayBe_29 : decode cX10_mayBe 29 = .ok (.goto 6, 3) := by decide +kernel
theorem dX10_mayBe_32 : decode cX10_mayBe 32 = .ok (.sipush 999, 3) := by decide +kernel
theorem dX10_mayBe_35 : decode cX10_mayBe 35 = .ok (.invokestatic 41, 3) := by decide +kernel
theorem dX10_mayBe_38 : decode cX10_mayBe 38 = .ok (.ifCond .eq 7, 3) := by decide +kernel
theorem dX10_mayBe_41 : decode cX10_mayBe 41 = .ok (.iconst 1, 1) := by decide +kernel
theorem dX10_mayBe_42 : decode cX10_mayBe 42 = .ok (.goto 4, 3) := by decide +kernel
theorem dX10_mayBe_45 : decode cX10_mayBe 45 = .ok (.iconst 0, 1) := by decide +kernel
theorem dX10_mayBe_46 : decode cX10_mayBe 46 = .ok (.ireturn, 1) := by decide +kernel
theorem dX10_person_0 : decode cX10_person 0 = .ok (.iload_n 1, 1) := by decide +kernel
theorem dX10_person_1 : decode cX10_person 1 = .ok (.invokestatic 49, 3) := by decide +kernel
theorem dX10_person_4 : decode cX10_person 4 = .ok (.ifCond .eq 26, 3) := by decide +kernel
theorem dX10_person_7 : decode cX10_person 7 = .ok (.iload_n 2, 1) := by decide +kernel
theorem dX10_person_8 : decode cX10_person 8 = .ok (.iload_n 3, 1) := by decide +kernel
theorem dX10_person_9 : decode cX10_person 9 = .ok (.invokestatic 53, 3) := by decide +kernel
theorem dX10_person_12 : decode cX10_person 12 = .ok (.ifCond .eq 18, 3) := by decide +kernel
theorem dX10_person_15 : decode cX10_person 15 = .ok (.aload_n 0, 1) := by decide +kernel
theorem dX10_person_16 : decode cX10_person 16 = .ok (.iconst 2, 1) := by decide +kernel
theorem dX10_person_17 : decode cX10_person 17 = .ok (.iconst 3, 1) := by decide +kernel
theorem dX10_person_18 : decode cX10_person 18 = .ok (.iload_n 1, 1) := by decide +kernel
theorem dX10_person_19 : decode cX10_person 19 = .ok (.imul, 1) := by decide +kernel
theorem dX10_person_20 : decode cX10_person 20 = .ok (.iadd, 1) := by decide +kernel
theorem dX10_person_21 : decode cX10_person 21 = .ok (.iload_n 2, 1) := by decide +kernel
theorem dX10_person_22 : decode cX10_person 22 = .ok (.iadd, 1) := by decide +kernel
theorem dX10_person_23 : decode cX10_person 23 = .ok (.iload_n 3, 1) := by decide +kernel
theorem dX10_person_24 : decode cX10_person 24 = .ok (.invokevirtual 57, 3) := by decide +kernel
theorem dX10_person_27 : decode cX10_person 27 = .ok (.goto 9, 3) := by decide +kernel
theorem dX10_person_30 : decode cX10_person 30 = .ok (.aload_n 0, 1) := by decide +kernel
theorem dX10_person_31 : decode cX10_person 31 = .ok (.ldc 35, 2) := by decide +kernel
theorem dX10_person_33 : decode cX10_person 33 = .ok (.invokevirtual 37, 3) := by decide +kernel
theorem dX10_person_36 : decode cX10_person 36 = .ok (.ireturn, 1) := by decide +kernel
theorem dX10_withOf_0 : decode cX10_withOf 0 = .ok (.iconst 0, 1) := by decide +kernel
theorem dX10_withOf_1 : decode cX10_withOf 1 = .ok (.istore_n 2, 1) := by decide +kernel
theorem dX10_withOf_2 : decode cX10_withOf 2 = .ok (.iconst 0, 1) := by decide +kernel
theorem dX10_withOf_3 : decode cX10_withOf 3 = .ok (.istore_n 3, 1) := by decide +kernel
theorem dX10_withOf_4 : decode cX10_withOf 4 = .ok (.iload_n 3, 1) := by decide +kernel
theorem dX10_withOf_5 : decode cX10_withOf 5 = .ok (.aload_n 0, 1) := by decide +kernel
theorem dX10_withOf_6 : decode cX10_withOf 6 = .ok (.getfield 9, 3) := by decide +kernel
theorem dX10_withOf_9 : decode cX10_withOf 9 = .ok (.iconst 1, 1) := by decide +kernel
theorem dX10_withOf_10 : decode cX10_withOf 10 = .ok (.iaload, 1) := by decide +kernel
theorem dX10_withOf_11 : decode cX10_withOf 11 = .ok (.if_icmp .ge 29, 3) := by decide +kernel
theorem dX10_withOf_14 : decode cX10_withOf 14 = .ok (.iload_n 2, 1) := by decide +kernel
theorem dX10_withOf_15 : decode cX10_withOf 15 = .ok (.aload_n 0, 1) := by decide +kernel
theorem dX10_withOf_16 : decode cX10_withOf 16 = .ok (.iload_n 3, 1) := by decide +kernel
theorem dX10_withOf_17 : decode cX10_withOf 17 = .ok (.iconst 2, 1) := by decide +kernel
theorem dX10_withOf_18 : decode cX10_withOf 18 = .ok (.invokevirtual 45, 3) := by decide +kernel
theorem dX10_withOf_21 : decode cX10_withOf 21 = .ok (.iload_n 1, 1) := by decide +kernel
theorem dX10_withOf_22 : decode cX10_withOf 22 = .ok (.if_icmp .ne 9, 3) := by decide +kernel
theorem dX10_withOf_25 : decode cX10_withOf 25 = .ok (.iconst 1, 1) := by decide +kernel
theorem dX10_withOf_26 : decode cX10_withOf 26 = .ok (.iload_n 3, 1) := by decide +kernel
theorem dX10_withOf_27 : decode cX10_withOf 27 = .ok (.ishl, 1) := by decide +kernel
theorem dX10_withOf_28 : decode cX10_withOf 28 = .ok (.goto 4, 3) := by decide +kernel
theorem dX10_withOf_31 : decode cX10_withOf 31 = .ok (.iconst 0, 1) := by decide +kernel
theorem dX10_withOf_32 : decode cX10_withOf 32 = .ok (.ior, 1) := by decide +kernel
theorem dX10_withOf_33 : decode cX10_withOf 33 = .ok (.istore_n 2, 1) := by decide +kernel
theorem dX10_withOf_34 : decode cX10_withOf 34 = .ok (.iinc 3 1, 3) := by decide +kernel
theorem dX10_withOf_37 : decode cX10_withOf 37 = .ok (.goto (-33), 3) := by decide +kernel
theorem dX10_withOf_40 : decode cX10_withOf 40 = .ok (.iload_n 2, 1) := by decide +kernel
theorem dX10_withOf_41 : decode cX10_withOf 41 = .ok (.ireturn, 1) := by decide +kernel
theorem dX10_openOf_0 : decode cX10_openOf 0 = .ok (.iconst 0, 1) := by decide +kernel
theorem dX10_openOf_1 : decode cX10_openOf 1 = .ok (.istore_n 2, 1) := by decide +kernel
theorem dX10_openOf_2 : decode cX10_openOf 2 = .ok (.iconst 0, 1) := by decide +kernel
theorem dX10_openOf_3 : decode cX10_openOf 3 = .ok (.istore_n 3, 1) := by decide +kernel
theorem dX10_openOf_4 : decode cX10_openOf 4 = .ok (.iload_n 3, 1) := by decide +kernel
theorem dX10_openOf_5 : decode cX10_openOf 5 = .ok (.aload_n 0, 1) := by decide +kernel
theorem dX10_openOf_6 : decode cX10_openOf 6 = .ok (.getfield 9, 3) := by decide +kernel
theorem dX10_openOf_9 : decode cX10_openOf 9 = .ok (.iconst 1, 1) := by decide +kernel
theorem dX10_openOf_10 : decode cX10_openOf 10 = .ok (.iaload, 1) := by decide +kernel
theorem dX10_openOf_11 : decode cX10_openOf 11 = .ok (.if_icmp .ge 35, 3) := by decide +kernel
theorem dX10_openOf_14 : decode cX10_openOf 14 = .ok (.iload_n 2, 1) := by decide +kernel
theorem dX10_openOf_15 : decode cX10_openOf 15 = .ok (.aload_n 0, 1) := by decide +kernel
theorem dX10_openOf_16 : decode cX10_openOf 16 = .ok (.iload_n 3, 1) := by decide +kernel
theorem dX10_openOf_17 : decode cX10_openOf 17 = .ok (.iconst 2, 1) := by decide +kernel
theorem dX10_openOf_18 : decode cX10_openOf 18 = .ok (.invokevirtual 45, 3) := by decide +kernel
theorem dX10_openOf_21 : decode cX10_openOf 21 = .ok (.iload_n 1, 1) := by decide +kernel
theorem dX10_openOf_22 : decode cX10_openOf 22 = .ok (.if_icmp .ne 15, 3) := by decide +kernel
theorem dX10_openOf_25 : decode cX10_openOf 25 = .ok (.aload_n 0, 1) := by decide +kernel
theorem dX10_openOf_26 : decode cX10_openOf 26 = .ok (.iload_n 3, 1) := by decide +kernel
theorem dX10_openOf_27 : decode cX10_openOf 27 = .ok (.invokevirtual 60, 3) := by decide +kernel
theorem dX10_openOf_30 : decode cX10_openOf 30 = .ok (.ifCond .ne 7, 3) := by decide +kernel
theorem dX10_openOf_33 : decode cX10_openOf 33 = .ok (.iconst 1, 1) := by decide +kernel
theorem dX10_openOf_34 : decode cX10_openOf 34 = .ok (.goto 4, 3) := by decide +kernel
theorem dX10_openOf_37 : decode cX10_openOf 37 = .ok (.iconst 0, 1) := by decide +kernel
theorem dX10_openOf_38 : decode cX10_openOf 38 = .ok (.iadd, 1) := by decide +kernel
theorem dX10_openOf_39 : decode cX10_openOf 39 = .ok (.istore_n 2, 1) := by decide +kernel
theorem dX10_openOf_40 : decode cX10_openOf 40 = .ok (.iinc 3 1, 3) := by decide +kernel
theorem dX10_openOf_43 : decode cX10_openOf 43 = .ok (.goto (-39), 3) := by decide +kernel
theorem dX10_openOf_46 : decode cX10_openOf 46 = .ok (.iload_n 2, 1) := by decide +kernel
theorem dX10_openOf_47 : decode cX10_openOf 47 = .ok (.ireturn, 1) := by decide +kernel
theorem dX10_personOf_0 : decode cX10_personOf 0 = .ok (.iload_n 1, 1) := by decide +kernel
theorem dX10_personOf_1 : decode cX10_personOf 1 = .ok (.invokestatic 49, 3) := by decide +kernel
theorem dX10_personOf_4 : decode cX10_personOf 4 = .ok (.ifCond .eq 13, 3) := by decide +kernel
theorem dX10_personOf_7 : decode cX10_personOf 7 = .ok (.iload_n 2, 1) := by decide +kernel
theorem dX10_personOf_8 : decode cX10_personOf 8 = .ok (.i2l, 1) := by decide +kernel
theorem dX10_personOf_9 : decode cX10_personOf 9 = .ok (.iconst 0, 1) := by decide +kernel
theorem dX10_personOf_10 : decode cX10_personOf 10 = .ok (.iconst 4, 1) := by decide +kernel
theorem dX10_personOf_11 : decode cX10_personOf 11 = .ok (.invokestatic 41, 3) := by decide +kernel
theorem dX10_personOf_14 : decode cX10_personOf 14 = .ok (.ifCond .ne 10, 3) := by decide +kernel
theorem dX10_personOf_17 : decode cX10_personOf 17 = .ok (.aload_n 0, 1) := by decide +kernel
theorem dX10_personOf_18 : decode cX10_personOf 18 = .ok (.ldc 35, 2) := by decide +kernel
theorem dX10_personOf_20 : decode cX10_personOf 20 = .ok (.invokevirtual 37, 3) := by decide +kernel
theorem dX10_personOf_23 : decode cX10_personOf 23 = .ok (.ireturn, 1) := by decide +kernel
theorem dX10_personOf_24 : decode cX10_personOf 24 = .ok (.iload_n 2, 1) := by decide +kernel
theorem dX10_personOf_25 : decode cX10_personOf 25 = .ok (.iconst 3, 1) := by decide +kernel
theorem dX10_personOf_26 : decode cX10_personOf 26 = .ok (.if_icmp .ge 12, 3) := by decide +kernel
theorem dX10_personOf_29 : decode cX10_personOf 29 = .ok (.aload_n 0, 1) := by decide +kernel
theorem dX10_personOf_30 : decode cX10_personOf 30 = .ok (.iload_n 1, 1) := by decide +kernel
theorem dX10_personOf_31 : decode cX10_personOf 31 = .ok (.iload_n 2, 1) := by decide +kernel
theorem dX10_personOf_32 : decode cX10_personOf 32 = .ok (.invokevirtual 63, 3) := by decide +kernel
theorem dX10_personOf_35 : decode cX10_personOf 35 = .ok (.goto 21, 3) := by decide +kernel
theorem dX10_personOf_38 : decode cX10_personOf 38 = .ok (.iload_n 2, 1) := by decide +kernel
theorem dX10_personOf_39 : decode cX10_personOf 39 = .ok (.iconst 3, 1) := by decide +kernel
theorem dX10_personOf_40 : decode cX10_personOf 40 = .ok (.if_icmp .ne 11, 3) := by decide +kernel
theorem dX10_personOf_43 : decode cX10_personOf 43 = .ok (.aload_n 0, 1) := by decide +kernel
theorem dX10_personOf_44 : decode cX10_personOf 44 = .ok (.iload_n 1, 1) := by decide +kernel
theorem dX10_personOf_45 : decode cX10_personOf 45 = .ok (.invokevirtual 66, 3) := by decide +kernel
theorem dX10_personOf_48 : decode cX10_personOf 48 = .ok (.goto 8, 3) := by decide +kernel
theorem dX10_personOf_51 : decode cX10_personOf 51 = .ok (.aload_n 0, 1) := by decide +kernel
theorem dX10_personOf_52 : decode cX10_personOf 52 = .ok (.iload_n 1, 1) := by decide +kernel
theorem dX10_personOf_53 : decode cX10_personOf 53 = .ok (.invokevirtual 69, 3) := by decide +kernel
theorem dX10_personOf_56 : decode cX10_personOf 56 = .ok (.ireturn, 1) := by decide +kernel
theorem dX10_goesOn_0 : decode cX10_goesOn 0 = .ok (.aload_n 0, 1) := by decide +kernel
theorem dX10_goesOn_1 : decode cX10_goesOn 1 = .ok (.iload_n 1, 1) := by decide +kernel
theorem dX10_goesOn_2 : decode cX10_goesOn 2 = .ok (.iconst 1, 1) := by decide +kernel
theorem dX10_goesOn_3 : decode cX10_goesOn 3 = .ok (.invokevirtual 45, 3) := by decide +kernel
theorem dX10_goesOn_6 : decode cX10_goesOn 6 = .ok (.istore_n 3, 1) := by decide +kernel
theorem dX10_goesOn_7 : decode cX10_goesOn 7 = .ok (.iload_n 3, 1) := by decide +kernel
theorem dX10_goesOn_8 : decode cX10_goesOn 8 = .ok (.bipush 50, 2) := by decide +kernel
theorem dX10_goesOn_10 : decode cX10_goesOn 10 = .ok (.if_icmp .ge 9, 3) := by decide +kernel
theorem dX10_goesOn_13 : decode cX10_goesOn 13 = .ok (.iload_n 2, 1) := by decide +kernel
theorem dX10_goesOn_14 : decode cX10_goesOn 14 = .ok (.iconst 3, 1) := by decide +kernel
theorem dX10_goesOn_15 : decode cX10_goesOn 15 = .ok (.iadd, 1) := by decide +kernel
theorem dX10_goesOn_16 : decode cX10_goesOn 16 = .ok (.goto 4, 3) := by decide +kernel
theorem dX10_goesOn_19 : decode cX10_goesOn 19 = .ok (.iload_n 2, 1) := by decide +kernel
theorem dX10_goesOn_20 : decode cX10_goesOn 20 = .ok (.istore 4, 2) := by decide +kernel
theorem dX10_goesOn_22 : decode cX10_goesOn 22 = .ok (.aload_n 0, 1) := by decide +kernel
theorem dX10_goesOn_23 : decode cX10_goesOn 23 = .ok (.iload_n 1, 1) := by decide +kernel
theorem dX10_goesOn_24 : decode cX10_goesOn 24 = .ok (.iconst 0, 1) := by decide +kernel
theorem dX10_goesOn_25 : decode cX10_goesOn 25 = .ok (.invokevirtual 45, 3) := by decide +kernel
theorem dX10_goesOn_28 : decode cX10_goesOn 28 = .ok (.tableswitch 82 1 5 #[36, 40, 43, 55, 61], 36) := by decide +kernel
theorem dX10_goesOn_64 : decode cX10_goesOn 64 = .ok (.iload_n 2, 1) := by decide +kernel
theorem dX10_goesOn_65 : decode cX10_goesOn 65 = .ok (.iconst 2, 1) := by decide +kernel
theorem dX10_goesOn_66 : decode cX10_goesOn 66 = .ok (.idiv, 1) := by decide +kernel
theorem dX10_goesOn_67 : decode cX10_goesOn 67 = .ok (.ireturn, 1) := by decide +kernel
theorem dX10_goesOn_68 : decode cX10_goesOn 68 = .ok (.iload 4, 2) := by decide +kernel
theorem dX10_goesOn_70 : decode cX10_goesOn 70 = .ok (.ireturn, 1) := by decide +kernel
theorem dX10_goesOn_71 : decode cX10_goesOn 71 = .ok (.iload_n 3, 1) := by decide +kernel
theorem dX10_goesOn_72 : decode cX10_goesOn 72 = .ok (.bipush 99, 2) := by decide +kernel
theorem dX10_goesOn_74 : decode cX10_goesOn 74 = .ok (.if_icmp .ne 7, 3) := by decide +kernel
theorem dX10_goesOn_77 : decode cX10_goesOn 77 = .ok (.iconst 0, 1) := by decide +kernel
theorem dX10_goesOn_78 : decode cX10_goesOn 78 = .ok (.goto 4, 3) := by decide +kernel
theorem dX10_goesOn_81 : decode cX10_goesOn 81 = .ok (.iconst 1, 1) := by decide +kernel
theorem dX10_goesOn_82 : decode cX10_goesOn 82 = .ok (.ireturn, 1) := by decide +kernel
theorem dX10_goesOn_83 : decode cX10_goesOn 83 = .ok (.iload_n 2, 1) := by decide +kernel
theorem dX10_goesOn_84 : decode cX10_goesOn 84 = .ok (.iconst 2, 1) := by decide +kernel
theorem dX10_goesOn_85 : decode cX10_goesOn 85 = .ok (.idiv, 1) := by decide +kernel
theorem dX10_goesOn_86 : decode cX10_goesOn 86 = .ok (.iconst 2, 1) := by decide +kernel
theorem dX10_goesOn_87 : decode cX10_goesOn 87 = .ok (.iadd, 1) := by decide +kernel
theorem dX10_goesOn_88 : decode cX10_goesOn 88 = .ok (.ireturn, 1) := by decide +kernel
theorem dX10_goesOn_89 : decode cX10_goesOn 89 = .ok (.aload_n 0, 1) := by decide +kernel
theorem dX10_goesOn_90 : decode cX10_goesOn 90 = .ok (.iload_n 1, 1) := by decide +kernel
theorem dX10_goesOn_91 : decode cX10_goesOn 91 = .ok (.iconst 3, 1) := by decide +kernel
theorem dX10_goesOn_92 : decode cX10_goesOn 92 = .ok (.invokevirtual 45, 3) := by decide +kernel
theorem dX10_goesOn_95 : decode cX10_goesOn 95 = .ok (.bipush 10, 2) := by decide +kernel
theorem dX10_goesOn_97 : decode cX10_goesOn 97 = .ok (.if_icmp .le 10, 3) := by decide +kernel
theorem dX10_goesOn_100 : decode cX10_goesOn 100 = .ok (.iconst 2, 1) := by decide +kernel
theorem dX10_goesOn_101 : decode cX10_goesOn 101 = .ok (.iload 4, 2) := by decide +kernel
theorem dX10_goesOn_103 : decode cX10_goesOn 103 = .ok (.imul, 1) := by decide +kernel
theorem dX10_goesOn_104 : decode cX10_goesOn 104 = .ok (.goto 5, 3) := by decide +kernel
theorem dX10_goesOn_107 : decode cX10_goesOn 107 = .ok (.iload 4, 2) := by decide +kernel
theorem dX10_goesOn_109 : decode cX10_goesOn 109 = .ok (.ireturn, 1) := by decide +kernel
theorem dX10_goesOn_110 : decode cX10_goesOn 110 = .ok (.iload_n 2, 1) := by decide +kernel
theorem dX10_goesOn_111 : decode cX10_goesOn 111 = .ok (.ireturn, 1) := by decide +kernel
theorem dX10_tires_0 : decode cX10_tires 0 = .ok (.aload_n 0, 1) := by decide +kernel
theorem dX10_tires_1 : decode cX10_tires 1 = .ok (.iload_n 1, 1) := by decide +kernel
theorem dX10_tires_2 : decode cX10_tires 2 = .ok (.iconst 0, 1) := by decide +kernel
theorem dX10_tires_3 : decode cX10_tires 3 = .ok (.invokevirtual 45, 3) := by decide +kernel
theorem dX10_tires_6 : decode cX10_tires 6 = .ok (.tableswitch 38 1 5 #[34, 38, 36, 34, 36], 34) := by decide +kernel
theorem dX10_tires_40 : decode cX10_tires 40 = .ok (.iconst 2, 1) := by decide +kernel
theorem dX10_tires_41 : decode cX10_tires 41 = .ok (.ireturn, 1) := by decide +kernel
theorem dX10_tires_42 : decode cX10_tires 42 = .ok (.iconst 0, 1) := by decide +kernel
theorem dX10_tires_43 : decode cX10_tires 43 = .ok (.ireturn, 1) := by decide +kernel
theorem dX10_tires_44 : decode cX10_tires 44 = .ok (.iconst 1, 1) := by decide +kernel
theorem dX10_tires_45 : decode cX10_tires 45 = .ok (.ireturn, 1) := by decide +kernel
theorem dX10_bids_0 : decode cX10_bids 0 = .ok (.aload_n 0, 1) := by decide +kernel
theorem dX10_bids_1 : decode cX10_bids 1 = .ok (.iload_n 1, 1) := by decide +kernel
theorem dX10_bids_2 : decode cX10_bids 2 = .ok (.iconst 1, 1) := by decide +kernel
theorem dX10_bids_3 : decode cX10_bids 3 = .ok (.invokevirtual 45, 3) := by decide +kernel
theorem dX10_bids_6 : decode cX10_bids 6 = .ok (.bipush 70, 2) := by decide +kernel
theorem dX10_bids_8 : decode cX10_bids 8 = .ok (.if_icmp .le 9, 3) := by decide +kernel
theorem dX10_bids_11 : decode cX10_bids 11 = .ok (.iconst 3, 1) := by decide +kernel
theorem dX10_bids_12 : decode cX10_bids 12 = .ok (.iload_n 2, 1) := by decide +kernel
theorem dX10_bids_13 : decode cX10_bids 13 = .ok (.imul, 1) := by decide +kernel
theorem dX10_bids_14 : decode cX10_bids 14 = .ok (.goto 6, 3) := by decide +kernel
theorem dX10_bids_17 : decode cX10_bids 17 = .ok (.iconst 2, 1) := by decide +kernel
theorem dX10_bids_18 : decode cX10_bids 18 = .ok (.iload_n 2, 1) := by decide +kernel
theorem dX10_bids_19 : decode cX10_bids 19 = .ok (.imul, 1) := by decide +kernel
theorem dX10_bids_20 : decode cX10_bids 20 = .ok (.istore_n 3, 1) := by decide +kernel
theorem dX10_bids_21 : decode cX10_bids 21 = .ok (.aload_n 0, 1) := by decide +kernel
theorem dX10_bids_22 : decode cX10_bids 22 = .ok (.iload_n 1, 1) := by decide +kernel
theorem dX10_bids_23 : decode cX10_bids 23 = .ok (.iconst 0, 1) := by decide +kernel
theorem dX10_bids_24 : decode cX10_bids 24 = .ok (.invokevirtual 45, 3) := by decide +kernel
theorem dX10_bids_27 : decode cX10_bids 27 = .ok (.tableswitch 54 1 5 #[33, 35, 37, 42, 35], 33) := by decide +kernel
theorem dX10_bids_60 : decode cX10_bids 60 = .ok (.iload_n 2, 1) := by decide +kernel
theorem dX10_bids_61 : decode cX10_bids 61 = .ok (.ireturn, 1) := by decide +kernel
theorem dX10_bids_62 : decode cX10_bids 62 = .ok (.iload_n 3, 1) := by decide +kernel
theorem dX10_bids_63 : decode cX10_bids 63 = .ok (.ireturn, 1) := by decide +kernel
theorem dX10_bids_64 : decode cX10_bids 64 = .ok (.bipush 20, 2) := by decide +kernel
theorem dX10_bids_66 : decode cX10_bids 66 = .ok (.iload_n 2, 1) := by decide +kernel
theorem dX10_bids_67 : decode cX10_bids 67 = .ok (.isub, 1) := by decide +kernel
theorem dX10_bids_68 : decode cX10_bids 68 = .ok (.ireturn, 1) := by decide +kernel
theorem dX10_bids_69 : decode cX10_bids 69 = .ok (.iload_n 2, 1) := by decide +kernel
theorem dX10_bids_70 : decode cX10_bids 70 = .ok (.aload_n 0, 1) := by decide +kernel
theorem dX10_bids_71 : decode cX10_bids 71 = .ok (.iload_n 1, 1) := by decide +kernel
theorem dX10_bids_72 : decode cX10_bids 72 = .ok (.iconst 3, 1) := by decide +kernel
theorem dX10_bids_73 : decode cX10_bids 73 = .ok (.invokevirtual 45, 3) := by decide +kernel
theorem dX10_bids_76 : decode cX10_bids 76 = .ok (.bipush 10, 2) := by decide +kernel
theorem dX10_bids_78 : decode cX10_bids 78 = .ok (.idiv, 1) := by decide +kernel
theorem dX10_bids_79 : decode cX10_bids 79 = .ok (.iadd, 1) := by decide +kernel
theorem dX10_bids_80 : decode cX10_bids 80 = .ok (.ireturn, 1) := by decide +kernel
theorem dX10_bids_81 : decode cX10_bids 81 = .ok (.iconst 2, 1) := by decide +kernel
theorem dX10_bids_82 : decode cX10_bids 82 = .ok (.iload_n 2, 1) := by decide +kernel
theorem dX10_bids_83 : decode cX10_bids 83 = .ok (.imul, 1) := by decide +kernel
theorem dX10_bids_84 : decode cX10_bids 84 = .ok (.ireturn, 1) := by decide +kernel
theorem dX10_asked_0 : decode cX10_asked 0 = .ok (.aload_n 0, 1) := by decide +kernel
theorem dX10_asked_1 : decode cX10_asked 1 = .ok (.iload_n 1, 1) := by decide +kernel
theorem dX10_asked_2 : decode cX10_asked 2 = .ok (.iconst 0, 1) := by decide +kernel
theorem dX10_asked_3 : decode cX10_asked 3 = .ok (.invokevirtual 45, 3) := by decide +kernel
theorem dX10_asked_6 : decode cX10_asked 6 = .ok (.tableswitch 74 1 5 #[34, 74, 59, 34, 61], 34) := by decide +kernel
theorem dX10_asked_40 : decode cX10_asked 40 = .ok (.aload_n 0, 1) := by decide +kernel
theorem dX10_asked_41 : decode cX10_asked 41 = .ok (.iload_n 1, 1) := by decide +kernel
theorem dX10_asked_42 : decode cX10_asked 42 = .ok (.iconst 3, 1) := by decide +kernel
theorem dX10_asked_43 : decode cX10_asked 43 = .ok (.invokevirtual 45, 3) := by decide +kernel
theorem dX10_asked_46 : decode cX10_asked 46 = .ok (.bipush 7, 2) := by decide +kernel
theorem dX10_asked_48 : decode cX10_asked 48 = .ok (.if_icmp .ge 15, 3) := by decide +kernel
theorem dX10_asked_51 : decode cX10_asked 51 = .ok (.bipush 8, 2) := by decide +kernel
theorem dX10_asked_53 : decode cX10_asked 53 = .ok (.aload_n 0, 1) := by decide +kernel
theorem dX10_asked_54 : decode cX10_asked 54 = .ok (.iload_n 1, 1) := by decide +kernel
theorem dX10_asked_55 : decode cX10_asked 55 = .ok (.iconst 3, 1) := by decide +kernel
theorem dX10_asked_56 : decode cX10_asked 56 = .ok (.invokevirtual 45, 3) := by decide +kernel
theorem dX10_asked_59 : decode cX10_asked 59 = .ok (.isub, 1) := by decide +kernel
theorem dX10_asked_60 : decode cX10_asked 60 = .ok (.goto 4, 3) := by decide +kernel
theorem dX10_asked_63 : decode cX10_asked 63 = .ok (.iconst 1, 1) := by decide +kernel
theorem dX10_asked_64 : decode cX10_asked 64 = .ok (.ireturn, 1) := by decide +kernel
theorem dX10_asked_65 : decode cX10_asked 65 = .ok (.iconst 1, 1) := by decide +kernel
theorem dX10_asked_66 : decode cX10_asked 66 = .ok (.ireturn, 1) := by decide +kernel
theorem dX10_asked_67 : decode cX10_asked 67 = .ok (.bipush 8, 2) := by decide +kernel
theorem dX10_asked_69 : decode cX10_asked 69 = .ok (.aload_n 0, 1) := by decide +kernel
theorem dX10_asked_70 : decode cX10_asked 70 = .ok (.iload_n 1, 1) := by decide +kernel
theorem dX10_asked_71 : decode cX10_asked 71 = .ok (.iconst 1, 1) := by decide +kernel
theorem dX10_asked_72 : decode cX10_asked 72 = .ok (.invokevirtual 45, 3) := by decide +kernel
theorem dX10_asked_75 : decode cX10_asked 75 = .ok (.bipush 10, 2) := by decide +kernel
theorem dX10_asked_77 : decode cX10_asked 77 = .ok (.idiv, 1) := by decide +kernel
theorem dX10_asked_78 : decode cX10_asked 78 = .ok (.iadd, 1) := by decide +kernel
theorem dX10_asked_79 : decode cX10_asked 79 = .ok (.ireturn, 1) := by decide +kernel
theorem dX10_asked_80 : decode cX10_asked 80 = .ok (.bipush 8, 2) := by decide +kernel
theorem dX10_asked_82 : decode cX10_asked 82 = .ok (.ireturn, 1) := by decide +kernel
theorem dX10_comesAs_0 : decode cX10_comesAs 0 = .ok (.aload_n 0, 1) := by decide +kernel
theorem dX10_comesAs_1 : decode cX10_comesAs 1 = .ok (.getfield 9, 3) := by decide +kernel
theorem dX10_comesAs_4 : decode cX10_comesAs 4 = .ok (.iconst 1, 1) := by decide +kernel
theorem dX10_comesAs_5 : decode cX10_comesAs 5 = .ok (.iaload, 1) := by decide +kernel
theorem dX10_comesAs_6 : decode cX10_comesAs 6 = .ok (.istore 5, 2) := by decide +kernel
theorem dX10_comesAs_8 : decode cX10_comesAs 8 = .ok (.aload_n 0, 1) := by decide +kernel
theorem dX10_comesAs_9 : decode cX10_comesAs 9 = .ok (.getfield 9, 3) := by decide +kernel
theorem dX10_comesAs_12 : decode cX10_comesAs 12 = .ok (.iconst 1, 1) := by decide +kernel
theorem dX10_comesAs_13 : decode cX10_comesAs 13 = .ok (.dup2, 1) := by decide +kernel
theorem dX10_comesAs_14 : decode cX10_comesAs 14 = .ok (.iaload, 1) := by decide +kernel
theorem dX10_comesAs_15 : decode cX10_comesAs 15 = .ok (.iconst 1, 1) := by decide +kernel
theorem dX10_comesAs_16 : decode cX10_comesAs 16 = .ok (.iadd, 1) := by decide +kernel
theorem dX10_comesAs_17 : decode cX10_comesAs 17 = .ok (.iastore, 1) := by decide +kernel
theorem dX10_comesAs_18 : decode cX10_comesAs 18 = .ok (.aload_n 0, 1) := by decide +kernel
theorem dX10_comesAs_19 : decode cX10_comesAs 19 = .ok (.iload 5, 2) := by decide +kernel
theorem dX10_comesAs_21 : decode cX10_comesAs 21 = .ok (.iconst 0, 1) := by decide +kernel
theorem dX10_comesAs_22 : decode cX10_comesAs 22 = .ok (.iload_n 1, 1) := by decide +kernel
theorem dX10_comesAs_23 : decode cX10_comesAs 23 = .ok (.invokevirtual 72, 3) := by decide +kernel
theorem dX10_comesAs_26 : decode cX10_comesAs 26 = .ok (.aload_n 0, 1) := by decide +kernel
theorem dX10_comesAs_27 : decode cX10_comesAs 27 = .ok (.iload 5, 2) := by decide +kernel
theorem dX10_comesAs_29 : decode cX10_comesAs 29 = .ok (.iconst 1, 1) := by decide +kernel
theorem dX10_comesAs_30 : decode cX10_comesAs 30 = .ok (.iload_n 2, 1) := by decide +kernel
theorem dX10_comesAs_31 : decode cX10_comesAs 31 = .ok (.invokevirtual 72, 3) := by decide +kernel
theorem dX10_comesAs_34 : decode cX10_comesAs 34 = .ok (.aload_n 0, 1) := by decide +kernel
theorem dX10_comesAs_35 : decode cX10_comesAs 35 = .ok (.iload 5, 2) := by decide +kernel
theorem dX10_comesAs_37 : decode cX10_comesAs 37 = .ok (.iconst 2, 1) := by decide +kernel
theorem dX10_comesAs_38 : decode cX10_comesAs 38 = .ok (.iload_n 3, 1) := by decide +kernel
theorem dX10_comesAs_39 : decode cX10_comesAs 39 = .ok (.invokevirtual 72, 3) := by decide +kernel
theorem dX10_comesAs_42 : decode cX10_comesAs 42 = .ok (.aload_n 0, 1) := by decide +kernel
theorem dX10_comesAs_43 : decode cX10_comesAs 43 = .ok (.iload 5, 2) := by decide +kernel
theorem dX10_comesAs_45 : decode cX10_comesAs 45 = .ok (.iconst 3, 1) := by decide +kernel
theorem dX10_comesAs_46 : decode cX10_comesAs 46 = .ok (.iload 4, 2) := by decide +kernel
theorem dX10_comesAs_48 : decode cX10_comesAs 48 = .ok (.invokevirtual 72, 3) := by decide +kernel
theorem dX10_comesAs_51 : decode cX10_comesAs 51 = .ok (.iload 5, 2) := by decide +kernel
theorem dX10_comesAs_53 : decode cX10_comesAs 53 = .ok (.ireturn, 1) := by decide +kernel
theorem dX10_thing_0 : decode cX10_thing 0 = .ok (.iload_n 1, 1) := by decide +kernel
theorem dX10_thing_1 : decode cX10_thing 1 = .ok (.i2l, 1) := by decide +kernel
theorem dX10_thing_2 : decode cX10_thing 2 = .ok (.iconst 0, 1) := by decide +kernel
theorem dX10_thing_3 : decode cX10_thing 3 = .ok (.iconst 5, 1) := by decide +kernel
theorem dX10_thing_4 : decode cX10_thing 4 = .ok (.invokestatic 41, 3) := by decide +kernel
theorem dX10_thing_7 : decode cX10_thing 7 = .ok (.ifCond .eq 14, 3) := by decide +kernel
theorem dX10_thing_10 : decode cX10_thing 10 = .ok (.iload_n 2, 1) := by decide +kernel
theorem dX10_thing_11 : decode cX10_thing 11 = .ok (.i2l, 1) := by decide +kernel
theorem dX10_thing_12 : decode cX10_thing 12 = .ok (.iconst 0, 1) := by decide +kernel
theorem dX10_thing_13 : decode cX10_thing 13 = .ok (.bipush 99, 2) := by decide +kernel
theorem dX10_thing_15 : decode cX10_thing 15 = .ok (.invokestatic 41, 3) := by decide +kernel
theorem dX10_thing_18 : decode cX10_thing 18 = .ok (.ifCond .ne 10, 3) := by decide +kernel
theorem dX10_thing_21 : decode cX10_thing 21 = .ok (.aload_n 0, 1) := by decide +kernel
theorem dX10_thing_22 : decode cX10_thing 22 = .ok (.ldc 35, 2) := by decide +kernel
theorem dX10_thing_24 : decode cX10_thing 24 = .ok (.invokevirtual 37, 3) := by decide +kernel
theorem dX10_thing_27 : decode cX10_thing 27 = .ok (.ireturn, 1) := by decide +kernel
theorem dX10_thing_28 : decode cX10_thing 28 = .ok (.aload_n 0, 1) := by decide +kernel
theorem dX10_thing_29 : decode cX10_thing 29 = .ok (.getfield 9, 3) := by decide +kernel
theorem dX10_thing_32 : decode cX10_thing 32 = .ok (.iconst 1, 1) := by decide +kernel
theorem dX10_thing_33 : decode cX10_thing 33 = .ok (.iaload, 1) := by decide +kernel
theorem dX10_thing_34 : decode cX10_thing 34 = .ok (.bipush 8, 2) := by decide +kernel
theorem dX10_thing_36 : decode cX10_thing 36 = .ok (.if_icmp .ne 12, 3) := by decide +kernel
theorem dX10_thing_39 : decode cX10_thing 39 = .ok (.aload_n 0, 1) := by decide +kernel
theorem dX10_thing_40 : decode cX10_thing 40 = .ok (.ldc 76, 2) := by decide +kernel
theorem dX10_thing_42 : decode cX10_thing 42 = .ok (.invokevirtual 37, 3) := by decide +kernel
theorem dX10_thing_45 : decode cX10_thing 45 = .ok (.goto 11, 3) := by decide +kernel
theorem dX10_thing_48 : decode cX10_thing 48 = .ok (.aload_n 0, 1) := by decide +kernel
theorem dX10_thing_49 : decode cX10_thing 49 = .ok (.iload_n 1, 1) := by decide +kernel
theorem dX10_thing_50 : decode cX10_thing 50 = .ok (.iload_n 2, 1) := by decide +kernel
theorem dX10_thing_51 : decode cX10_thing 51 = .ok (.iconst (-1), 1) := by decide +kernel
theorem dX10_thing_52 : decode cX10_thing 52 = .ok (.iconst 0, 1) := by decide +kernel
theorem dX10_thing_53 : decode cX10_thing 53 = .ok (.invokevirtual 77, 3) := by decide +kernel
theorem dX10_thing_56 : decode cX10_thing 56 = .ok (.ireturn, 1) := by decide +kernel
end
section
theorem dX10_of_0 : decode cX10_of 0 = .ok (.aload_n 0, 1) := by decide +kernel
theorem dX10_of_1 : decode cX10_of 1 = .ok (.iload_n 1, 1) := by decide +kernel
theorem dX10_of_2 : decode cX10_of 2 = .ok (.invokevirtual 81, 3) := by decide +kernel
theorem dX10_of_5 : decode cX10_of 5 = .ok (.ifCond .eq 13, 3) := by decide +kernel
theorem dX10_of_8 : decode cX10_of 8 = .ok (.iload_n 2, 1) := by decide +kernel
theorem dX10_of_9 : decode cX10_of 9 = .ok (.i2l, 1) := by decide +kernel
theorem dX10_of_10 : decode cX10_of 10 = .ok (.iconst 0, 1) := by decide +kernel
theorem dX10_of_11 : decode cX10_of 11 = .ok (.iconst 5, 1) := by decide +kernel
theorem dX10_of_12 : decode cX10_of 12 = .ok (.invokestatic 41, 3) := by decide +kernel
theorem dX10_of_15 : decode cX10_of 15 = .ok (.ifCond .ne 10, 3) := by decide +kernel
theorem dX10_of_18 : decode cX10_of 18 = .ok (.aload_n 0, 1) := by decide +kernel
theorem dX10_of_19 : decode cX10_of 19 = .ok (.ldc 35, 2) := by decide +kernel
theorem dX10_of_21 : decode cX10_of 21 = .ok (.invokevirtual 37, 3) := by decide +kernel
theorem dX10_of_24 : decode cX10_of 24 = .ok (.ireturn, 1) := by decide +kernel
theorem dX10_of_25 : decode cX10_of 25 = .ok (.iload_n 2, 1) := by decide +kernel
theorem dX10_of_26 : decode cX10_of 26 = .ok (.iconst 4, 1) := by decide +kernel
theorem dX10_of_27 : decode cX10_of 27 = .ok (.if_icmp .ge 12, 3) := by decide +kernel
theorem dX10_of_30 : decode cX10_of 30 = .ok (.aload_n 0, 1) := by decide +kernel
theorem dX10_of_31 : decode cX10_of 31 = .ok (.iload_n 1, 1) := by decide +kernel
theorem dX10_of_32 : decode cX10_of 32 = .ok (.iload_n 2, 1) := by decide +kernel
theorem dX10_of_33 : decode cX10_of 33 = .ok (.invokevirtual 45, 3) := by decide +kernel
theorem dX10_of_36 : decode cX10_of 36 = .ok (.goto 21, 3) := by decide +kernel
theorem dX10_of_39 : decode cX10_of 39 = .ok (.iload_n 2, 1) := by decide +kernel
theorem dX10_of_40 : decode cX10_of 40 = .ok (.iconst 4, 1) := by decide +kernel
theorem dX10_of_41 : decode cX10_of 41 = .ok (.if_icmp .ne 11, 3) := by decide +kernel
theorem dX10_of_44 : decode cX10_of 44 = .ok (.aload_n 0, 1) := by decide +kernel
theorem dX10_of_45 : decode cX10_of 45 = .ok (.iload_n 1, 1) := by decide +kernel
theorem dX10_of_46 : decode cX10_of 46 = .ok (.invokevirtual 84, 3) := by decide +kernel
theorem dX10_of_49 : decode cX10_of 49 = .ok (.goto 8, 3) := by decide +kernel
theorem dX10_of_52 : decode cX10_of 52 = .ok (.aload_n 0, 1) := by decide +kernel
theorem dX10_of_53 : decode cX10_of 53 = .ok (.iload_n 1, 1) := by decide +kernel
theorem dX10_of_54 : decode cX10_of 54 = .ok (.invokevirtual 87, 3) := by decide +kernel
theorem dX10_of_57 : decode cX10_of 57 = .ok (.ireturn, 1) := by decide +kernel
theorem dX10_by_0 : decode cX10_by 0 = .ok (.aload_n 0, 1) := by decide +kernel
theorem dX10_by_1 : decode cX10_by 1 = .ok (.iload_n 1, 1) := by decide +kernel
theorem dX10_by_2 : decode cX10_by 2 = .ok (.invokevirtual 81, 3) := by decide +kernel
theorem dX10_by_5 : decode cX10_by 5 = .ok (.ifCond .eq 20, 3) := by decide +kernel
theorem dX10_by_8 : decode cX10_by 8 = .ok (.iload_n 2, 1) := by decide +kernel
theorem dX10_by_9 : decode cX10_by 9 = .ok (.invokestatic 49, 3) := by decide +kernel
theorem dX10_by_12 : decode cX10_by 12 = .ok (.ifCond .eq 13, 3) := by decide +kernel
theorem dX10_by_15 : decode cX10_by 15 = .ok (.iload_n 3, 1) := by decide +kernel
theorem dX10_by_16 : decode cX10_by 16 = .ok (.i2l, 1) := by decide +kernel
theorem dX10_by_17 : decode cX10_by 17 = .ok (.iconst 0, 1) := by decide +kernel
theorem dX10_by_18 : decode cX10_by 18 = .ok (.iconst 1, 1) := by decide +kernel
theorem dX10_by_19 : decode cX10_by 19 = .ok (.invokestatic 41, 3) := by decide +kernel
theorem dX10_by_22 : decode cX10_by 22 = .ok (.ifCond .ne 10, 3) := by decide +kernel
theorem dX10_by_25 : decode cX10_by 25 = .ok (.aload_n 0, 1) := by decide +kernel
theorem dX10_by_26 : decode cX10_by 26 = .ok (.ldc 35, 2) := by decide +kernel
theorem dX10_by_28 : decode cX10_by 28 = .ok (.invokevirtual 37, 3) := by decide +kernel
theorem dX10_by_31 : decode cX10_by 31 = .ok (.ireturn, 1) := by decide +kernel
theorem dX10_by_32 : decode cX10_by 32 = .ok (.iload_n 3, 1) := by decide +kernel
theorem dX10_by_33 : decode cX10_by 33 = .ok (.ifCond .ne 17, 3) := by decide +kernel
theorem dX10_by_36 : decode cX10_by 36 = .ok (.aload_n 0, 1) := by decide +kernel
theorem dX10_by_37 : decode cX10_by 37 = .ok (.iload_n 1, 1) := by decide +kernel
theorem dX10_by_38 : decode cX10_by 38 = .ok (.aload_n 0, 1) := by decide +kernel
theorem dX10_by_39 : decode cX10_by 39 = .ok (.iload_n 2, 1) := by decide +kernel
theorem dX10_by_40 : decode cX10_by 40 = .ok (.iconst 0, 1) := by decide +kernel
theorem dX10_by_41 : decode cX10_by 41 = .ok (.invokevirtual 63, 3) := by decide +kernel
theorem dX10_by_44 : decode cX10_by 44 = .ok (.invokevirtual 90, 3) := by decide +kernel
theorem dX10_by_47 : decode cX10_by 47 = .ok (.goto 14, 3) := by decide +kernel
theorem dX10_by_50 : decode cX10_by 50 = .ok (.aload_n 0, 1) := by decide +kernel
theorem dX10_by_51 : decode cX10_by 51 = .ok (.iload_n 1, 1) := by decide +kernel
theorem dX10_by_52 : decode cX10_by 52 = .ok (.aload_n 0, 1) := by decide +kernel
theorem dX10_by_53 : decode cX10_by 53 = .ok (.iload_n 2, 1) := by decide +kernel
theorem dX10_by_54 : decode cX10_by 54 = .ok (.iconst 0, 1) := by decide +kernel
theorem dX10_by_55 : decode cX10_by 55 = .ok (.invokevirtual 63, 3) := by decide +kernel
theorem dX10_by_58 : decode cX10_by 58 = .ok (.invokevirtual 93, 3) := by decide +kernel
theorem dX10_by_61 : decode cX10_by 61 = .ok (.ireturn, 1) := by decide +kernel
theorem dX10_set_0 : decode cX10_set 0 = .ok (.aload_n 0, 1) := by decide +kernel
theorem dX10_set_1 : decode cX10_set 1 = .ok (.iload_n 1, 1) := by decide +kernel
theorem dX10_set_2 : decode cX10_set 2 = .ok (.invokevirtual 81, 3) := by decide +kernel
theorem dX10_set_5 : decode cX10_set 5 = .ok (.ifCond .eq 57, 3) := by decide +kernel
theorem dX10_set_8 : decode cX10_set 8 = .ok (.iload_n 2, 1) := by decide +kernel
theorem dX10_set_9 : decode cX10_set 9 = .ok (.i2l, 1) := by decide +kernel
theorem dX10_set_10 : decode cX10_set 10 = .ok (.iconst 1, 1) := by decide +kernel
theorem dX10_set_11 : decode cX10_set 11 = .ok (.iconst 3, 1) := by decide +kernel
theorem dX10_set_12 : decode cX10_set 12 = .ok (.invokestatic 41, 3) := by decide +kernel
theorem dX10_set_15 : decode cX10_set 15 = .ok (.ifCond .eq 47, 3) := by decide +kernel
theorem dX10_set_18 : decode cX10_set 18 = .ok (.iload_n 3, 1) := by decide +kernel
theorem dX10_set_19 : decode cX10_set 19 = .ok (.i2l, 1) := by decide +kernel
theorem dX10_set_20 : decode cX10_set 20 = .ok (.iload_n 2, 1) := by decide +kernel
theorem dX10_set_21 : decode cX10_set 21 = .ok (.iconst 2, 1) := by decide +kernel
theorem dX10_set_22 : decode cX10_set 22 = .ok (.if_icmp .ne 7, 3) := by decide +kernel
theorem dX10_set_25 : decode cX10_set 25 = .ok (.iconst (-1), 1) := by decide +kernel
theorem dX10_set_26 : decode cX10_set 26 = .ok (.goto 4, 3) := by decide +kernel
theorem dX10_set_29 : decode cX10_set 29 = .ok (.iconst 0, 1) := by decide +kernel
theorem dX10_set_30 : decode cX10_set 30 = .ok (.iload_n 2, 1) := by decide +kernel
theorem dX10_set_31 : decode cX10_set 31 = .ok (.iconst 1, 1) := by decide +kernel
theorem dX10_set_32 : decode cX10_set 32 = .ok (.if_icmp .ne 8, 3) := by decide +kernel
theorem dX10_set_35 : decode cX10_set 35 = .ok (.bipush 100, 2) := by decide +kernel
theorem dX10_set_37 : decode cX10_set 37 = .ok (.goto 15, 3) := by decide +kernel
theorem dX10_set_40 : decode cX10_set 40 = .ok (.iload_n 2, 1) := by decide +kernel
theorem dX10_set_41 : decode cX10_set 41 = .ok (.iconst 2, 1) := by decide +kernel
theorem dX10_set_42 : decode cX10_set 42 = .ok (.if_icmp .ne 7, 3) := by decide +kernel
theorem dX10_set_45 : decode cX10_set 45 = .ok (.iconst 5, 1) := by decide +kernel
theorem dX10_set_46 : decode cX10_set 46 = .ok (.goto 6, 3) := by decide +kernel
theorem dX10_set_49 : decode cX10_set 49 = .ok (.sipush 999, 3) := by decide +kernel
theorem dX10_set_52 : decode cX10_set 52 = .ok (.invokestatic 41, 3) := by decide +kernel
theorem dX10_set_55 : decode cX10_set 55 = .ok (.ifCond .eq 7, 3) := by decide +kernel
theorem dX10_set_58 : decode cX10_set 58 = .ok (.iconst 1, 1) := by decide +kernel
theorem dX10_set_59 : decode cX10_set 59 = .ok (.goto 4, 3) := by decide +kernel
theorem dX10_set_62 : decode cX10_set 62 = .ok (.iconst 0, 1) := by decide +kernel
theorem dX10_set_63 : decode cX10_set 63 = .ok (.istore 4, 2) := by decide +kernel
theorem dX10_set_65 : decode cX10_set 65 = .ok (.iload 4, 2) := by decide +kernel
theorem dX10_set_67 : decode cX10_set 67 = .ok (.ifCond .eq 19, 3) := by decide +kernel
theorem dX10_set_70 : decode cX10_set 70 = .ok (.aload_n 0, 1) := by decide +kernel
theorem dX10_set_71 : decode cX10_set 71 = .ok (.bipush 20, 2) := by decide +kernel
theorem dX10_set_73 : decode cX10_set 73 = .ok (.iconst 4, 1) := by decide +kernel
theorem dX10_set_74 : decode cX10_set 74 = .ok (.iload_n 1, 1) := by decide +kernel
theorem dX10_set_75 : decode cX10_set 75 = .ok (.imul, 1) := by decide +kernel
theorem dX10_set_76 : decode cX10_set 76 = .ok (.iadd, 1) := by decide +kernel
theorem dX10_set_77 : decode cX10_set 77 = .ok (.iload_n 2, 1) := by decide +kernel
theorem dX10_set_78 : decode cX10_set 78 = .ok (.iadd, 1) := by decide +kernel
theorem dX10_set_79 : decode cX10_set 79 = .ok (.iload_n 3, 1) := by decide +kernel
theorem dX10_set_80 : decode cX10_set 80 = .ok (.invokevirtual 57, 3) := by decide +kernel
theorem dX10_set_83 : decode cX10_set 83 = .ok (.goto 9, 3) := by decide +kernel
theorem dX10_set_86 : decode cX10_set 86 = .ok (.aload_n 0, 1) := by decide +kernel
theorem dX10_set_87 : decode cX10_set 87 = .ok (.ldc 35, 2) := by decide +kernel
theorem dX10_set_89 : decode cX10_set 89 = .ok (.invokevirtual 37, 3) := by decide +kernel
theorem dX10_set_92 : decode cX10_set 92 = .ok (.ireturn, 1) := by decide +kernel
theorem dX10_turn_0 : decode cX10_turn 0 = .ok (.aload_n 0, 1) := by decide +kernel
theorem dX10_turn_1 : decode cX10_turn 1 = .ok (.iload_n 1, 1) := by decide +kernel
theorem dX10_turn_2 : decode cX10_turn 2 = .ok (.invokevirtual 81, 3) := by decide +kernel
theorem dX10_turn_5 : decode cX10_turn 5 = .ok (.ifCond .eq 27, 3) := by decide +kernel
theorem dX10_turn_8 : decode cX10_turn 8 = .ok (.iload_n 2, 1) := by decide +kernel
theorem dX10_turn_9 : decode cX10_turn 9 = .ok (.i2l, 1) := by decide +kernel
theorem dX10_turn_10 : decode cX10_turn 10 = .ok (.iconst 0, 1) := by decide +kernel
theorem dX10_turn_11 : decode cX10_turn 11 = .ok (.iconst 5, 1) := by decide +kernel
theorem dX10_turn_12 : decode cX10_turn 12 = .ok (.invokestatic 41, 3) := by decide +kernel
theorem dX10_turn_15 : decode cX10_turn 15 = .ok (.ifCond .eq 17, 3) := by decide +kernel
theorem dX10_turn_18 : decode cX10_turn 18 = .ok (.aload_n 0, 1) := by decide +kernel
theorem dX10_turn_19 : decode cX10_turn 19 = .ok (.bipush 20, 2) := by decide +kernel
theorem dX10_turn_21 : decode cX10_turn 21 = .ok (.iconst 4, 1) := by decide +kernel
theorem dX10_turn_22 : decode cX10_turn 22 = .ok (.iload_n 1, 1) := by decide +kernel
theorem dX10_turn_23 : decode cX10_turn 23 = .ok (.imul, 1) := by decide +kernel
theorem dX10_turn_24 : decode cX10_turn 24 = .ok (.iadd, 1) := by decide +kernel
theorem dX10_turn_25 : decode cX10_turn 25 = .ok (.iload_n 2, 1) := by decide +kernel
theorem dX10_turn_26 : decode cX10_turn 26 = .ok (.invokevirtual 57, 3) := by decide +kernel
theorem dX10_turn_29 : decode cX10_turn 29 = .ok (.goto 9, 3) := by decide +kernel
theorem dX10_turn_32 : decode cX10_turn 32 = .ok (.aload_n 0, 1) := by decide +kernel
theorem dX10_turn_33 : decode cX10_turn 33 = .ok (.ldc 35, 2) := by decide +kernel
theorem dX10_turn_35 : decode cX10_turn 35 = .ok (.invokevirtual 37, 3) := by decide +kernel
theorem dX10_turn_38 : decode cX10_turn 38 = .ok (.ireturn, 1) := by decide +kernel
theorem dX10_as_0 : decode cX10_as 0 = .ok (.aload_n 0, 1) := by decide +kernel
theorem dX10_as_1 : decode cX10_as 1 = .ok (.iload_n 1, 1) := by decide +kernel
theorem dX10_as_2 : decode cX10_as 2 = .ok (.invokevirtual 81, 3) := by decide +kernel
theorem dX10_as_5 : decode cX10_as 5 = .ok (.ifCond .eq 13, 3) := by decide +kernel
theorem dX10_as_8 : decode cX10_as 8 = .ok (.iload_n 2, 1) := by decide +kernel
theorem dX10_as_9 : decode cX10_as 9 = .ok (.i2l, 1) := by decide +kernel
theorem dX10_as_10 : decode cX10_as 10 = .ok (.iconst 0, 1) := by decide +kernel
theorem dX10_as_11 : decode cX10_as 11 = .ok (.iconst 5, 1) := by decide +kernel
theorem dX10_as_12 : decode cX10_as 12 = .ok (.invokestatic 41, 3) := by decide +kernel
theorem dX10_as_15 : decode cX10_as 15 = .ok (.ifCond .ne 10, 3) := by decide +kernel
theorem dX10_as_18 : decode cX10_as 18 = .ok (.aload_n 0, 1) := by decide +kernel
theorem dX10_as_19 : decode cX10_as 19 = .ok (.ldc 35, 2) := by decide +kernel
theorem dX10_as_21 : decode cX10_as 21 = .ok (.invokevirtual 37, 3) := by decide +kernel
theorem dX10_as_24 : decode cX10_as 24 = .ok (.ireturn, 1) := by decide +kernel
theorem dX10_as_25 : decode cX10_as 25 = .ok (.aload_n 0, 1) := by decide +kernel
theorem dX10_as_26 : decode cX10_as 26 = .ok (.iload_n 1, 1) := by decide +kernel
theorem dX10_as_27 : decode cX10_as 27 = .ok (.iconst 0, 1) := by decide +kernel
theorem dX10_as_28 : decode cX10_as 28 = .ok (.invokevirtual 45, 3) := by decide +kernel
theorem dX10_as_31 : decode cX10_as 31 = .ok (.istore_n 3, 1) := by decide +kernel
theorem dX10_as_32 : decode cX10_as 32 = .ok (.iload_n 2, 1) := by decide +kernel
theorem dX10_as_33 : decode cX10_as 33 = .ok (.ifCond .eq 28, 3) := by decide +kernel
theorem dX10_as_36 : decode cX10_as 36 = .ok (.iload_n 2, 1) := by decide +kernel
theorem dX10_as_37 : decode cX10_as 37 = .ok (.iload_n 3, 1) := by decide +kernel
theorem dX10_as_38 : decode cX10_as 38 = .ok (.if_icmp .eq 23, 3) := by decide +kernel
theorem dX10_as_41 : decode cX10_as 41 = .ok (.iload_n 2, 1) := by decide +kernel
theorem dX10_as_42 : decode cX10_as 42 = .ok (.iconst 1, 1) := by decide +kernel
theorem dX10_as_43 : decode cX10_as 43 = .ok (.if_icmp .ne 8, 3) := by decide +kernel
theorem dX10_as_46 : decode cX10_as 46 = .ok (.iload_n 3, 1) := by decide +kernel
theorem dX10_as_47 : decode cX10_as 47 = .ok (.iconst 4, 1) := by decide +kernel
theorem dX10_as_48 : decode cX10_as 48 = .ok (.if_icmp .eq 13, 3) := by decide +kernel
theorem dX10_as_51 : decode cX10_as 51 = .ok (.iload_n 2, 1) := by decide +kernel
theorem dX10_as_52 : decode cX10_as 52 = .ok (.iconst 2, 1) := by decide +kernel
theorem dX10_as_53 : decode cX10_as 53 = .ok (.if_icmp .ne 12, 3) := by decide +kernel
theorem dX10_as_56 : decode cX10_as 56 = .ok (.iload_n 3, 1) := by decide +kernel
theorem dX10_as_57 : decode cX10_as 57 = .ok (.iconst 5, 1) := by decide +kernel
theorem dX10_as_58 : decode cX10_as 58 = .ok (.if_icmp .ne 7, 3) := by decide +kernel
theorem dX10_as_61 : decode cX10_as 61 = .ok (.iconst 1, 1) := by decide +kernel
theorem dX10_as_62 : decode cX10_as 62 = .ok (.goto 4, 3) := by decide +kernel
theorem dX10_as_65 : decode cX10_as 65 = .ok (.iconst 0, 1) := by decide +kernel
theorem dX10_as_66 : decode cX10_as 66 = .ok (.istore 4, 2) := by decide +kernel
theorem dX10_as_68 : decode cX10_as 68 = .ok (.iload 4, 2) := by decide +kernel
theorem dX10_as_70 : decode cX10_as 70 = .ok (.ifCond .eq 12, 3) := by decide +kernel
theorem dX10_as_73 : decode cX10_as 73 = .ok (.aload_n 0, 1) := by decide +kernel
theorem dX10_as_74 : decode cX10_as 74 = .ok (.iload_n 1, 1) := by decide +kernel
theorem dX10_as_75 : decode cX10_as 75 = .ok (.iconst 1, 1) := by decide +kernel
theorem dX10_as_76 : decode cX10_as 76 = .ok (.invokevirtual 45, 3) := by decide +kernel
theorem dX10_as_79 : decode cX10_as 79 = .ok (.goto 9, 3) := by decide +kernel
theorem dX10_as_82 : decode cX10_as 82 = .ok (.aload_n 0, 1) := by decide +kernel
theorem dX10_as_83 : decode cX10_as 83 = .ok (.ldc 96, 2) := by decide +kernel
theorem dX10_as_85 : decode cX10_as 85 = .ok (.invokevirtual 37, 3) := by decide +kernel
theorem dX10_as_88 : decode cX10_as 88 = .ok (.ireturn, 1) := by decide +kernel
theorem dX10_canLeave_0 : decode cX10_canLeave 0 = .ok (.aload_n 0, 1) := by decide +kernel
theorem dX10_canLeave_1 : decode cX10_canLeave 1 = .ok (.iload_n 1, 1) := by decide +kernel
theorem dX10_canLeave_2 : decode cX10_canLeave 2 = .ok (.iconst 2, 1) := by decide +kernel
theorem dX10_canLeave_3 : decode cX10_canLeave 3 = .ok (.invokevirtual 45, 3) := by decide +kernel
theorem dX10_canLeave_6 : decode cX10_canLeave 6 = .ok (.ifCond .lt 15, 3) := by decide +kernel
theorem dX10_canLeave_9 : decode cX10_canLeave 9 = .ok (.aload_n 0, 1) := by decide +kernel
theorem dX10_canLeave_10 : decode cX10_canLeave 10 = .ok (.iload_n 1, 1) := by decide +kernel
theorem dX10_canLeave_11 : decode cX10_canLeave 11 = .ok (.invokevirtual 60, 3) := by decide +kernel
theorem dX10_canLeave_14 : decode cX10_canLeave 14 = .ok (.ifCond .ne 7, 3) := by decide +kernel
theorem dX10_canLeave_17 : decode cX10_canLeave 17 = .ok (.iconst 1, 1) := by decide +kernel
theorem dX10_canLeave_18 : decode cX10_canLeave 18 = .ok (.goto 4, 3) := by decide +kernel
theorem dX10_canLeave_21 : decode cX10_canLeave 21 = .ok (.iconst 0, 1) := by decide +kernel
theorem dX10_canLeave_22 : decode cX10_canLeave 22 = .ok (.ireturn, 1) := by decide +kernel
theorem dX10_leaves_0 : decode cX10_leaves 0 = .ok (.aload_n 0, 1) := by decide +kernel
theorem dX10_leaves_1 : decode cX10_leaves 1 = .ok (.iload_n 1, 1) := by decide +kernel
theorem dX10_leaves_2 : decode cX10_leaves 2 = .ok (.iconst 2, 1) := by decide +kernel
theorem dX10_leaves_3 : decode cX10_leaves 3 = .ok (.invokevirtual 45, 3) := by decide +kernel
theorem dX10_leaves_6 : decode cX10_leaves 6 = .ok (.istore_n 2, 1) := by decide +kernel
theorem dX10_leaves_7 : decode cX10_leaves 7 = .ok (.aload_n 0, 1) := by decide +kernel
theorem dX10_leaves_8 : decode cX10_leaves 8 = .ok (.iload_n 1, 1) := by decide +kernel
theorem dX10_leaves_9 : decode cX10_leaves 9 = .ok (.iconst 2, 1) := by decide +kernel
theorem dX10_leaves_10 : decode cX10_leaves 10 = .ok (.iconst (-1), 1) := by decide +kernel
theorem dX10_leaves_11 : decode cX10_leaves 11 = .ok (.invokevirtual 72, 3) := by decide +kernel
theorem dX10_leaves_14 : decode cX10_leaves 14 = .ok (.aload_n 0, 1) := by decide +kernel
theorem dX10_leaves_15 : decode cX10_leaves 15 = .ok (.iload_n 1, 1) := by decide +kernel
theorem dX10_leaves_16 : decode cX10_leaves 16 = .ok (.iconst 3, 1) := by decide +kernel
theorem dX10_leaves_17 : decode cX10_leaves 17 = .ok (.iconst 0, 1) := by decide +kernel
theorem dX10_leaves_18 : decode cX10_leaves 18 = .ok (.invokevirtual 72, 3) := by decide +kernel
theorem dX10_leaves_21 : decode cX10_leaves 21 = .ok (.aload_n 0, 1) := by decide +kernel
theorem dX10_leaves_22 : decode cX10_leaves 22 = .ok (.iload_n 2, 1) := by decide +kernel
theorem dX10_leaves_23 : decode cX10_leaves 23 = .ok (.iconst 1, 1) := by decide +kernel
theorem dX10_leaves_24 : decode cX10_leaves 24 = .ok (.iconst 4, 1) := by decide +kernel
theorem dX10_leaves_25 : decode cX10_leaves 25 = .ok (.invokevirtual 97, 3) := by decide +kernel
theorem dX10_leaves_28 : decode cX10_leaves 28 = .ok (.iload_n 2, 1) := by decide +kernel
theorem dX10_leaves_29 : decode cX10_leaves 29 = .ok (.ireturn, 1) := by decide +kernel
theorem dX10_leave_0 : decode cX10_leave 0 = .ok (.aload_n 0, 1) := by decide +kernel
theorem dX10_leave_1 : decode cX10_leave 1 = .ok (.iload_n 1, 1) := by decide +kernel
theorem dX10_leave_2 : decode cX10_leave 2 = .ok (.invokevirtual 81, 3) := by decide +kernel
theorem dX10_leave_5 : decode cX10_leave 5 = .ok (.ifCond .ne 10, 3) := by decide +kernel
theorem dX10_leave_8 : decode cX10_leave 8 = .ok (.aload_n 0, 1) := by decide +kernel
theorem dX10_leave_9 : decode cX10_leave 9 = .ok (.ldc 35, 2) := by decide +kernel
theorem dX10_leave_11 : decode cX10_leave 11 = .ok (.invokevirtual 37, 3) := by decide +kernel
theorem dX10_leave_14 : decode cX10_leave 14 = .ok (.ireturn, 1) := by decide +kernel
theorem dX10_leave_15 : decode cX10_leave 15 = .ok (.aload_n 0, 1) := by decide +kernel
theorem dX10_leave_16 : decode cX10_leave 16 = .ok (.iload_n 1, 1) := by decide +kernel
theorem dX10_leave_17 : decode cX10_leave 17 = .ok (.invokevirtual 100, 3) := by decide +kernel
theorem dX10_leave_20 : decode cX10_leave 20 = .ok (.ifCond .eq 11, 3) := by decide +kernel
theorem dX10_leave_23 : decode cX10_leave 23 = .ok (.aload_n 0, 1) := by decide +kernel
theorem dX10_leave_24 : decode cX10_leave 24 = .ok (.iload_n 1, 1) := by decide +kernel
theorem dX10_leave_25 : decode cX10_leave 25 = .ok (.invokevirtual 103, 3) := by decide +kernel
theorem dX10_leave_28 : decode cX10_leave 28 = .ok (.goto 9, 3) := by decide +kernel
theorem dX10_leave_31 : decode cX10_leave 31 = .ok (.aload_n 0, 1) := by decide +kernel
theorem dX10_leave_32 : decode cX10_leave 32 = .ok (.ldc 106, 2) := by decide +kernel
theorem dX10_leave_34 : decode cX10_leave 34 = .ok (.invokevirtual 37, 3) := by decide +kernel
theorem dX10_leave_37 : decode cX10_leave 37 = .ok (.ireturn, 1) := by decide +kernel
theorem dX10_winner_0 : decode cX10_winner 0 = .ok (.iconst (-1), 1) := by decide +kernel
theorem dX10_winner_1 : decode cX10_winner 1 = .ok (.istore_n 2, 1) := by decide +kernel
theorem dX10_winner_2 : decode cX10_winner 2 = .ok (.iconst 0, 1) := by decide +kernel
theorem dX10_winner_3 : decode cX10_winner 3 = .ok (.istore_n 3, 1) := by decide +kernel
theorem dX10_winner_4 : decode cX10_winner 4 = .ok (.iconst 0, 1) := by decide +kernel
theorem dX10_winner_5 : decode cX10_winner 5 = .ok (.istore 4, 2) := by decide +kernel
theorem dX10_winner_7 : decode cX10_winner 7 = .ok (.iload 4, 2) := by decide +kernel
theorem dX10_winner_9 : decode cX10_winner 9 = .ok (.bipush 6, 2) := by decide +kernel
theorem dX10_winner_11 : decode cX10_winner 11 = .ok (.if_icmp .ge 74, 3) := by decide +kernel
theorem dX10_winner_14 : decode cX10_winner 14 = .ok (.aload_n 0, 1) := by decide +kernel
theorem dX10_winner_15 : decode cX10_winner 15 = .ok (.iload_n 1, 1) := by decide +kernel
theorem dX10_winner_16 : decode cX10_winner 16 = .ok (.aload_n 0, 1) := by decide +kernel
theorem dX10_winner_17 : decode cX10_winner 17 = .ok (.iload 4, 2) := by decide +kernel
theorem dX10_winner_19 : decode cX10_winner 19 = .ok (.iconst 0, 1) := by decide +kernel
theorem dX10_winner_20 : decode cX10_winner 20 = .ok (.invokevirtual 63, 3) := by decide +kernel
theorem dX10_winner_23 : decode cX10_winner 23 = .ok (.invokevirtual 93, 3) := by decide +kernel
theorem dX10_winner_26 : decode cX10_winner 26 = .ok (.istore 5, 2) := by decide +kernel
theorem dX10_winner_28 : decode cX10_winner 28 = .ok (.aload_n 0, 1) := by decide +kernel
theorem dX10_winner_29 : decode cX10_winner 29 = .ok (.iload 4, 2) := by decide +kernel
theorem dX10_winner_31 : decode cX10_winner 31 = .ok (.invokevirtual 69, 3) := by decide +kernel
theorem dX10_winner_34 : decode cX10_winner 34 = .ok (.iconst 2, 1) := by decide +kernel
theorem dX10_winner_35 : decode cX10_winner 35 = .ok (.if_icmp .ge 17, 3) := by decide +kernel
theorem dX10_winner_38 : decode cX10_winner 38 = .ok (.iload_n 2, 1) := by decide +kernel
theorem dX10_winner_39 : decode cX10_winner 39 = .ok (.ifCond .lt 9, 3) := by decide +kernel
theorem dX10_winner_42 : decode cX10_winner 42 = .ok (.iload 5, 2) := by decide +kernel
theorem dX10_winner_44 : decode cX10_winner 44 = .ok (.iload_n 3, 1) := by decide +kernel
theorem dX10_winner_45 : decode cX10_winner 45 = .ok (.if_icmp .le 7, 3) := by decide +kernel
theorem dX10_winner_48 : decode cX10_winner 48 = .ok (.iconst 1, 1) := by decide +kernel
theorem dX10_winner_49 : decode cX10_winner 49 = .ok (.goto 4, 3) := by decide +kernel
theorem dX10_winner_52 : decode cX10_winner 52 = .ok (.iconst 0, 1) := by decide +kernel
theorem dX10_winner_53 : decode cX10_winner 53 = .ok (.istore 6, 2) := by decide +kernel
theorem dX10_winner_55 : decode cX10_winner 55 = .ok (.iload 6, 2) := by decide +kernel
theorem dX10_winner_57 : decode cX10_winner 57 = .ok (.ifCond .eq 8, 3) := by decide +kernel
theorem dX10_winner_60 : decode cX10_winner 60 = .ok (.iload 4, 2) := by decide +kernel
theorem dX10_winner_62 : decode cX10_winner 62 = .ok (.goto 4, 3) := by decide +kernel
theorem dX10_winner_65 : decode cX10_winner 65 = .ok (.iload_n 2, 1) := by decide +kernel
theorem dX10_winner_66 : decode cX10_winner 66 = .ok (.istore_n 2, 1) := by decide +kernel
theorem dX10_winner_67 : decode cX10_winner 67 = .ok (.iload 6, 2) := by decide +kernel
theorem dX10_winner_69 : decode cX10_winner 69 = .ok (.ifCond .eq 8, 3) := by decide +kernel
theorem dX10_winner_72 : decode cX10_winner 72 = .ok (.iload 5, 2) := by decide +kernel
theorem dX10_winner_74 : decode cX10_winner 74 = .ok (.goto 4, 3) := by decide +kernel
theorem dX10_winner_77 : decode cX10_winner 77 = .ok (.iload_n 3, 1) := by decide +kernel
theorem dX10_winner_78 : decode cX10_winner 78 = .ok (.istore_n 3, 1) := by decide +kernel
theorem dX10_winner_79 : decode cX10_winner 79 = .ok (.iinc 4 1, 3) := by decide +kernel
theorem dX10_winner_82 : decode cX10_winner 82 = .ok (.goto (-75), 3) := by decide +kernel
theorem dX10_winner_85 : decode cX10_winner 85 = .ok (.iload_n 2, 1) := by decide +kernel
theorem dX10_winner_86 : decode cX10_winner 86 = .ok (.ifCond .lt 16, 3) := by decide +kernel
theorem dX10_winner_89 : decode cX10_winner 89 = .ok (.iload_n 3, 1) := by decide +kernel
theorem dX10_winner_90 : decode cX10_winner 90 = .ok (.aload_n 0, 1) := by decide +kernel
theorem dX10_winner_91 : decode cX10_winner 91 = .ok (.iload_n 1, 1) := by decide +kernel
theorem dX10_winner_92 : decode cX10_winner 92 = .ok (.invokevirtual 87, 3) := by decide +kernel
theorem dX10_winner_95 : decode cX10_winner 95 = .ok (.if_icmp .lt 7, 3) := by decide +kernel
theorem dX10_winner_98 : decode cX10_winner 98 = .ok (.iload_n 2, 1) := by decide +kernel
theorem dX10_winner_99 : decode cX10_winner 99 = .ok (.goto 4, 3) := by decide +kernel
theorem dX10_winner_102 : decode cX10_winner 102 = .ok (.iconst (-1), 1) := by decide +kernel
theorem dX10_winner_103 : decode cX10_winner 103 = .ok (.ireturn, 1) := by decide +kernel
theorem dX10_goesTo_0 : decode cX10_goesTo 0 = .ok (.aload_n 0, 1) := by decide +kernel
theorem dX10_goesTo_1 : decode cX10_goesTo 1 = .ok (.iload_n 1, 1) := by decide +kernel
theorem dX10_goesTo_2 : decode cX10_goesTo 2 = .ok (.invokevirtual 81, 3) := by decide +kernel
theorem dX10_goesTo_5 : decode cX10_goesTo 5 = .ok (.ifCond .ne 10, 3) := by decide +kernel
theorem dX10_goesTo_8 : decode cX10_goesTo 8 = .ok (.aload_n 0, 1) := by decide +kernel
theorem dX10_goesTo_9 : decode cX10_goesTo 9 = .ok (.ldc 35, 2) := by decide +kernel
theorem dX10_goesTo_11 : decode cX10_goesTo 11 = .ok (.invokevirtual 37, 3) := by decide +kernel
theorem dX10_goesTo_14 : decode cX10_goesTo 14 = .ok (.ireturn, 1) := by decide +kernel
theorem dX10_goesTo_15 : decode cX10_goesTo 15 = .ok (.aload_n 0, 1) := by decide +kernel
theorem dX10_goesTo_16 : decode cX10_goesTo 16 = .ok (.iload_n 1, 1) := by decide +kernel
theorem dX10_goesTo_17 : decode cX10_goesTo 17 = .ok (.iconst 2, 1) := by decide +kernel
theorem dX10_goesTo_18 : decode cX10_goesTo 18 = .ok (.invokevirtual 45, 3) := by decide +kernel
theorem dX10_goesTo_21 : decode cX10_goesTo 21 = .ok (.ifCond .ge 11, 3) := by decide +kernel
theorem dX10_goesTo_24 : decode cX10_goesTo 24 = .ok (.aload_n 0, 1) := by decide +kernel
theorem dX10_goesTo_25 : decode cX10_goesTo 25 = .ok (.iload_n 1, 1) := by decide +kernel
theorem dX10_goesTo_26 : decode cX10_goesTo 26 = .ok (.invokevirtual 60, 3) := by decide +kernel
theorem dX10_goesTo_29 : decode cX10_goesTo 29 = .ok (.ifCond .eq 12, 3) := by decide +kernel
theorem dX10_goesTo_32 : decode cX10_goesTo 32 = .ok (.aload_n 0, 1) := by decide +kernel
theorem dX10_goesTo_33 : decode cX10_goesTo 33 = .ok (.ldc 106, 2) := by decide +kernel
theorem dX10_goesTo_35 : decode cX10_goesTo 35 = .ok (.invokevirtual 37, 3) := by decide +kernel
theorem dX10_goesTo_38 : decode cX10_goesTo 38 = .ok (.goto 12, 3) := by decide +kernel
theorem dX10_goesTo_41 : decode cX10_goesTo 41 = .ok (.aload_n 0, 1) := by decide +kernel
theorem dX10_goesTo_42 : decode cX10_goesTo 42 = .ok (.aload_n 0, 1) := by decide +kernel
theorem dX10_goesTo_43 : decode cX10_goesTo 43 = .ok (.iload_n 1, 1) := by decide +kernel
theorem dX10_goesTo_44 : decode cX10_goesTo 44 = .ok (.invokevirtual 107, 3) := by decide +kernel
theorem dX10_goesTo_47 : decode cX10_goesTo 47 = .ok (.invokevirtual 110, 3) := by decide +kernel
theorem dX10_goesTo_50 : decode cX10_goesTo 50 = .ok (.ireturn, 1) := by decide +kernel
theorem dX10_worksOn_0 : decode cX10_worksOn 0 = .ok (.aload_n 0, 1) := by decide +kernel
theorem dX10_worksOn_1 : decode cX10_worksOn 1 = .ok (.iload_n 1, 1) := by decide +kernel
theorem dX10_worksOn_2 : decode cX10_worksOn 2 = .ok (.iconst 2, 1) := by decide +kernel
theorem dX10_worksOn_3 : decode cX10_worksOn 3 = .ok (.invokevirtual 45, 3) := by decide +kernel
theorem dX10_worksOn_6 : decode cX10_worksOn 6 = .ok (.istore_n 2, 1) := by decide +kernel
theorem dX10_worksOn_7 : decode cX10_worksOn 7 = .ok (.aload_n 0, 1) := by decide +kernel
theorem dX10_worksOn_8 : decode cX10_worksOn 8 = .ok (.iload_n 1, 1) := by decide +kernel
theorem dX10_worksOn_9 : decode cX10_worksOn 9 = .ok (.iconst 1, 1) := by decide +kernel
theorem dX10_worksOn_10 : decode cX10_worksOn 10 = .ok (.aload_n 0, 1) := by decide +kernel
theorem dX10_worksOn_11 : decode cX10_worksOn 11 = .ok (.iload_n 1, 1) := by decide +kernel
theorem dX10_worksOn_12 : decode cX10_worksOn 12 = .ok (.iconst 1, 1) := by decide +kernel
theorem dX10_worksOn_13 : decode cX10_worksOn 13 = .ok (.invokevirtual 45, 3) := by decide +kernel
theorem dX10_worksOn_16 : decode cX10_worksOn 16 = .ok (.aload_n 0, 1) := by decide +kernel
theorem dX10_worksOn_17 : decode cX10_worksOn 17 = .ok (.iload_n 1, 1) := by decide +kernel
theorem dX10_worksOn_18 : decode cX10_worksOn 18 = .ok (.aload_n 0, 1) := by decide +kernel
theorem dX10_worksOn_19 : decode cX10_worksOn 19 = .ok (.iload_n 2, 1) := by decide +kernel
theorem dX10_worksOn_20 : decode cX10_worksOn 20 = .ok (.iconst 0, 1) := by decide +kernel
theorem dX10_worksOn_21 : decode cX10_worksOn 21 = .ok (.invokevirtual 63, 3) := by decide +kernel
theorem dX10_worksOn_24 : decode cX10_worksOn 24 = .ok (.invokevirtual 90, 3) := by decide +kernel
theorem dX10_worksOn_27 : decode cX10_worksOn 27 = .ok (.iadd, 1) := by decide +kernel
theorem dX10_worksOn_28 : decode cX10_worksOn 28 = .ok (.iconst 0, 1) := by decide +kernel
theorem dX10_worksOn_29 : decode cX10_worksOn 29 = .ok (.bipush 100, 2) := by decide +kernel
theorem dX10_worksOn_31 : decode cX10_worksOn 31 = .ok (.invokestatic 113, 3) := by decide +kernel
theorem dX10_worksOn_34 : decode cX10_worksOn 34 = .ok (.invokevirtual 72, 3) := by decide +kernel
theorem dX10_worksOn_37 : decode cX10_worksOn 37 = .ok (.aload_n 0, 1) := by decide +kernel
theorem dX10_worksOn_38 : decode cX10_worksOn 38 = .ok (.iload_n 1, 1) := by decide +kernel
theorem dX10_worksOn_39 : decode cX10_worksOn 39 = .ok (.invokevirtual 60, 3) := by decide +kernel
theorem dX10_worksOn_42 : decode cX10_worksOn 42 = .ok (.ifCond .eq 45, 3) := by decide +kernel
theorem dX10_worksOn_45 : decode cX10_worksOn 45 = .ok (.aload_n 0, 1) := by decide +kernel
theorem dX10_worksOn_46 : decode cX10_worksOn 46 = .ok (.iload_n 2, 1) := by decide +kernel
theorem dX10_worksOn_47 : decode cX10_worksOn 47 = .ok (.iconst 2, 1) := by decide +kernel
theorem dX10_worksOn_48 : decode cX10_worksOn 48 = .ok (.aload_n 0, 1) := by decide +kernel
theorem dX10_worksOn_49 : decode cX10_worksOn 49 = .ok (.iload_n 2, 1) := by decide +kernel
theorem dX10_worksOn_50 : decode cX10_worksOn 50 = .ok (.iconst 2, 1) := by decide +kernel
theorem dX10_worksOn_51 : decode cX10_worksOn 51 = .ok (.invokevirtual 63, 3) := by decide +kernel
theorem dX10_worksOn_54 : decode cX10_worksOn 54 = .ok (.iconst 1, 1) := by decide +kernel
theorem dX10_worksOn_55 : decode cX10_worksOn 55 = .ok (.iadd, 1) := by decide +kernel
theorem dX10_worksOn_56 : decode cX10_worksOn 56 = .ok (.iconst 0, 1) := by decide +kernel
theorem dX10_worksOn_57 : decode cX10_worksOn 57 = .ok (.sipush 999, 3) := by decide +kernel
theorem dX10_worksOn_60 : decode cX10_worksOn 60 = .ok (.invokestatic 113, 3) := by decide +kernel
theorem dX10_worksOn_63 : decode cX10_worksOn 63 = .ok (.invokevirtual 97, 3) := by decide +kernel
theorem dX10_worksOn_66 : decode cX10_worksOn 66 = .ok (.aload_n 0, 1) := by decide +kernel
theorem dX10_worksOn_67 : decode cX10_worksOn 67 = .ok (.iload_n 2, 1) := by decide +kernel
theorem dX10_worksOn_68 : decode cX10_worksOn 68 = .ok (.iconst 1, 1) := by decide +kernel
theorem dX10_worksOn_69 : decode cX10_worksOn 69 = .ok (.aload_n 0, 1) := by decide +kernel
theorem dX10_worksOn_70 : decode cX10_worksOn 70 = .ok (.iload_n 2, 1) := by decide +kernel
theorem dX10_worksOn_71 : decode cX10_worksOn 71 = .ok (.iconst 1, 1) := by decide +kernel
theorem dX10_worksOn_72 : decode cX10_worksOn 72 = .ok (.invokevirtual 63, 3) := by decide +kernel
theorem dX10_worksOn_75 : decode cX10_worksOn 75 = .ok (.iconst 2, 1) := by decide +kernel
theorem dX10_worksOn_76 : decode cX10_worksOn 76 = .ok (.iadd, 1) := by decide +kernel
theorem dX10_worksOn_77 : decode cX10_worksOn 77 = .ok (.iconst 0, 1) := by decide +kernel
theorem dX10_worksOn_78 : decode cX10_worksOn 78 = .ok (.bipush 9, 2) := by decide +kernel
theorem dX10_worksOn_80 : decode cX10_worksOn 80 = .ok (.invokestatic 113, 3) := by decide +kernel
theorem dX10_worksOn_83 : decode cX10_worksOn 83 = .ok (.invokevirtual 97, 3) := by decide +kernel
theorem dX10_worksOn_86 : decode cX10_worksOn 86 = .ok (.return_, 1) := by decide +kernel
theorem dX10_worksOn_87 : decode cX10_worksOn 87 = .ok (.aload_n 0, 1) := by decide +kernel
theorem dX10_worksOn_88 : decode cX10_worksOn 88 = .ok (.iload_n 2, 1) := by decide +kernel
theorem dX10_worksOn_89 : decode cX10_worksOn 89 = .ok (.iconst 1, 1) := by decide +kernel
theorem dX10_worksOn_90 : decode cX10_worksOn 90 = .ok (.invokevirtual 63, 3) := by decide +kernel
theorem dX10_worksOn_93 : decode cX10_worksOn 93 = .ok (.aload_n 0, 1) := by decide +kernel
theorem dX10_worksOn_94 : decode cX10_worksOn 94 = .ok (.iload_n 1, 1) := by decide +kernel
theorem dX10_worksOn_95 : decode cX10_worksOn 95 = .ok (.invokevirtual 84, 3) := by decide +kernel
theorem dX10_worksOn_98 : decode cX10_worksOn 98 = .ok (.isub, 1) := by decide +kernel
theorem dX10_worksOn_99 : decode cX10_worksOn 99 = .ok (.istore_n 3, 1) := by decide +kernel
theorem dX10_worksOn_100 : decode cX10_worksOn 100 = .ok (.aload_n 0, 1) := by decide +kernel
theorem dX10_worksOn_101 : decode cX10_worksOn 101 = .ok (.iload_n 2, 1) := by decide +kernel
theorem dX10_worksOn_102 : decode cX10_worksOn 102 = .ok (.iconst 1, 1) := by decide +kernel
theorem dX10_worksOn_103 : decode cX10_worksOn 103 = .ok (.iload_n 3, 1) := by decide +kernel
theorem dX10_worksOn_104 : decode cX10_worksOn 104 = .ok (.invokevirtual 97, 3) := by decide +kernel
theorem dX10_worksOn_107 : decode cX10_worksOn 107 = .ok (.iload_n 3, 1) := by decide +kernel
theorem dX10_worksOn_108 : decode cX10_worksOn 108 = .ok (.ifCond .gt 10, 3) := by decide +kernel
theorem dX10_worksOn_111 : decode cX10_worksOn 111 = .ok (.aload_n 0, 1) := by decide +kernel
theorem dX10_worksOn_112 : decode cX10_worksOn 112 = .ok (.iload_n 1, 1) := by decide +kernel
theorem dX10_worksOn_113 : decode cX10_worksOn 113 = .ok (.invokevirtual 103, 3) := by decide +kernel
theorem dX10_worksOn_116 : decode cX10_worksOn 116 = .ok (.istore 4, 2) := by decide +kernel
theorem dX10_worksOn_118 : decode cX10_worksOn 118 = .ok (.return_, 1) := by decide +kernel
theorem dX10_goes_0 : decode cX10_goes 0 = .ok (.iconst 0, 1) := by decide +kernel
theorem dX10_goes_1 : decode cX10_goes 1 = .ok (.istore_n 1, 1) := by decide +kernel
theorem dX10_goes_2 : decode cX10_goes 2 = .ok (.iload_n 1, 1) := by decide +kernel
theorem dX10_goes_3 : decode cX10_goes 3 = .ok (.aload_n 0, 1) := by decide +kernel
theorem dX10_goes_4 : decode cX10_goes 4 = .ok (.getfield 9, 3) := by decide +kernel
theorem dX10_goes_7 : decode cX10_goes 7 = .ok (.iconst 1, 1) := by decide +kernel
theorem dX10_goes_8 : decode cX10_goes 8 = .ok (.iaload, 1) := by decide +kernel
theorem dX10_goes_9 : decode cX10_goes 9 = .ok (.if_icmp .ge 22, 3) := by decide +kernel
theorem dX10_goes_12 : decode cX10_goes 12 = .ok (.aload_n 0, 1) := by decide +kernel
theorem dX10_goes_13 : decode cX10_goes 13 = .ok (.iload_n 1, 1) := by decide +kernel
theorem dX10_goes_14 : decode cX10_goes 14 = .ok (.invokevirtual 100, 3) := by decide +kernel
theorem dX10_goes_17 : decode cX10_goes 17 = .ok (.ifCond .eq 8, 3) := by decide +kernel
theorem dX10_goes_20 : decode cX10_goes 20 = .ok (.aload_n 0, 1) := by decide +kernel
theorem dX10_goes_21 : decode cX10_goes 21 = .ok (.iload_n 1, 1) := by decide +kernel
theorem dX10_goes_22 : decode cX10_goes 22 = .ok (.invokevirtual 117, 3) := by decide +kernel
theorem dX10_goes_25 : decode cX10_goes 25 = .ok (.iinc 1 1, 3) := by decide +kernel
theorem dX10_goes_28 : decode cX10_goes 28 = .ok (.goto (-26), 3) := by decide +kernel
theorem dX10_goes_31 : decode cX10_goes 31 = .ok (.iconst 0, 1) := by decide +kernel
theorem dX10_goes_32 : decode cX10_goes 32 = .ok (.istore_n 1, 1) := by decide +kernel
theorem dX10_goes_33 : decode cX10_goes 33 = .ok (.iload_n 1, 1) := by decide +kernel
theorem dX10_goes_34 : decode cX10_goes 34 = .ok (.aload_n 0, 1) := by decide +kernel
theorem dX10_goes_35 : decode cX10_goes 35 = .ok (.getfield 9, 3) := by decide +kernel
theorem dX10_goes_38 : decode cX10_goes 38 = .ok (.iconst 1, 1) := by decide +kernel
theorem dX10_goes_39 : decode cX10_goes 39 = .ok (.iaload, 1) := by decide +kernel
theorem dX10_goes_40 : decode cX10_goes 40 = .ok (.if_icmp .ge 58, 3) := by decide +kernel
theorem dX10_goes_43 : decode cX10_goes 43 = .ok (.aload_n 0, 1) := by decide +kernel
theorem dX10_goes_44 : decode cX10_goes 44 = .ok (.iload_n 1, 1) := by decide +kernel
theorem dX10_goes_45 : decode cX10_goes 45 = .ok (.iconst 2, 1) := by decide +kernel
theorem dX10_goes_46 : decode cX10_goes 46 = .ok (.invokevirtual 45, 3) := by decide +kernel
theorem dX10_goes_49 : decode cX10_goes 49 = .ok (.ifCond .ge 43, 3) := by decide +kernel
theorem dX10_goes_52 : decode cX10_goes 52 = .ok (.aload_n 0, 1) := by decide +kernel
theorem dX10_goes_53 : decode cX10_goes 53 = .ok (.iload_n 1, 1) := by decide +kernel
theorem dX10_goes_54 : decode cX10_goes 54 = .ok (.invokevirtual 60, 3) := by decide +kernel
theorem dX10_goes_57 : decode cX10_goes 57 = .ok (.ifCond .ne 35, 3) := by decide +kernel
theorem dX10_goes_60 : decode cX10_goes 60 = .ok (.aload_n 0, 1) := by decide +kernel
theorem dX10_goes_61 : decode cX10_goes 61 = .ok (.iload_n 1, 1) := by decide +kernel
theorem dX10_goes_62 : decode cX10_goes 62 = .ok (.iconst 3, 1) := by decide +kernel
theorem dX10_goes_63 : decode cX10_goes 63 = .ok (.aload_n 0, 1) := by decide +kernel
theorem dX10_goes_64 : decode cX10_goes 64 = .ok (.iload_n 1, 1) := by decide +kernel
theorem dX10_goes_65 : decode cX10_goes 65 = .ok (.iconst 3, 1) := by decide +kernel
theorem dX10_goes_66 : decode cX10_goes 66 = .ok (.invokevirtual 45, 3) := by decide +kernel
theorem dX10_goes_69 : decode cX10_goes 69 = .ok (.iconst 1, 1) := by decide +kernel
theorem dX10_goes_70 : decode cX10_goes 70 = .ok (.iadd, 1) := by decide +kernel
theorem dX10_goes_71 : decode cX10_goes 71 = .ok (.iconst 0, 1) := by decide +kernel
theorem dX10_goes_72 : decode cX10_goes 72 = .ok (.sipush 999, 3) := by decide +kernel
theorem dX10_goes_75 : decode cX10_goes 75 = .ok (.invokestatic 113, 3) := by decide +kernel
theorem dX10_goes_78 : decode cX10_goes 78 = .ok (.invokevirtual 72, 3) := by decide +kernel
theorem dX10_goes_81 : decode cX10_goes 81 = .ok (.aload_n 0, 1) := by decide +kernel
theorem dX10_goes_82 : decode cX10_goes 82 = .ok (.iload_n 1, 1) := by decide +kernel
theorem dX10_goes_83 : decode cX10_goes 83 = .ok (.iconst 2, 1) := by decide +kernel
theorem dX10_goes_84 : decode cX10_goes 84 = .ok (.aload_n 0, 1) := by decide +kernel
theorem dX10_goes_85 : decode cX10_goes 85 = .ok (.iload_n 1, 1) := by decide +kernel
theorem dX10_goes_86 : decode cX10_goes 86 = .ok (.invokevirtual 107, 3) := by decide +kernel
theorem dX10_goes_89 : decode cX10_goes 89 = .ok (.invokevirtual 72, 3) := by decide +kernel
theorem dX10_goes_92 : decode cX10_goes 92 = .ok (.iinc 1 1, 3) := by decide +kernel
theorem dX10_goes_95 : decode cX10_goes 95 = .ok (.goto (-62), 3) := by decide +kernel
theorem dX10_goes_98 : decode cX10_goes 98 = .ok (.aload_n 0, 1) := by decide +kernel
theorem dX10_goes_99 : decode cX10_goes 99 = .ok (.getfield 9, 3) := by decide +kernel
theorem dX10_goes_102 : decode cX10_goes 102 = .ok (.iconst 0, 1) := by decide +kernel
theorem dX10_goes_103 : decode cX10_goes 103 = .ok (.dup2, 1) := by decide +kernel
theorem dX10_goes_104 : decode cX10_goes 104 = .ok (.iaload, 1) := by decide +kernel
theorem dX10_goes_105 : decode cX10_goes 105 = .ok (.iconst 1, 1) := by decide +kernel
theorem dX10_goes_106 : decode cX10_goes 106 = .ok (.iadd, 1) := by decide +kernel
theorem dX10_goes_107 : decode cX10_goes 107 = .ok (.iastore, 1) := by decide +kernel
theorem dX10_goes_108 : decode cX10_goes 108 = .ok (.return_, 1) := by decide +kernel
theorem dX10_goesFor_0 : decode cX10_goesFor 0 = .ok (.iconst 0, 1) := by decide +kernel
theorem dX10_goesFor_1 : decode cX10_goesFor 1 = .ok (.istore_n 2, 1) := by decide +kernel
theorem dX10_goesFor_2 : decode cX10_goesFor 2 = .ok (.iload_n 2, 1) := by decide +kernel
theorem dX10_goesFor_3 : decode cX10_goesFor 3 = .ok (.iload_n 1, 1) := by decide +kernel
theorem dX10_goesFor_4 : decode cX10_goesFor 4 = .ok (.if_icmp .ge 13, 3) := by decide +kernel
theorem dX10_goesFor_7 : decode cX10_goesFor 7 = .ok (.aload_n 0, 1) := by decide +kernel
theorem dX10_goesFor_8 : decode cX10_goesFor 8 = .ok (.invokevirtual 121, 3) := by decide +kernel
theorem dX10_goesFor_11 : decode cX10_goesFor 11 = .ok (.iinc 2 1, 3) := by decide +kernel
theorem dX10_goesFor_14 : decode cX10_goesFor 14 = .ok (.goto (-12), 3) := by decide +kernel
theorem dX10_goesFor_17 : decode cX10_goesFor 17 = .ok (.return_, 1) := by decide +kernel
theorem dX10_doneOnes_0 : decode cX10_doneOnes 0 = .ok (.iconst 0, 1) := by decide +kernel
theorem dX10_doneOnes_1 : decode cX10_doneOnes 1 = .ok (.istore_n 1, 1) := by decide +kernel
theorem dX10_doneOnes_2 : decode cX10_doneOnes 2 = .ok (.iconst 0, 1) := by decide +kernel
theorem dX10_doneOnes_3 : decode cX10_doneOnes 3 = .ok (.istore_n 2, 1) := by decide +kernel
theorem dX10_doneOnes_4 : decode cX10_doneOnes 4 = .ok (.iload_n 2, 1) := by decide +kernel
theorem dX10_doneOnes_5 : decode cX10_doneOnes 5 = .ok (.aload_n 0, 1) := by decide +kernel
theorem dX10_doneOnes_6 : decode cX10_doneOnes 6 = .ok (.getfield 9, 3) := by decide +kernel
theorem dX10_doneOnes_9 : decode cX10_doneOnes 9 = .ok (.iconst 1, 1) := by decide +kernel
theorem dX10_doneOnes_10 : decode cX10_doneOnes 10 = .ok (.iaload, 1) := by decide +kernel
theorem dX10_doneOnes_11 : decode cX10_doneOnes 11 = .ok (.if_icmp .ge 27, 3) := by decide +kernel
theorem dX10_doneOnes_14 : decode cX10_doneOnes 14 = .ok (.iload_n 1, 1) := by decide +kernel
theorem dX10_doneOnes_15 : decode cX10_doneOnes 15 = .ok (.aload_n 0, 1) := by decide +kernel
theorem dX10_doneOnes_16 : decode cX10_doneOnes 16 = .ok (.iload_n 2, 1) := by decide +kernel
theorem dX10_doneOnes_17 : decode cX10_doneOnes 17 = .ok (.invokevirtual 60, 3) := by decide +kernel
theorem dX10_doneOnes_20 : decode cX10_doneOnes 20 = .ok (.ifCond .eq 9, 3) := by decide +kernel
theorem dX10_doneOnes_23 : decode cX10_doneOnes 23 = .ok (.iconst 1, 1) := by decide +kernel
theorem dX10_doneOnes_24 : decode cX10_doneOnes 24 = .ok (.iload_n 2, 1) := by decide +kernel
theorem dX10_doneOnes_25 : decode cX10_doneOnes 25 = .ok (.ishl, 1) := by decide +kernel
theorem dX10_doneOnes_26 : decode cX10_doneOnes 26 = .ok (.goto 4, 3) := by decide +kernel
theorem dX10_doneOnes_29 : decode cX10_doneOnes 29 = .ok (.iconst 0, 1) := by decide +kernel
theorem dX10_doneOnes_30 : decode cX10_doneOnes 30 = .ok (.ior, 1) := by decide +kernel
theorem dX10_doneOnes_31 : decode cX10_doneOnes 31 = .ok (.istore_n 1, 1) := by decide +kernel
theorem dX10_doneOnes_32 : decode cX10_doneOnes 32 = .ok (.iinc 2 1, 3) := by decide +kernel
theorem dX10_doneOnes_35 : decode cX10_doneOnes 35 = .ok (.goto (-31), 3) := by decide +kernel
theorem dX10_doneOnes_38 : decode cX10_doneOnes 38 = .ok (.iload_n 1, 1) := by decide +kernel
theorem dX10_doneOnes_39 : decode cX10_doneOnes 39 = .ok (.ireturn, 1) := by decide +kernel
theorem dX10_areDone_0 : decode cX10_areDone 0 = .ok (.aload_n 0, 1) := by decide +kernel
theorem dX10_areDone_1 : decode cX10_areDone 1 = .ok (.invokevirtual 124, 3) := by decide +kernel
theorem dX10_areDone_4 : decode cX10_areDone 4 = .ok (.iconst 1, 1) := by decide +kernel
theorem dX10_areDone_5 : decode cX10_areDone 5 = .ok (.aload_n 0, 1) := by decide +kernel
theorem dX10_areDone_6 : decode cX10_areDone 6 = .ok (.getfield 9, 3) := by decide +kernel
theorem dX10_areDone_9 : decode cX10_areDone 9 = .ok (.iconst 1, 1) := by decide +kernel
theorem dX10_areDone_10 : decode cX10_areDone 10 = .ok (.iaload, 1) := by decide +kernel
theorem dX10_areDone_11 : decode cX10_areDone 11 = .ok (.ishl, 1) := by decide +kernel
theorem dX10_areDone_12 : decode cX10_areDone 12 = .ok (.iconst 1, 1) := by decide +kernel
theorem dX10_areDone_13 : decode cX10_areDone 13 = .ok (.isub, 1) := by decide +kernel
theorem dX10_areDone_14 : decode cX10_areDone 14 = .ok (.if_icmp .ne 7, 3) := by decide +kernel
theorem dX10_areDone_17 : decode cX10_areDone 17 = .ok (.iconst 1, 1) := by decide +kernel
theorem dX10_areDone_18 : decode cX10_areDone 18 = .ok (.goto 4, 3) := by decide +kernel
theorem dX10_areDone_21 : decode cX10_areDone 21 = .ok (.iconst 0, 1) := by decide +kernel
theorem dX10_areDone_22 : decode cX10_areDone 22 = .ok (.ireturn, 1) := by decide +kernel
theorem dX10_years_0 : decode cX10_years 0 = .ok (.iload_n 1, 1) := by decide +kernel
theorem dX10_years_1 : decode cX10_years 1 = .ok (.i2l, 1) := by decide +kernel
theorem dX10_years_2 : decode cX10_years 2 = .ok (.iconst 1, 1) := by decide +kernel
theorem dX10_years_3 : decode cX10_years 3 = .ok (.bipush 60, 2) := by decide +kernel
theorem dX10_years_5 : decode cX10_years 5 = .ok (.invokestatic 41, 3) := by decide +kernel
theorem dX10_years_8 : decode cX10_years 8 = .ok (.ifCond .ne 10, 3) := by decide +kernel
theorem dX10_years_11 : decode cX10_years 11 = .ok (.aload_n 0, 1) := by decide +kernel
theorem dX10_years_12 : decode cX10_years 12 = .ok (.ldc 35, 2) := by decide +kernel
theorem dX10_years_14 : decode cX10_years 14 = .ok (.invokevirtual 37, 3) := by decide +kernel
theorem dX10_years_17 : decode cX10_years 17 = .ok (.ireturn, 1) := by decide +kernel
theorem dX10_years_18 : decode cX10_years 18 = .ok (.aload_n 0, 1) := by decide +kernel
theorem dX10_years_19 : decode cX10_years 19 = .ok (.getfield 9, 3) := by decide +kernel
theorem dX10_years_22 : decode cX10_years 22 = .ok (.iconst 0, 1) := by decide +kernel
theorem dX10_years_23 : decode cX10_years 23 = .ok (.iaload, 1) := by decide +kernel
theorem dX10_years_24 : decode cX10_years 24 = .ok (.iload_n 1, 1) := by decide +kernel
theorem dX10_years_25 : decode cX10_years 25 = .ok (.iadd, 1) := by decide +kernel
theorem dX10_years_26 : decode cX10_years 26 = .ok (.sipush 9999, 3) := by decide +kernel
theorem dX10_years_29 : decode cX10_years 29 = .ok (.if_icmp .le 10, 3) := by decide +kernel
theorem dX10_years_32 : decode cX10_years 32 = .ok (.aload_n 0, 1) := by decide +kernel
theorem dX10_years_33 : decode cX10_years 33 = .ok (.ldc 106, 2) := by decide +kernel
theorem dX10_years_35 : decode cX10_years 35 = .ok (.invokevirtual 37, 3) := by decide +kernel
theorem dX10_years_38 : decode cX10_years 38 = .ok (.ireturn, 1) := by decide +kernel
theorem dX10_years_39 : decode cX10_years 39 = .ok (.aload_n 0, 1) := by decide +kernel
theorem dX10_years_40 : decode cX10_years 40 = .ok (.iload_n 1, 1) := by decide +kernel
theorem dX10_years_41 : decode cX10_years 41 = .ok (.invokevirtual 128, 3) := by decide +kernel
theorem dX10_years_44 : decode cX10_years 44 = .ok (.aload_n 0, 1) := by decide +kernel
theorem dX10_years_45 : decode cX10_years 45 = .ok (.invokevirtual 124, 3) := by decide +kernel
theorem dX10_years_48 : decode cX10_years 48 = .ok (.ireturn, 1) := by decide +kernel
theorem dX10_sums_0 : decode cX10_sums 0 = .ok (.iconst 0, 1) := by decide +kernel
theorem dX10_sums_1 : decode cX10_sums 1 = .ok (.istore_n 2, 1) := by decide +kernel
theorem dX10_sums_2 : decode cX10_sums 2 = .ok (.iconst 0, 1) := by decide +kernel
theorem dX10_sums_3 : decode cX10_sums 3 = .ok (.istore_n 3, 1) := by decide +kernel
theorem dX10_sums_4 : decode cX10_sums 4 = .ok (.iload_n 3, 1) := by decide +kernel
theorem dX10_sums_5 : decode cX10_sums 5 = .ok (.aload_n 0, 1) := by decide +kernel
theorem dX10_sums_6 : decode cX10_sums 6 = .ok (.getfield 9, 3) := by decide +kernel
theorem dX10_sums_9 : decode cX10_sums 9 = .ok (.iconst 1, 1) := by decide +kernel
theorem dX10_sums_10 : decode cX10_sums 10 = .ok (.iaload, 1) := by decide +kernel
theorem dX10_sums_11 : decode cX10_sums 11 = .ok (.if_icmp .ge 18, 3) := by decide +kernel
theorem dX10_sums_14 : decode cX10_sums 14 = .ok (.iload_n 2, 1) := by decide +kernel
theorem dX10_sums_15 : decode cX10_sums 15 = .ok (.aload_n 0, 1) := by decide +kernel
theorem dX10_sums_16 : decode cX10_sums 16 = .ok (.iload_n 3, 1) := by decide +kernel
theorem dX10_sums_17 : decode cX10_sums 17 = .ok (.iload_n 1, 1) := by decide +kernel
theorem dX10_sums_18 : decode cX10_sums 18 = .ok (.invokevirtual 45, 3) := by decide +kernel
theorem dX10_sums_21 : decode cX10_sums 21 = .ok (.iadd, 1) := by decide +kernel
theorem dX10_sums_22 : decode cX10_sums 22 = .ok (.istore_n 2, 1) := by decide +kernel
theorem dX10_sums_23 : decode cX10_sums 23 = .ok (.iinc 3 1, 3) := by decide +kernel
theorem dX10_sums_26 : decode cX10_sums 26 = .ok (.goto (-22), 3) := by decide +kernel
theorem dX10_sums_29 : decode cX10_sums 29 = .ok (.iload_n 2, 1) := by decide +kernel
theorem dX10_sums_30 : decode cX10_sums 30 = .ok (.ireturn, 1) := by decide +kernel
theorem dX10_allMade_0 : decode cX10_allMade 0 = .ok (.iconst 0, 1) := by decide +kernel
theorem dX10_allMade_1 : decode cX10_allMade 1 = .ok (.istore_n 1, 1) := by decide +kernel
theorem dX10_allMade_2 : decode cX10_allMade 2 = .ok (.iconst 0, 1) := by decide +kernel
theorem dX10_allMade_3 : decode cX10_allMade 3 = .ok (.istore_n 2, 1) := by decide +kernel
theorem dX10_allMade_4 : decode cX10_allMade 4 = .ok (.iload_n 2, 1) := by decide +kernel
theorem dX10_allMade_5 : decode cX10_allMade 5 = .ok (.bipush 6, 2) := by decide +kernel
theorem dX10_allMade_7 : decode cX10_allMade 7 = .ok (.if_icmp .ge 18, 3) := by decide +kernel
theorem dX10_allMade_10 : decode cX10_allMade 10 = .ok (.iload_n 1, 1) := by decide +kernel
theorem dX10_allMade_11 : decode cX10_allMade 11 = .ok (.aload_n 0, 1) := by decide +kernel
theorem dX10_allMade_12 : decode cX10_allMade 12 = .ok (.iload_n 2, 1) := by decide +kernel
theorem dX10_allMade_13 : decode cX10_allMade 13 = .ok (.iconst 2, 1) := by decide +kernel
theorem dX10_allMade_14 : decode cX10_allMade 14 = .ok (.invokevirtual 63, 3) := by decide +kernel
theorem dX10_allMade_17 : decode cX10_allMade 17 = .ok (.iadd, 1) := by decide +kernel
theorem dX10_allMade_18 : decode cX10_allMade 18 = .ok (.istore_n 1, 1) := by decide +kernel
theorem dX10_allMade_19 : decode cX10_allMade 19 = .ok (.iinc 2 1, 3) := by decide +kernel
theorem dX10_allMade_22 : decode cX10_allMade 22 = .ok (.goto (-18), 3) := by decide +kernel
theorem dX10_allMade_25 : decode cX10_allMade 25 = .ok (.iload_n 1, 1) := by decide +kernel
theorem dX10_allMade_26 : decode cX10_allMade 26 = .ok (.ireturn, 1) := by decide +kernel
theorem dX10_now_0 : decode cX10_now 0 = .ok (.iload_n 1, 1) := by decide +kernel
theorem dX10_now_1 : decode cX10_now 1 = .ok (.tableswitch 64 0 4 #[35, 42, 47, 53, 59], 35) := by decide +kernel
theorem dX10_now_36 : decode cX10_now 36 = .ok (.aload_n 0, 1) := by decide +kernel
theorem dX10_now_37 : decode cX10_now 37 = .ok (.getfield 9, 3) := by decide +kernel
theorem dX10_now_40 : decode cX10_now 40 = .ok (.iconst 0, 1) := by decide +kernel
theorem dX10_now_41 : decode cX10_now 41 = .ok (.iaload, 1) := by decide +kernel
theorem dX10_now_42 : decode cX10_now 42 = .ok (.ireturn, 1) := by decide +kernel
theorem dX10_now_43 : decode cX10_now 43 = .ok (.aload_n 0, 1) := by decide +kernel
theorem dX10_now_44 : decode cX10_now 44 = .ok (.invokevirtual 124, 3) := by decide +kernel
theorem dX10_now_47 : decode cX10_now 47 = .ok (.ireturn, 1) := by decide +kernel
theorem dX10_now_48 : decode cX10_now 48 = .ok (.aload_n 0, 1) := by decide +kernel
theorem dX10_now_49 : decode cX10_now 49 = .ok (.iconst (-1), 1) := by decide +kernel
theorem dX10_now_50 : decode cX10_now 50 = .ok (.invokevirtual 66, 3) := by decide +kernel
theorem dX10_now_53 : decode cX10_now 53 = .ok (.ireturn, 1) := by decide +kernel
theorem dX10_now_54 : decode cX10_now 54 = .ok (.aload_n 0, 1) := by decide +kernel
theorem dX10_now_55 : decode cX10_now 55 = .ok (.iconst 1, 1) := by decide +kernel
theorem dX10_now_56 : decode cX10_now 56 = .ok (.invokevirtual 131, 3) := by decide +kernel
theorem dX10_now_59 : decode cX10_now 59 = .ok (.ireturn, 1) := by decide +kernel
theorem dX10_now_60 : decode cX10_now 60 = .ok (.aload_n 0, 1) := by decide +kernel
theorem dX10_now_61 : decode cX10_now 61 = .ok (.invokevirtual 134, 3) := by decide +kernel
theorem dX10_now_64 : decode cX10_now 64 = .ok (.ireturn, 1) := by decide +kernel
theorem dX10_now_65 : decode cX10_now 65 = .ok (.aload_n 0, 1) := by decide +kernel
theorem dX10_now_66 : decode cX10_now 66 = .ok (.ldc 35, 2) := by decide +kernel
theorem dX10_now_68 : decode cX10_now 68 = .ok (.invokevirtual 37, 3) := by decide +kernel
theorem dX10_now_71 : decode cX10_now 71 = .ok (.ireturn, 1) := by decide +kernel
theorem dX10_thinks_0 : decode cX10_thinks 0 = .ok (.aload_n 0, 1) := by decide +kernel
theorem dX10_thinks_1 : decode cX10_thinks 1 = .ok (.getfield 9, 3) := by decide +kernel
theorem dX10_thinks_4 : decode cX10_thinks 4 = .ok (.aload_n 0, 1) := by decide +kernel
theorem dX10_thinks_5 : decode cX10_thinks 5 = .ok (.getfield 16, 3) := by decide +kernel
theorem dX10_thinks_8 : decode cX10_thinks 8 = .ok (.invokestatic 137, 3) := by decide +kernel
theorem dX10_thinks_11 : decode cX10_thinks 11 = .ok (.return_, 1) := by decide +kernel
theorem dX10_putsBack_0 : decode cX10_putsBack 0 = .ok (.aload_n 0, 1) := by decide +kernel
theorem dX10_putsBack_1 : decode cX10_putsBack 1 = .ok (.getfield 16, 3) := by decide +kernel
theorem dX10_putsBack_4 : decode cX10_putsBack 4 = .ok (.aload_n 0, 1) := by decide +kernel
theorem dX10_putsBack_5 : decode cX10_putsBack 5 = .ok (.getfield 9, 3) := by decide +kernel
theorem dX10_putsBack_8 : decode cX10_putsBack 8 = .ok (.invokestatic 137, 3) := by decide +kernel
theorem dX10_putsBack_11 : decode cX10_putsBack 11 = .ok (.return_, 1) := by decide +kernel
theorem dX10_on_0 : decode cX10_on 0 = .ok (.aload_n 0, 1) := by decide +kernel
theorem dX10_on_1 : decode cX10_on 1 = .ok (.iload_n 1, 1) := by decide +kernel
theorem dX10_on_2 : decode cX10_on 2 = .ok (.invokevirtual 81, 3) := by decide +kernel
theorem dX10_on_5 : decode cX10_on 5 = .ok (.ifCond .eq 24, 3) := by decide +kernel
theorem dX10_on_8 : decode cX10_on 8 = .ok (.iload_n 2, 1) := by decide +kernel
theorem dX10_on_9 : decode cX10_on 9 = .ok (.i2l, 1) := by decide +kernel
theorem dX10_on_10 : decode cX10_on 10 = .ok (.iconst 0, 1) := by decide +kernel
theorem dX10_on_11 : decode cX10_on 11 = .ok (.bipush 100, 2) := by decide +kernel
theorem dX10_on_13 : decode cX10_on 13 = .ok (.invokestatic 41, 3) := by decide +kernel
theorem dX10_on_16 : decode cX10_on 16 = .ok (.ifCond .eq 13, 3) := by decide +kernel
theorem dX10_on_19 : decode cX10_on 19 = .ok (.iload_n 3, 1) := by decide +kernel
theorem dX10_on_20 : decode cX10_on 20 = .ok (.i2l, 1) := by decide +kernel
theorem dX10_on_21 : decode cX10_on 21 = .ok (.iconst 0, 1) := by decide +kernel
theorem dX10_on_22 : decode cX10_on 22 = .ok (.iconst 2, 1) := by decide +kernel
theorem dX10_on_23 : decode cX10_on 23 = .ok (.invokestatic 41, 3) := by decide +kernel
theorem dX10_on_26 : decode cX10_on 26 = .ok (.ifCond .ne 10, 3) := by decide +kernel
theorem dX10_on_29 : decode cX10_on 29 = .ok (.aload_n 0, 1) := by decide +kernel
theorem dX10_on_30 : decode cX10_on 30 = .ok (.ldc 35, 2) := by decide +kernel
theorem dX10_on_32 : decode cX10_on 32 = .ok (.invokevirtual 37, 3) := by decide +kernel
theorem dX10_on_35 : decode cX10_on 35 = .ok (.ireturn, 1) := by decide +kernel
theorem dX10_on_36 : decode cX10_on 36 = .ok (.aload_n 0, 1) := by decide +kernel
theorem dX10_on_37 : decode cX10_on 37 = .ok (.invokevirtual 141, 3) := by decide +kernel
theorem dX10_on_40 : decode cX10_on 40 = .ok (.aload_n 0, 1) := by decide +kernel
theorem dX10_on_41 : decode cX10_on 41 = .ok (.iload_n 2, 1) := by decide +kernel
theorem dX10_on_42 : decode cX10_on 42 = .ok (.invokevirtual 128, 3) := by decide +kernel
theorem dX10_on_45 : decode cX10_on 45 = .ok (.aload_n 0, 1) := by decide +kernel
theorem dX10_on_46 : decode cX10_on 46 = .ok (.iload_n 1, 1) := by decide +kernel
theorem dX10_on_47 : decode cX10_on 47 = .ok (.iconst 1, 1) := by decide +kernel
theorem dX10_on_48 : decode cX10_on 48 = .ok (.iload_n 3, 1) := by decide +kernel
theorem dX10_on_49 : decode cX10_on 49 = .ok (.iadd, 1) := by decide +kernel
theorem dX10_on_50 : decode cX10_on 50 = .ok (.invokevirtual 45, 3) := by decide +kernel
theorem dX10_on_53 : decode cX10_on 53 = .ok (.istore 4, 2) := by decide +kernel
theorem dX10_on_55 : decode cX10_on 55 = .ok (.aload_n 0, 1) := by decide +kernel
theorem dX10_on_56 : decode cX10_on 56 = .ok (.invokevirtual 144, 3) := by decide +kernel
theorem dX10_on_59 : decode cX10_on 59 = .ok (.iload 4, 2) := by decide +kernel
theorem dX10_on_61 : decode cX10_on 61 = .ok (.ireturn, 1) := by decide +kernel
theorem dX10_then_0 : decode cX10_then 0 = .ok (.iload_n 1, 1) := by decide +kernel
theorem dX10_then_1 : decode cX10_then 1 = .ok (.invokestatic 49, 3) := by decide +kernel
theorem dX10_then_4 : decode cX10_then 4 = .ok (.ifCond .eq 24, 3) := by decide +kernel
theorem dX10_then_7 : decode cX10_then 7 = .ok (.iload_n 2, 1) := by decide +kernel
theorem dX10_then_8 : decode cX10_then 8 = .ok (.i2l, 1) := by decide +kernel
theorem dX10_then_9 : decode cX10_then 9 = .ok (.iconst 0, 1) := by decide +kernel
theorem dX10_then_10 : decode cX10_then 10 = .ok (.bipush 100, 2) := by decide +kernel
theorem dX10_then_12 : decode cX10_then 12 = .ok (.invokestatic 41, 3) := by decide +kernel
theorem dX10_then_15 : decode cX10_then 15 = .ok (.ifCond .eq 13, 3) := by decide +kernel
theorem dX10_then_18 : decode cX10_then 18 = .ok (.iload_n 3, 1) := by decide +kernel
theorem dX10_then_19 : decode cX10_then 19 = .ok (.i2l, 1) := by decide +kernel
theorem dX10_then_20 : decode cX10_then 20 = .ok (.iconst 0, 1) := by decide +kernel
theorem dX10_then_21 : decode cX10_then 21 = .ok (.iconst 1, 1) := by decide +kernel
theorem dX10_then_22 : decode cX10_then 22 = .ok (.invokestatic 41, 3) := by decide +kernel
theorem dX10_then_25 : decode cX10_then 25 = .ok (.ifCond .ne 10, 3) := by decide +kernel
theorem dX10_then_28 : decode cX10_then 28 = .ok (.aload_n 0, 1) := by decide +kernel
theorem dX10_then_29 : decode cX10_then 29 = .ok (.ldc 35, 2) := by decide +kernel
theorem dX10_then_31 : decode cX10_then 31 = .ok (.invokevirtual 37, 3) := by decide +kernel
theorem dX10_then_34 : decode cX10_then 34 = .ok (.ireturn, 1) := by decide +kernel
theorem dX10_then_35 : decode cX10_then 35 = .ok (.aload_n 0, 1) := by decide +kernel
theorem dX10_then_36 : decode cX10_then 36 = .ok (.invokevirtual 141, 3) := by decide +kernel
theorem dX10_then_39 : decode cX10_then 39 = .ok (.aload_n 0, 1) := by decide +kernel
theorem dX10_then_40 : decode cX10_then 40 = .ok (.iload_n 2, 1) := by decide +kernel
theorem dX10_then_41 : decode cX10_then 41 = .ok (.invokevirtual 128, 3) := by decide +kernel
theorem dX10_then_44 : decode cX10_then 44 = .ok (.aload_n 0, 1) := by decide +kernel
theorem dX10_then_45 : decode cX10_then 45 = .ok (.iload_n 1, 1) := by decide +kernel
theorem dX10_then_46 : decode cX10_then 46 = .ok (.iconst 1, 1) := by decide +kernel
theorem dX10_then_47 : decode cX10_then 47 = .ok (.iload_n 3, 1) := by decide +kernel
theorem dX10_then_48 : decode cX10_then 48 = .ok (.iadd, 1) := by decide +kernel
theorem dX10_then_49 : decode cX10_then 49 = .ok (.invokevirtual 63, 3) := by decide +kernel
theorem dX10_then_52 : decode cX10_then 52 = .ok (.istore 4, 2) := by decide +kernel
theorem dX10_then_54 : decode cX10_then 54 = .ok (.aload_n 0, 1) := by decide +kernel
theorem dX10_then_55 : decode cX10_then 55 = .ok (.invokevirtual 144, 3) := by decide +kernel
theorem dX10_then_58 : decode cX10_then 58 = .ok (.iload 4, 2) := by decide +kernel
theorem dX10_then_60 : decode cX10_then 60 = .ok (.ireturn, 1) := by decide +kernel
theorem dX10_doneIn_0 : decode cX10_doneIn 0 = .ok (.iconst 0, 1) := by decide +kernel
theorem dX10_doneIn_1 : decode cX10_doneIn 1 = .ok (.istore_n 3, 1) := by decide +kernel
theorem dX10_doneIn_2 : decode cX10_doneIn 2 = .ok (.iload_n 3, 1) := by decide +kernel
theorem dX10_doneIn_3 : decode cX10_doneIn 3 = .ok (.iload_n 2, 1) := by decide +kernel
theorem dX10_doneIn_4 : decode cX10_doneIn 4 = .ok (.if_icmp .gt 21, 3) := by decide +kernel
theorem dX10_doneIn_7 : decode cX10_doneIn 7 = .ok (.aload_n 0, 1) := by decide +kernel
theorem dX10_doneIn_8 : decode cX10_doneIn 8 = .ok (.iload_n 1, 1) := by decide +kernel
theorem dX10_doneIn_9 : decode cX10_doneIn 9 = .ok (.invokevirtual 60, 3) := by decide +kernel
theorem dX10_doneIn_12 : decode cX10_doneIn 12 = .ok (.ifCond .ne 13, 3) := by decide +kernel
theorem dX10_doneIn_15 : decode cX10_doneIn 15 = .ok (.aload_n 0, 1) := by decide +kernel
theorem dX10_doneIn_16 : decode cX10_doneIn 16 = .ok (.invokevirtual 121, 3) := by decide +kernel
theorem dX10_doneIn_19 : decode cX10_doneIn 19 = .ok (.iinc 3 1, 3) := by decide +kernel
theorem dX10_doneIn_22 : decode cX10_doneIn 22 = .ok (.goto (-20), 3) := by decide +kernel
theorem dX10_doneIn_25 : decode cX10_doneIn 25 = .ok (.aload_n 0, 1) := by decide +kernel
theorem dX10_doneIn_26 : decode cX10_doneIn 26 = .ok (.invokevirtual 144, 3) := by decide +kernel
theorem dX10_doneIn_29 : decode cX10_doneIn 29 = .ok (.iload_n 3, 1) := by decide +kernel
theorem dX10_doneIn_30 : decode cX10_doneIn 30 = .ok (.iload_n 2, 1) := by decide +kernel
theorem dX10_doneIn_31 : decode cX10_doneIn 31 = .ok (.if_icmp .le 7, 3) := by decide +kernel
theorem dX10_doneIn_34 : decode cX10_doneIn 34 = .ok (.iconst (-1), 1) := by decide +kernel
theorem dX10_doneIn_35 : decode cX10_doneIn 35 = .ok (.goto 4, 3) := by decide +kernel
theorem dX10_doneIn_38 : decode cX10_doneIn 38 = .ok (.iload_n 3, 1) := by decide +kernel
theorem dX10_doneIn_39 : decode cX10_doneIn 39 = .ok (.ireturn, 1) := by decide +kernel
theorem dX10_finished_0 : decode cX10_finished 0 = .ok (.aload_n 0, 1) := by decide +kernel
theorem dX10_finished_1 : decode cX10_finished 1 = .ok (.iload_n 1, 1) := by decide +kernel
theorem dX10_finished_2 : decode cX10_finished 2 = .ok (.invokevirtual 81, 3) := by decide +kernel
theorem dX10_finished_5 : decode cX10_finished 5 = .ok (.ifCond .ne 10, 3) := by decide +kernel
theorem dX10_finished_8 : decode cX10_finished 8 = .ok (.aload_n 0, 1) := by decide +kernel
theorem dX10_finished_9 : decode cX10_finished 9 = .ok (.ldc 35, 2) := by decide +kernel
theorem dX10_finished_11 : decode cX10_finished 11 = .ok (.invokevirtual 37, 3) := by decide +kernel
theorem dX10_finished_14 : decode cX10_finished 14 = .ok (.ireturn, 1) := by decide +kernel
theorem dX10_finished_15 : decode cX10_finished 15 = .ok (.aload_n 0, 1) := by decide +kernel
theorem dX10_finished_16 : decode cX10_finished 16 = .ok (.invokevirtual 141, 3) := by decide +kernel
theorem dX10_finished_19 : decode cX10_finished 19 = .ok (.aload_n 0, 1) := by decide +kernel
theorem dX10_finished_20 : decode cX10_finished 20 = .ok (.aload_n 0, 1) := by decide +kernel
theorem dX10_finished_21 : decode cX10_finished 21 = .ok (.iload_n 1, 1) := by decide +kernel
theorem dX10_finished_22 : decode cX10_finished 22 = .ok (.sipush 200, 3) := by decide +kernel
theorem dX10_finished_25 : decode cX10_finished 25 = .ok (.invokevirtual 147, 3) := by decide +kernel
theorem dX10_finished_28 : decode cX10_finished 28 = .ok (.invokevirtual 110, 3) := by decide +kernel
theorem dX10_finished_31 : decode cX10_finished 31 = .ok (.ireturn, 1) := by decide +kernel
theorem dX10_comes_0 : decode cX10_comes 0 = .ok (.aload_n 0, 1) := by decide +kernel
theorem dX10_comes_1 : decode cX10_comes 1 = .ok (.iload_n 1, 1) := by decide +kernel
theorem dX10_comes_2 : decode cX10_comes 2 = .ok (.invokevirtual 81, 3) := by decide +kernel
theorem dX10_comes_5 : decode cX10_comes 5 = .ok (.ifCond .eq 10, 3) := by decide +kernel
theorem dX10_comes_8 : decode cX10_comes 8 = .ok (.iload_n 2, 1) := by decide +kernel
theorem dX10_comes_9 : decode cX10_comes 9 = .ok (.invokestatic 49, 3) := by decide +kernel
theorem dX10_comes_12 : decode cX10_comes 12 = .ok (.ifCond .ne 10, 3) := by decide +kernel
theorem dX10_comes_15 : decode cX10_comes 15 = .ok (.aload_n 0, 1) := by decide +kernel
theorem dX10_comes_16 : decode cX10_comes 16 = .ok (.ldc 35, 2) := by decide +kernel
theorem dX10_comes_18 : decode cX10_comes 18 = .ok (.invokevirtual 37, 3) := by decide +kernel
theorem dX10_comes_21 : decode cX10_comes 21 = .ok (.ireturn, 1) := by decide +kernel
theorem dX10_comes_22 : decode cX10_comes 22 = .ok (.aload_n 0, 1) := by decide +kernel
theorem dX10_comes_23 : decode cX10_comes 23 = .ok (.invokevirtual 141, 3) := by decide +kernel
theorem dX10_comes_26 : decode cX10_comes 26 = .ok (.iconst 0, 1) := by decide +kernel
theorem dX10_comes_27 : decode cX10_comes 27 = .ok (.istore_n 3, 1) := by decide +kernel
theorem dX10_comes_28 : decode cX10_comes 28 = .ok (.iload_n 3, 1) := by decide +kernel
theorem dX10_comes_29 : decode cX10_comes 29 = .ok (.sipush 200, 3) := by decide +kernel
theorem dX10_comes_32 : decode cX10_comes 32 = .ok (.if_icmp .gt 23, 3) := by decide +kernel
theorem dX10_comes_35 : decode cX10_comes 35 = .ok (.aload_n 0, 1) := by decide +kernel
theorem dX10_comes_36 : decode cX10_comes 36 = .ok (.iload_n 1, 1) := by decide +kernel
theorem dX10_comes_37 : decode cX10_comes 37 = .ok (.iconst 2, 1) := by decide +kernel
theorem dX10_comes_38 : decode cX10_comes 38 = .ok (.invokevirtual 45, 3) := by decide +kernel
theorem dX10_comes_41 : decode cX10_comes 41 = .ok (.iload_n 2, 1) := by decide +kernel
theorem dX10_comes_42 : decode cX10_comes 42 = .ok (.if_icmp .eq 13, 3) := by decide +kernel
theorem dX10_comes_45 : decode cX10_comes 45 = .ok (.aload_n 0, 1) := by decide +kernel
theorem dX10_comes_46 : decode cX10_comes 46 = .ok (.invokevirtual 121, 3) := by decide +kernel
theorem dX10_comes_49 : decode cX10_comes 49 = .ok (.iinc 3 1, 3) := by decide +kernel
theorem dX10_comes_52 : decode cX10_comes 52 = .ok (.goto (-24), 3) := by decide +kernel
theorem dX10_comes_55 : decode cX10_comes 55 = .ok (.aload_n 0, 1) := by decide +kernel
theorem dX10_comes_56 : decode cX10_comes 56 = .ok (.invokevirtual 144, 3) := by decide +kernel
theorem dX10_comes_59 : decode cX10_comes 59 = .ok (.iload_n 3, 1) := by decide +kernel
theorem dX10_comes_60 : decode cX10_comes 60 = .ok (.sipush 200, 3) := by decide +kernel
theorem dX10_comes_63 : decode cX10_comes 63 = .ok (.if_icmp .le 12, 3) := by decide +kernel
theorem dX10_comes_66 : decode cX10_comes 66 = .ok (.aload_n 0, 1) := by decide +kernel
theorem dX10_comes_67 : decode cX10_comes 67 = .ok (.ldc 36, 2) := by decide +kernel
theorem dX10_comes_69 : decode cX10_comes 69 = .ok (.invokevirtual 37, 3) := by decide +kernel
theorem dX10_comes_72 : decode cX10_comes 72 = .ok (.goto 4, 3) := by decide +kernel
theorem dX10_comes_75 : decode cX10_comes 75 = .ok (.iload_n 3, 1) := by decide +kernel
theorem dX10_comes_76 : decode cX10_comes 76 = .ok (.ireturn, 1) := by decide +kernel
theorem dX10_all_0 : decode cX10_all 0 = .ok (.aload_n 0, 1) := by decide +kernel
theorem dX10_all_1 : decode cX10_all 1 = .ok (.invokevirtual 141, 3) := by decide +kernel
theorem dX10_all_4 : decode cX10_all 4 = .ok (.iconst 0, 1) := by decide +kernel
theorem dX10_all_5 : decode cX10_all 5 = .ok (.istore_n 1, 1) := by decide +kernel
theorem dX10_all_6 : decode cX10_all 6 = .ok (.iload_n 1, 1) := by decide +kernel
theorem dX10_all_7 : decode cX10_all 7 = .ok (.sipush 200, 3) := by decide +kernel
theorem dX10_all_10 : decode cX10_all 10 = .ok (.if_icmp .gt 20, 3) := by decide +kernel
theorem dX10_all_13 : decode cX10_all 13 = .ok (.aload_n 0, 1) := by decide +kernel
theorem dX10_all_14 : decode cX10_all 14 = .ok (.invokevirtual 150, 3) := by decide +kernel
theorem dX10_all_17 : decode cX10_all 17 = .ok (.ifCond .ne 13, 3) := by decide +kernel
theorem dX10_all_20 : decode cX10_all 20 = .ok (.aload_n 0, 1) := by decide +kernel
theorem dX10_all_21 : decode cX10_all 21 = .ok (.invokevirtual 121, 3) := by decide +kernel
theorem dX10_all_24 : decode cX10_all 24 = .ok (.iinc 1 1, 3) := by decide +kernel
theorem dX10_all_27 : decode cX10_all 27 = .ok (.goto (-21), 3) := by decide +kernel
theorem dX10_all_30 : decode cX10_all 30 = .ok (.aload_n 0, 1) := by decide +kernel
theorem dX10_all_31 : decode cX10_all 31 = .ok (.invokevirtual 144, 3) := by decide +kernel
theorem dX10_all_34 : decode cX10_all 34 = .ok (.iload_n 1, 1) := by decide +kernel
theorem dX10_all_35 : decode cX10_all 35 = .ok (.sipush 200, 3) := by decide +kernel
theorem dX10_all_38 : decode cX10_all 38 = .ok (.if_icmp .le 12, 3) := by decide +kernel
theorem dX10_all_41 : decode cX10_all 41 = .ok (.aload_n 0, 1) := by decide +kernel
theorem dX10_all_42 : decode cX10_all 42 = .ok (.ldc 36, 2) := by decide +kernel
theorem dX10_all_44 : decode cX10_all 44 = .ok (.invokevirtual 37, 3) := by decide +kernel
theorem dX10_all_47 : decode cX10_all 47 = .ok (.goto 4, 3) := by decide +kernel
theorem dX10_all_50 : decode cX10_all 50 = .ok (.iload_n 1, 1) := by decide +kernel
theorem dX10_all_51 : decode cX10_all 51 = .ok (.ireturn, 1) := by decide +kernel
theorem dX10_soonestBy_0 : decode cX10_soonestBy 0 = .ok (.aload_n 0, 1) := by decide +kernel
theorem dX10_soonestBy_1 : decode cX10_soonestBy 1 = .ok (.invokevirtual 141, 3) := by decide +kernel
theorem dX10_soonestBy_4 : decode cX10_soonestBy 4 = .ok (.iconst (-1), 1) := by decide +kernel
theorem dX10_soonestBy_5 : decode cX10_soonestBy 5 = .ok (.istore 4, 2) := by decide +kernel
theorem dX10_soonestBy_7 : decode cX10_soonestBy 7 = .ok (.iconst 0, 1) := by decide +kernel
theorem dX10_soonestBy_8 : decode cX10_soonestBy 8 = .ok (.istore 5, 2) := by decide +kernel
theorem dX10_soonestBy_10 : decode cX10_soonestBy 10 = .ok (.iconst 0, 1) := by decide +kernel
theorem dX10_soonestBy_11 : decode cX10_soonestBy 11 = .ok (.istore 6, 2) := by decide +kernel
theorem dX10_soonestBy_13 : decode cX10_soonestBy 13 = .ok (.iload 6, 2) := by decide +kernel
theorem dX10_soonestBy_15 : decode cX10_soonestBy 15 = .ok (.iload_n 2, 1) := by decide +kernel
theorem dX10_soonestBy_16 : decode cX10_soonestBy 16 = .ok (.if_icmp .ge 78, 3) := by decide +kernel
theorem dX10_soonestBy_19 : decode cX10_soonestBy 19 = .ok (.aload_n 0, 1) := by decide +kernel
theorem dX10_soonestBy_20 : decode cX10_soonestBy 20 = .ok (.getfield 9, 3) := by decide +kernel
theorem dX10_soonestBy_23 : decode cX10_soonestBy 23 = .ok (.iload_n 1, 1) := by decide +kernel
theorem dX10_soonestBy_24 : decode cX10_soonestBy 24 = .ok (.iload 6, 2) := by decide +kernel
theorem dX10_soonestBy_26 : decode cX10_soonestBy 26 = .ok (.iastore, 1) := by decide +kernel
theorem dX10_soonestBy_27 : decode cX10_soonestBy 27 = .ok (.aload_n 0, 1) := by decide +kernel
theorem dX10_soonestBy_28 : decode cX10_soonestBy 28 = .ok (.iload_n 3, 1) := by decide +kernel
theorem dX10_soonestBy_29 : decode cX10_soonestBy 29 = .ok (.bipush 100, 2) := by decide +kernel
theorem dX10_soonestBy_31 : decode cX10_soonestBy 31 = .ok (.invokevirtual 147, 3) := by decide +kernel
theorem dX10_soonestBy_34 : decode cX10_soonestBy 34 = .ok (.istore 7, 2) := by decide +kernel
theorem dX10_soonestBy_36 : decode cX10_soonestBy 36 = .ok (.iload 7, 2) := by decide +kernel
theorem dX10_soonestBy_38 : decode cX10_soonestBy 38 = .ok (.ifCond .lt 19, 3) := by decide +kernel
theorem dX10_soonestBy_41 : decode cX10_soonestBy 41 = .ok (.iload 4, 2) := by decide +kernel
theorem dX10_soonestBy_43 : decode cX10_soonestBy 43 = .ok (.ifCond .lt 10, 3) := by decide +kernel
theorem dX10_soonestBy_46 : decode cX10_soonestBy 46 = .ok (.iload 7, 2) := by decide +kernel
theorem dX10_soonestBy_48 : decode cX10_soonestBy 48 = .ok (.iload 5, 2) := by decide +kernel
theorem dX10_soonestBy_50 : decode cX10_soonestBy 50 = .ok (.if_icmp .ge 7, 3) := by decide +kernel
theorem dX10_soonestBy_53 : decode cX10_soonestBy 53 = .ok (.iconst 1, 1) := by decide +kernel
theorem dX10_soonestBy_54 : decode cX10_soonestBy 54 = .ok (.goto 4, 3) := by decide +kernel
theorem dX10_soonestBy_57 : decode cX10_soonestBy 57 = .ok (.iconst 0, 1) := by decide +kernel
theorem dX10_soonestBy_58 : decode cX10_soonestBy 58 = .ok (.istore 8, 2) := by decide +kernel
theorem dX10_soonestBy_60 : decode cX10_soonestBy 60 = .ok (.iload 8, 2) := by decide +kernel
theorem dX10_soonestBy_62 : decode cX10_soonestBy 62 = .ok (.ifCond .eq 8, 3) := by decide +kernel
theorem dX10_soonestBy_65 : decode cX10_soonestBy 65 = .ok (.iload 6, 2) := by decide +kernel
theorem dX10_soonestBy_67 : decode cX10_soonestBy 67 = .ok (.goto 5, 3) := by decide +kernel
theorem dX10_soonestBy_70 : decode cX10_soonestBy 70 = .ok (.iload 4, 2) := by decide +kernel
theorem dX10_soonestBy_72 : decode cX10_soonestBy 72 = .ok (.istore 4, 2) := by decide +kernel
theorem dX10_soonestBy_74 : decode cX10_soonestBy 74 = .ok (.iload 8, 2) := by decide +kernel
theorem dX10_soonestBy_76 : decode cX10_soonestBy 76 = .ok (.ifCond .eq 8, 3) := by decide +kernel
theorem dX10_soonestBy_79 : decode cX10_soonestBy 79 = .ok (.iload 7, 2) := by decide +kernel
theorem dX10_soonestBy_81 : decode cX10_soonestBy 81 = .ok (.goto 5, 3) := by decide +kernel
theorem dX10_soonestBy_84 : decode cX10_soonestBy 84 = .ok (.iload 5, 2) := by decide +kernel
theorem dX10_soonestBy_86 : decode cX10_soonestBy 86 = .ok (.istore 5, 2) := by decide +kernel
theorem dX10_soonestBy_88 : decode cX10_soonestBy 88 = .ok (.iinc 6 1, 3) := by decide +kernel
theorem dX10_soonestBy_91 : decode cX10_soonestBy 91 = .ok (.goto (-78), 3) := by decide +kernel
theorem dX10_soonestBy_94 : decode cX10_soonestBy 94 = .ok (.iload 4, 2) := by decide +kernel
theorem dX10_soonestBy_96 : decode cX10_soonestBy 96 = .ok (.ireturn, 1) := by decide +kernel
theorem dX10_give_0 : decode cX10_give 0 = .ok (.aload_n 0, 1) := by decide +kernel
theorem dX10_give_1 : decode cX10_give 1 = .ok (.iload_n 1, 1) := by decide +kernel
theorem dX10_give_2 : decode cX10_give 2 = .ok (.invokevirtual 81, 3) := by decide +kernel
theorem dX10_give_5 : decode cX10_give 5 = .ok (.ifCond .ne 10, 3) := by decide +kernel
theorem dX10_give_8 : decode cX10_give 8 = .ok (.aload_n 0, 1) := by decide +kernel
theorem dX10_give_9 : decode cX10_give 9 = .ok (.ldc 35, 2) := by decide +kernel
theorem dX10_give_11 : decode cX10_give 11 = .ok (.invokevirtual 37, 3) := by decide +kernel
theorem dX10_give_14 : decode cX10_give 14 = .ok (.ireturn, 1) := by decide +kernel
theorem dX10_give_15 : decode cX10_give 15 = .ok (.aload_n 0, 1) := by decide +kernel
theorem dX10_give_16 : decode cX10_give 16 = .ok (.iload_n 1, 1) := by decide +kernel
theorem dX10_give_17 : decode cX10_give 17 = .ok (.invokevirtual 60, 3) := by decide +kernel
theorem dX10_give_20 : decode cX10_give 20 = .ok (.ifCond .eq 12, 3) := by decide +kernel
theorem dX10_give_23 : decode cX10_give 23 = .ok (.aload_n 0, 1) := by decide +kernel
theorem dX10_give_24 : decode cX10_give 24 = .ok (.ldc 106, 2) := by decide +kernel
theorem dX10_give_26 : decode cX10_give 26 = .ok (.invokevirtual 37, 3) := by decide +kernel
theorem dX10_give_29 : decode cX10_give 29 = .ok (.goto 22, 3) := by decide +kernel
theorem dX10_give_32 : decode cX10_give 32 = .ok (.aload_n 0, 1) := by decide +kernel
theorem dX10_give_33 : decode cX10_give 33 = .ok (.aload_n 0, 1) := by decide +kernel
theorem dX10_give_34 : decode cX10_give 34 = .ok (.bipush 20, 2) := by decide +kernel
theorem dX10_give_36 : decode cX10_give 36 = .ok (.iconst 4, 1) := by decide +kernel
theorem dX10_give_37 : decode cX10_give 37 = .ok (.iload_n 1, 1) := by decide +kernel
theorem dX10_give_38 : decode cX10_give 38 = .ok (.imul, 1) := by decide +kernel
theorem dX10_give_39 : decode cX10_give 39 = .ok (.iadd, 1) := by decide +kernel
theorem dX10_give_40 : decode cX10_give 40 = .ok (.iconst 2, 1) := by decide +kernel
theorem dX10_give_41 : decode cX10_give 41 = .ok (.iadd, 1) := by decide +kernel
theorem dX10_give_42 : decode cX10_give 42 = .ok (.bipush 6, 2) := by decide +kernel
theorem dX10_give_44 : decode cX10_give 44 = .ok (.iload_n 1, 1) := by decide +kernel
theorem dX10_give_45 : decode cX10_give 45 = .ok (.invokevirtual 154, 3) := by decide +kernel
theorem dX10_give_48 : decode cX10_give 48 = .ok (.invokevirtual 110, 3) := by decide +kernel
theorem dX10_give_51 : decode cX10_give 51 = .ok (.ireturn, 1) := by decide +kernel
theorem dX10_kind_0 : decode cX10_kind 0 = .ok (.aload_n 0, 1) := by decide +kernel
theorem dX10_kind_1 : decode cX10_kind 1 = .ok (.iload_n 1, 1) := by decide +kernel
theorem dX10_kind_2 : decode cX10_kind 2 = .ok (.invokevirtual 81, 3) := by decide +kernel
theorem dX10_kind_5 : decode cX10_kind 5 = .ok (.ifCond .eq 23, 3) := by decide +kernel
theorem dX10_kind_8 : decode cX10_kind 8 = .ok (.aload_n 0, 1) := by decide +kernel
theorem dX10_kind_9 : decode cX10_kind 9 = .ok (.aload_n 0, 1) := by decide +kernel
theorem dX10_kind_10 : decode cX10_kind 10 = .ok (.bipush 20, 2) := by decide +kernel
theorem dX10_kind_12 : decode cX10_kind 12 = .ok (.iconst 4, 1) := by decide +kernel
theorem dX10_kind_13 : decode cX10_kind 13 = .ok (.iload_n 1, 1) := by decide +kernel
theorem dX10_kind_14 : decode cX10_kind 14 = .ok (.imul, 1) := by decide +kernel
theorem dX10_kind_15 : decode cX10_kind 15 = .ok (.iadd, 1) := by decide +kernel
theorem dX10_kind_16 : decode cX10_kind 16 = .ok (.bipush 6, 2) := by decide +kernel
theorem dX10_kind_18 : decode cX10_kind 18 = .ok (.iload_n 1, 1) := by decide +kernel
theorem dX10_kind_19 : decode cX10_kind 19 = .ok (.invokevirtual 154, 3) := by decide +kernel
theorem dX10_kind_22 : decode cX10_kind 22 = .ok (.invokevirtual 110, 3) := by decide +kernel
theorem dX10_kind_25 : decode cX10_kind 25 = .ok (.goto 9, 3) := by decide +kernel
theorem dX10_kind_28 : decode cX10_kind 28 = .ok (.aload_n 0, 1) := by decide +kernel
theorem dX10_kind_29 : decode cX10_kind 29 = .ok (.ldc 35, 2) := by decide +kernel
theorem dX10_kind_31 : decode cX10_kind 31 = .ok (.invokevirtual 37, 3) := by decide +kernel
theorem dX10_kind_34 : decode cX10_kind 34 = .ok (.ireturn, 1) := by decide +kernel
theorem dX10_zeal_0 : decode cX10_zeal 0 = .ok (.iload_n 1, 1) := by decide +kernel
theorem dX10_zeal_1 : decode cX10_zeal 1 = .ok (.invokestatic 49, 3) := by decide +kernel
theorem dX10_zeal_4 : decode cX10_zeal 4 = .ok (.ifCond .eq 26, 3) := by decide +kernel
theorem dX10_zeal_7 : decode cX10_zeal 7 = .ok (.iload_n 2, 1) := by decide +kernel
theorem dX10_zeal_8 : decode cX10_zeal 8 = .ok (.i2l, 1) := by decide +kernel
theorem dX10_zeal_9 : decode cX10_zeal 9 = .ok (.iconst 1, 1) := by decide +kernel
theorem dX10_zeal_10 : decode cX10_zeal 10 = .ok (.bipush 60, 2) := by decide +kernel
theorem dX10_zeal_12 : decode cX10_zeal 12 = .ok (.invokestatic 41, 3) := by decide +kernel
theorem dX10_zeal_15 : decode cX10_zeal 15 = .ok (.ifCond .eq 15, 3) := by decide +kernel
theorem dX10_zeal_18 : decode cX10_zeal 18 = .ok (.iload_n 3, 1) := by decide +kernel
theorem dX10_zeal_19 : decode cX10_zeal 19 = .ok (.i2l, 1) := by decide +kernel
theorem dX10_zeal_20 : decode cX10_zeal 20 = .ok (.iconst 0, 1) := by decide +kernel
theorem dX10_zeal_21 : decode cX10_zeal 21 = .ok (.sipush 999, 3) := by decide +kernel
theorem dX10_zeal_24 : decode cX10_zeal 24 = .ok (.invokestatic 41, 3) := by decide +kernel
theorem dX10_zeal_27 : decode cX10_zeal 27 = .ok (.ifCond .ne 10, 3) := by decide +kernel
theorem dX10_zeal_30 : decode cX10_zeal 30 = .ok (.aload_n 0, 1) := by decide +kernel
theorem dX10_zeal_31 : decode cX10_zeal 31 = .ok (.ldc 35, 2) := by decide +kernel
theorem dX10_zeal_33 : decode cX10_zeal 33 = .ok (.invokevirtual 37, 3) := by decide +kernel
theorem dX10_zeal_36 : decode cX10_zeal 36 = .ok (.ireturn, 1) := by decide +kernel
theorem dX10_zeal_37 : decode cX10_zeal 37 = .ok (.aload_n 0, 1) := by decide +kernel
theorem dX10_zeal_38 : decode cX10_zeal 38 = .ok (.invokevirtual 141, 3) := by decide +kernel
theorem dX10_zeal_41 : decode cX10_zeal 41 = .ok (.iconst (-1), 1) := by decide +kernel
theorem dX10_zeal_42 : decode cX10_zeal 42 = .ok (.istore 4, 2) := by decide +kernel
theorem dX10_zeal_44 : decode cX10_zeal 44 = .ok (.iconst 0, 1) := by decide +kernel
theorem dX10_zeal_45 : decode cX10_zeal 45 = .ok (.istore 5, 2) := by decide +kernel
theorem dX10_zeal_47 : decode cX10_zeal 47 = .ok (.iload 5, 2) := by decide +kernel
theorem dX10_zeal_49 : decode cX10_zeal 49 = .ok (.bipush 9, 2) := by decide +kernel
theorem dX10_zeal_51 : decode cX10_zeal 51 = .ok (.if_icmp .gt 49, 3) := by decide +kernel
theorem dX10_zeal_54 : decode cX10_zeal 54 = .ok (.iload 4, 2) := by decide +kernel
theorem dX10_zeal_56 : decode cX10_zeal 56 = .ok (.ifCond .ge 44, 3) := by decide +kernel
theorem dX10_zeal_59 : decode cX10_zeal 59 = .ok (.aload_n 0, 1) := by decide +kernel
theorem dX10_zeal_60 : decode cX10_zeal 60 = .ok (.iload_n 1, 1) := by decide +kernel
theorem dX10_zeal_61 : decode cX10_zeal 61 = .ok (.iconst 1, 1) := by decide +kernel
theorem dX10_zeal_62 : decode cX10_zeal 62 = .ok (.iload 5, 2) := by decide +kernel
theorem dX10_zeal_64 : decode cX10_zeal 64 = .ok (.invokevirtual 97, 3) := by decide +kernel
theorem dX10_zeal_67 : decode cX10_zeal 67 = .ok (.aload_n 0, 1) := by decide +kernel
theorem dX10_zeal_68 : decode cX10_zeal 68 = .ok (.iload_n 2, 1) := by decide +kernel
theorem dX10_zeal_69 : decode cX10_zeal 69 = .ok (.invokevirtual 128, 3) := by decide +kernel
theorem dX10_zeal_72 : decode cX10_zeal 72 = .ok (.aload_n 0, 1) := by decide +kernel
theorem dX10_zeal_73 : decode cX10_zeal 73 = .ok (.iload_n 1, 1) := by decide +kernel
theorem dX10_zeal_74 : decode cX10_zeal 74 = .ok (.iconst 2, 1) := by decide +kernel
theorem dX10_zeal_75 : decode cX10_zeal 75 = .ok (.invokevirtual 63, 3) := by decide +kernel
theorem dX10_zeal_78 : decode cX10_zeal 78 = .ok (.iload_n 3, 1) := by decide +kernel
theorem dX10_zeal_79 : decode cX10_zeal 79 = .ok (.if_icmp .lt 8, 3) := by decide +kernel
theorem dX10_zeal_82 : decode cX10_zeal 82 = .ok (.iload 5, 2) := by decide +kernel
theorem dX10_zeal_84 : decode cX10_zeal 84 = .ok (.goto 4, 3) := by decide +kernel
theorem dX10_zeal_87 : decode cX10_zeal 87 = .ok (.iconst (-1), 1) := by decide +kernel
theorem dX10_zeal_88 : decode cX10_zeal 88 = .ok (.istore 4, 2) := by decide +kernel
theorem dX10_zeal_90 : decode cX10_zeal 90 = .ok (.aload_n 0, 1) := by decide +kernel
theorem dX10_zeal_91 : decode cX10_zeal 91 = .ok (.invokevirtual 144, 3) := by decide +kernel
theorem dX10_zeal_94 : decode cX10_zeal 94 = .ok (.iinc 5 1, 3) := by decide +kernel
theorem dX10_zeal_97 : decode cX10_zeal 97 = .ok (.goto (-50), 3) := by decide +kernel
theorem dX10_zeal_100 : decode cX10_zeal 100 = .ok (.aload_n 0, 1) := by decide +kernel
theorem dX10_zeal_101 : decode cX10_zeal 101 = .ok (.iload 4, 2) := by decide +kernel
theorem dX10_zeal_103 : decode cX10_zeal 103 = .ok (.invokevirtual 110, 3) := by decide +kernel
theorem dX10_zeal_106 : decode cX10_zeal 106 = .ok (.ireturn, 1) := by decide +kernel
theorem dX10_skill_0 : decode cX10_skill 0 = .ok (.iload_n 1, 1) := by decide +kernel
theorem dX10_skill_1 : decode cX10_skill 1 = .ok (.invokestatic 49, 3) := by decide +kernel
theorem dX10_skill_4 : decode cX10_skill 4 = .ok (.ifCond .eq 14, 3) := by decide +kernel
theorem dX10_skill_7 : decode cX10_skill 7 = .ok (.iload_n 2, 1) := by decide +kernel
theorem dX10_skill_8 : decode cX10_skill 8 = .ok (.i2l, 1) := by decide +kernel
theorem dX10_skill_9 : decode cX10_skill 9 = .ok (.iconst 1, 1) := by decide +kernel
theorem dX10_skill_10 : decode cX10_skill 10 = .ok (.bipush 60, 2) := by decide +kernel
theorem dX10_skill_12 : decode cX10_skill 12 = .ok (.invokestatic 41, 3) := by decide +kernel
theorem dX10_skill_15 : decode cX10_skill 15 = .ok (.ifCond .ne 10, 3) := by decide +kernel
theorem dX10_skill_18 : decode cX10_skill 18 = .ok (.aload_n 0, 1) := by decide +kernel
theorem dX10_skill_19 : decode cX10_skill 19 = .ok (.ldc 35, 2) := by decide +kernel
theorem dX10_skill_21 : decode cX10_skill 21 = .ok (.invokevirtual 37, 3) := by decide +kernel
theorem dX10_skill_24 : decode cX10_skill 24 = .ok (.ireturn, 1) := by decide +kernel
theorem dX10_skill_25 : decode cX10_skill 25 = .ok (.aload_n 0, 1) := by decide +kernel
theorem dX10_skill_26 : decode cX10_skill 26 = .ok (.invokevirtual 141, 3) := by decide +kernel
theorem dX10_skill_29 : decode cX10_skill 29 = .ok (.iconst (-1), 1) := by decide +kernel
theorem dX10_skill_30 : decode cX10_skill 30 = .ok (.istore_n 3, 1) := by decide +kernel
theorem dX10_skill_31 : decode cX10_skill 31 = .ok (.iconst 0, 1) := by decide +kernel
theorem dX10_skill_32 : decode cX10_skill 32 = .ok (.istore 4, 2) := by decide +kernel
theorem dX10_skill_34 : decode cX10_skill 34 = .ok (.iload 4, 2) := by decide +kernel
theorem dX10_skill_36 : decode cX10_skill 36 = .ok (.bipush 20, 2) := by decide +kernel
theorem dX10_skill_38 : decode cX10_skill 38 = .ok (.if_icmp .gt 44, 3) := by decide +kernel
theorem dX10_skill_41 : decode cX10_skill 41 = .ok (.iload_n 3, 1) := by decide +kernel
theorem dX10_skill_42 : decode cX10_skill 42 = .ok (.ifCond .ge 40, 3) := by decide +kernel
theorem dX10_skill_45 : decode cX10_skill 45 = .ok (.aload_n 0, 1) := by decide +kernel
theorem dX10_skill_46 : decode cX10_skill 46 = .ok (.iload_n 1, 1) := by decide +kernel
theorem dX10_skill_47 : decode cX10_skill 47 = .ok (.iconst 0, 1) := by decide +kernel
theorem dX10_skill_48 : decode cX10_skill 48 = .ok (.iload 4, 2) := by decide +kernel
theorem dX10_skill_50 : decode cX10_skill 50 = .ok (.invokevirtual 97, 3) := by decide +kernel
theorem dX10_skill_53 : decode cX10_skill 53 = .ok (.aload_n 0, 1) := by decide +kernel
theorem dX10_skill_54 : decode cX10_skill 54 = .ok (.iload_n 2, 1) := by decide +kernel
theorem dX10_skill_55 : decode cX10_skill 55 = .ok (.invokevirtual 128, 3) := by decide +kernel
theorem dX10_skill_58 : decode cX10_skill 58 = .ok (.aload_n 0, 1) := by decide +kernel
theorem dX10_skill_59 : decode cX10_skill 59 = .ok (.invokevirtual 150, 3) := by decide +kernel
theorem dX10_skill_62 : decode cX10_skill 62 = .ok (.ifCond .eq 8, 3) := by decide +kernel
theorem dX10_skill_65 : decode cX10_skill 65 = .ok (.iload 4, 2) := by decide +kernel
theorem dX10_skill_67 : decode cX10_skill 67 = .ok (.goto 4, 3) := by decide +kernel
theorem dX10_skill_70 : decode cX10_skill 70 = .ok (.iconst (-1), 1) := by decide +kernel
theorem dX10_skill_71 : decode cX10_skill 71 = .ok (.istore_n 3, 1) := by decide +kernel
theorem dX10_skill_72 : decode cX10_skill 72 = .ok (.aload_n 0, 1) := by decide +kernel
theorem dX10_skill_73 : decode cX10_skill 73 = .ok (.invokevirtual 144, 3) := by decide +kernel
theorem dX10_skill_76 : decode cX10_skill 76 = .ok (.iinc 4 1, 3) := by decide +kernel
theorem dX10_skill_79 : decode cX10_skill 79 = .ok (.goto (-45), 3) := by decide +kernel
theorem dX10_skill_82 : decode cX10_skill 82 = .ok (.aload_n 0, 1) := by decide +kernel
theorem dX10_skill_83 : decode cX10_skill 83 = .ok (.iload_n 3, 1) := by decide +kernel
theorem dX10_skill_84 : decode cX10_skill 84 = .ok (.invokevirtual 110, 3) := by decide +kernel
theorem dX10_skill_87 : decode cX10_skill 87 = .ok (.ireturn, 1) := by decide +kernel
theorem dX10_maker_0 : decode cX10_maker 0 = .ok (.iload_n 1, 1) := by decide +kernel
theorem dX10_maker_1 : decode cX10_maker 1 = .ok (.i2l, 1) := by decide +kernel
theorem dX10_maker_2 : decode cX10_maker 2 = .ok (.iconst 0, 1) := by decide +kernel
theorem dX10_maker_3 : decode cX10_maker 3 = .ok (.bipush 100, 2) := by decide +kernel
theorem dX10_maker_5 : decode cX10_maker 5 = .ok (.invokestatic 41, 3) := by decide +kernel
theorem dX10_maker_8 : decode cX10_maker 8 = .ok (.ifCond .ne 10, 3) := by decide +kernel
theorem dX10_maker_11 : decode cX10_maker 11 = .ok (.aload_n 0, 1) := by decide +kernel
theorem dX10_maker_12 : decode cX10_maker 12 = .ok (.ldc 35, 2) := by decide +kernel
theorem dX10_maker_14 : decode cX10_maker 14 = .ok (.invokevirtual 37, 3) := by decide +kernel
theorem dX10_maker_17 : decode cX10_maker 17 = .ok (.ireturn, 1) := by decide +kernel
theorem dX10_maker_18 : decode cX10_maker 18 = .ok (.aload_n 0, 1) := by decide +kernel
theorem dX10_maker_19 : decode cX10_maker 19 = .ok (.invokevirtual 141, 3) := by decide +kernel
theorem dX10_maker_22 : decode cX10_maker 22 = .ok (.aload_n 0, 1) := by decide +kernel
theorem dX10_maker_23 : decode cX10_maker 23 = .ok (.iload_n 1, 1) := by decide +kernel
theorem dX10_maker_24 : decode cX10_maker 24 = .ok (.invokevirtual 128, 3) := by decide +kernel
theorem dX10_maker_27 : decode cX10_maker 27 = .ok (.iconst 0, 1) := by decide +kernel
theorem dX10_maker_28 : decode cX10_maker 28 = .ok (.istore_n 2, 1) := by decide +kernel
theorem dX10_maker_29 : decode cX10_maker 29 = .ok (.iconst 1, 1) := by decide +kernel
theorem dX10_maker_30 : decode cX10_maker 30 = .ok (.istore_n 3, 1) := by decide +kernel
theorem dX10_maker_31 : decode cX10_maker 31 = .ok (.iload_n 3, 1) := by decide +kernel
theorem dX10_maker_32 : decode cX10_maker 32 = .ok (.bipush 6, 2) := by decide +kernel
theorem dX10_maker_34 : decode cX10_maker 34 = .ok (.if_icmp .ge 30, 3) := by decide +kernel
theorem dX10_maker_37 : decode cX10_maker 37 = .ok (.aload_n 0, 1) := by decide +kernel
theorem dX10_maker_38 : decode cX10_maker 38 = .ok (.iload_n 3, 1) := by decide +kernel
theorem dX10_maker_39 : decode cX10_maker 39 = .ok (.iconst 2, 1) := by decide +kernel
theorem dX10_maker_40 : decode cX10_maker 40 = .ok (.invokevirtual 63, 3) := by decide +kernel
theorem dX10_maker_43 : decode cX10_maker 43 = .ok (.aload_n 0, 1) := by decide +kernel
theorem dX10_maker_44 : decode cX10_maker 44 = .ok (.iload_n 2, 1) := by decide +kernel
theorem dX10_maker_45 : decode cX10_maker 45 = .ok (.iconst 2, 1) := by decide +kernel
theorem dX10_maker_46 : decode cX10_maker 46 = .ok (.invokevirtual 63, 3) := by decide +kernel
theorem dX10_maker_49 : decode cX10_maker 49 = .ok (.if_icmp .le 7, 3) := by decide +kernel
theorem dX10_maker_52 : decode cX10_maker 52 = .ok (.iload_n 3, 1) := by decide +kernel
theorem dX10_maker_53 : decode cX10_maker 53 = .ok (.goto 4, 3) := by decide +kernel
theorem dX10_maker_56 : decode cX10_maker 56 = .ok (.iload_n 2, 1) := by decide +kernel
theorem dX10_maker_57 : decode cX10_maker 57 = .ok (.istore_n 2, 1) := by decide +kernel
theorem dX10_maker_58 : decode cX10_maker 58 = .ok (.iinc 3 1, 3) := by decide +kernel
theorem dX10_maker_61 : decode cX10_maker 61 = .ok (.goto (-30), 3) := by decide +kernel
theorem dX10_maker_64 : decode cX10_maker 64 = .ok (.aload_n 0, 1) := by decide +kernel
theorem dX10_maker_65 : decode cX10_maker 65 = .ok (.invokevirtual 144, 3) := by decide +kernel
theorem dX10_maker_68 : decode cX10_maker 68 = .ok (.iload_n 2, 1) := by decide +kernel
theorem dX10_maker_69 : decode cX10_maker 69 = .ok (.ireturn, 1) := by decide +kernel
theorem dX10_drop_0 : decode cX10_drop 0 = .ok (.iload_n 1, 1) := by decide +kernel
theorem dX10_drop_1 : decode cX10_drop 1 = .ok (.i2l, 1) := by decide +kernel
theorem dX10_drop_2 : decode cX10_drop 2 = .ok (.iconst 1, 1) := by decide +kernel
theorem dX10_drop_3 : decode cX10_drop 3 = .ok (.bipush 30, 2) := by decide +kernel
theorem dX10_drop_5 : decode cX10_drop 5 = .ok (.invokestatic 41, 3) := by decide +kernel
theorem dX10_drop_8 : decode cX10_drop 8 = .ok (.ifCond .ne 10, 3) := by decide +kernel
theorem dX10_drop_11 : decode cX10_drop 11 = .ok (.aload_n 0, 1) := by decide +kernel
theorem dX10_drop_12 : decode cX10_drop 12 = .ok (.ldc 35, 2) := by decide +kernel
theorem dX10_drop_14 : decode cX10_drop 14 = .ok (.invokevirtual 37, 3) := by decide +kernel
theorem dX10_drop_17 : decode cX10_drop 17 = .ok (.ireturn, 1) := by decide +kernel
theorem dX10_drop_18 : decode cX10_drop 18 = .ok (.aload_n 0, 1) := by decide +kernel
theorem dX10_drop_19 : decode cX10_drop 19 = .ok (.invokevirtual 141, 3) := by decide +kernel
theorem dX10_drop_22 : decode cX10_drop 22 = .ok (.iconst (-1), 1) := by decide +kernel
theorem dX10_drop_23 : decode cX10_drop 23 = .ok (.istore_n 2, 1) := by decide +kernel
theorem dX10_drop_24 : decode cX10_drop 24 = .ok (.iconst (-1), 1) := by decide +kernel
theorem dX10_drop_25 : decode cX10_drop 25 = .ok (.istore_n 3, 1) := by decide +kernel
theorem dX10_drop_26 : decode cX10_drop 26 = .ok (.iconst 0, 1) := by decide +kernel
theorem dX10_drop_27 : decode cX10_drop 27 = .ok (.istore 4, 2) := by decide +kernel
theorem dX10_drop_29 : decode cX10_drop 29 = .ok (.iload 4, 2) := by decide +kernel
theorem dX10_drop_31 : decode cX10_drop 31 = .ok (.aload_n 0, 1) := by decide +kernel
theorem dX10_drop_32 : decode cX10_drop 32 = .ok (.getfield 9, 3) := by decide +kernel
theorem dX10_drop_35 : decode cX10_drop 35 = .ok (.iconst 1, 1) := by decide +kernel
theorem dX10_drop_36 : decode cX10_drop 36 = .ok (.iaload, 1) := by decide +kernel
theorem dX10_drop_37 : decode cX10_drop 37 = .ok (.if_icmp .ge 68, 3) := by decide +kernel
theorem dX10_drop_40 : decode cX10_drop 40 = .ok (.aload_n 0, 1) := by decide +kernel
theorem dX10_drop_41 : decode cX10_drop 41 = .ok (.iload 4, 2) := by decide +kernel
theorem dX10_drop_43 : decode cX10_drop 43 = .ok (.invokevirtual 100, 3) := by decide +kernel
theorem dX10_drop_46 : decode cX10_drop 46 = .ok (.ifCond .eq 53, 3) := by decide +kernel
theorem dX10_drop_49 : decode cX10_drop 49 = .ok (.aload_n 0, 1) := by decide +kernel
theorem dX10_drop_50 : decode cX10_drop 50 = .ok (.iload 4, 2) := by decide +kernel
theorem dX10_drop_52 : decode cX10_drop 52 = .ok (.invokevirtual 103, 3) := by decide +kernel
theorem dX10_drop_55 : decode cX10_drop 55 = .ok (.istore 5, 2) := by decide +kernel
theorem dX10_drop_57 : decode cX10_drop 57 = .ok (.aload_n 0, 1) := by decide +kernel
theorem dX10_drop_58 : decode cX10_drop 58 = .ok (.iload_n 1, 1) := by decide +kernel
theorem dX10_drop_59 : decode cX10_drop 59 = .ok (.invokevirtual 128, 3) := by decide +kernel
theorem dX10_drop_62 : decode cX10_drop 62 = .ok (.aload_n 0, 1) := by decide +kernel
theorem dX10_drop_63 : decode cX10_drop 63 = .ok (.iconst 1, 1) := by decide +kernel
theorem dX10_drop_64 : decode cX10_drop 64 = .ok (.invokevirtual 131, 3) := by decide +kernel
theorem dX10_drop_67 : decode cX10_drop 67 = .ok (.istore 6, 2) := by decide +kernel
theorem dX10_drop_69 : decode cX10_drop 69 = .ok (.aload_n 0, 1) := by decide +kernel
theorem dX10_drop_70 : decode cX10_drop 70 = .ok (.invokevirtual 144, 3) := by decide +kernel
theorem dX10_drop_73 : decode cX10_drop 73 = .ok (.iload 6, 2) := by decide +kernel
theorem dX10_drop_75 : decode cX10_drop 75 = .ok (.iload_n 3, 1) := by decide +kernel
theorem dX10_drop_76 : decode cX10_drop 76 = .ok (.if_icmp .le 8, 3) := by decide +kernel
theorem dX10_drop_79 : decode cX10_drop 79 = .ok (.iload 4, 2) := by decide +kernel
theorem dX10_drop_81 : decode cX10_drop 81 = .ok (.goto 4, 3) := by decide +kernel
theorem dX10_drop_84 : decode cX10_drop 84 = .ok (.iload_n 2, 1) := by decide +kernel
theorem dX10_drop_85 : decode cX10_drop 85 = .ok (.istore_n 2, 1) := by decide +kernel
theorem dX10_drop_86 : decode cX10_drop 86 = .ok (.iload 6, 2) := by decide +kernel
theorem dX10_drop_88 : decode cX10_drop 88 = .ok (.iload_n 3, 1) := by decide +kernel
theorem dX10_drop_89 : decode cX10_drop 89 = .ok (.if_icmp .le 8, 3) := by decide +kernel
theorem dX10_drop_92 : decode cX10_drop 92 = .ok (.iload 6, 2) := by decide +kernel
theorem dX10_drop_94 : decode cX10_drop 94 = .ok (.goto 4, 3) := by decide +kernel
theorem dX10_drop_97 : decode cX10_drop 97 = .ok (.iload_n 3, 1) := by decide +kernel
theorem dX10_drop_98 : decode cX10_drop 98 = .ok (.istore_n 3, 1) := by decide +kernel
theorem dX10_drop_99 : decode cX10_drop 99 = .ok (.iinc 4 1, 3) := by decide +kernel
theorem dX10_drop_102 : decode cX10_drop 102 = .ok (.goto (-73), 3) := by decide +kernel
theorem dX10_drop_105 : decode cX10_drop 105 = .ok (.aload_n 0, 1) := by decide +kernel
theorem dX10_drop_106 : decode cX10_drop 106 = .ok (.iload_n 2, 1) := by decide +kernel
theorem dX10_drop_107 : decode cX10_drop 107 = .ok (.invokevirtual 110, 3) := by decide +kernel
theorem dX10_drop_110 : decode cX10_drop 110 = .ok (.ireturn, 1) := by decide +kernel
theorem dX10_feed_0 : decode cX10_feed 0 = .ok (.iload_n 2, 1) := by decide +kernel
theorem dX10_feed_1 : decode cX10_feed 1 = .ok (.i2l, 1) := by decide +kernel
theorem dX10_feed_2 : decode cX10_feed 2 = .ok (.iconst 1, 1) := by decide +kernel
theorem dX10_feed_3 : decode cX10_feed 3 = .ok (.iconst 4, 1) := by decide +kernel
theorem dX10_feed_4 : decode cX10_feed 4 = .ok (.invokestatic 41, 3) := by decide +kernel
theorem dX10_feed_7 : decode cX10_feed 7 = .ok (.ifCond .ne 10, 3) := by decide +kernel
theorem dX10_feed_10 : decode cX10_feed 10 = .ok (.aload_n 0, 1) := by decide +kernel
theorem dX10_feed_11 : decode cX10_feed 11 = .ok (.ldc 35, 2) := by decide +kernel
theorem dX10_feed_13 : decode cX10_feed 13 = .ok (.invokevirtual 37, 3) := by decide +kernel
theorem dX10_feed_16 : decode cX10_feed 16 = .ok (.ireturn, 1) := by decide +kernel
theorem dX10_feed_17 : decode cX10_feed 17 = .ok (.aload_n 0, 1) := by decide +kernel
theorem dX10_feed_18 : decode cX10_feed 18 = .ok (.getfield 157, 3) := by decide +kernel
theorem dX10_feed_21 : decode cX10_feed 21 = .ok (.iload_n 2, 1) := by decide +kernel
theorem dX10_feed_22 : decode cX10_feed 22 = .ok (.iadd, 1) := by decide +kernel
theorem dX10_feed_23 : decode cX10_feed 23 = .ok (.bipush 120, 2) := by decide +kernel
theorem dX10_feed_25 : decode cX10_feed 25 = .ok (.if_icmp .le 10, 3) := by decide +kernel
theorem dX10_feed_28 : decode cX10_feed 28 = .ok (.aload_n 0, 1) := by decide +kernel
theorem dX10_feed_29 : decode cX10_feed 29 = .ok (.ldc 76, 2) := by decide +kernel
theorem dX10_feed_31 : decode cX10_feed 31 = .ok (.invokevirtual 37, 3) := by decide +kernel
theorem dX10_feed_34 : decode cX10_feed 34 = .ok (.ireturn, 1) := by decide +kernel
theorem dX10_feed_35 : decode cX10_feed 35 = .ok (.iload_n 2, 1) := by decide +kernel
theorem dX10_feed_36 : decode cX10_feed 36 = .ok (.iconst 1, 1) := by decide +kernel
theorem dX10_feed_37 : decode cX10_feed 37 = .ok (.isub, 1) := by decide +kernel
theorem dX10_feed_38 : decode cX10_feed 38 = .ok (.istore_n 3, 1) := by decide +kernel
theorem dX10_feed_39 : decode cX10_feed 39 = .ok (.iload_n 3, 1) := by decide +kernel
theorem dX10_feed_40 : decode cX10_feed 40 = .ok (.ifCond .lt 38, 3) := by decide +kernel
theorem dX10_feed_43 : decode cX10_feed 43 = .ok (.aload_n 0, 1) := by decide +kernel
theorem dX10_feed_44 : decode cX10_feed 44 = .ok (.getfield 22, 3) := by decide +kernel
theorem dX10_feed_47 : decode cX10_feed 47 = .ok (.aload_n 0, 1) := by decide +kernel
theorem dX10_feed_48 : decode cX10_feed 48 = .ok (.getfield 157, 3) := by decide +kernel
theorem dX10_feed_51 : decode cX10_feed 51 = .ok (.iload_n 1, 1) := by decide +kernel
theorem dX10_feed_52 : decode cX10_feed 52 = .ok (.bipush 8, 2) := by decide +kernel
theorem dX10_feed_54 : decode cX10_feed 54 = .ok (.iload_n 3, 1) := by decide +kernel
theorem dX10_feed_55 : decode cX10_feed 55 = .ok (.imul, 1) := by decide +kernel
theorem dX10_feed_56 : decode cX10_feed 56 = .ok (.ishr, 1) := by decide +kernel
theorem dX10_feed_57 : decode cX10_feed 57 = .ok (.sipush 255, 3) := by decide +kernel
theorem dX10_feed_60 : decode cX10_feed 60 = .ok (.iand, 1) := by decide +kernel
theorem dX10_feed_61 : decode cX10_feed 61 = .ok (.iastore, 1) := by decide +kernel
theorem dX10_feed_62 : decode cX10_feed 62 = .ok (.aload_n 0, 1) := by decide +kernel
theorem dX10_feed_63 : decode cX10_feed 63 = .ok (.dup, 1) := by decide +kernel
theorem dX10_feed_64 : decode cX10_feed 64 = .ok (.getfield 157, 3) := by decide +kernel
theorem dX10_feed_67 : decode cX10_feed 67 = .ok (.iconst 1, 1) := by decide +kernel
theorem dX10_feed_68 : decode cX10_feed 68 = .ok (.iadd, 1) := by decide +kernel
theorem dX10_feed_69 : decode cX10_feed 69 = .ok (.putfield 157, 3) := by decide +kernel
theorem dX10_feed_72 : decode cX10_feed 72 = .ok (.iinc 3 (-1), 3) := by decide +kernel
theorem dX10_feed_75 : decode cX10_feed 75 = .ok (.goto (-36), 3) := by decide +kernel
theorem dX10_feed_78 : decode cX10_feed 78 = .ok (.aload_n 0, 1) := by decide +kernel
theorem dX10_feed_79 : decode cX10_feed 79 = .ok (.getfield 157, 3) := by decide +kernel
theorem dX10_feed_82 : decode cX10_feed 82 = .ok (.ireturn, 1) := by decide +kernel
theorem dX10_wipe_0 : decode cX10_wipe 0 = .ok (.aload_n 0, 1) := by decide +kernel
theorem dX10_wipe_1 : decode cX10_wipe 1 = .ok (.getfield 157, 3) := by decide +kernel
theorem dX10_wipe_4 : decode cX10_wipe 4 = .ok (.istore_n 1, 1) := by decide +kernel
theorem dX10_wipe_5 : decode cX10_wipe 5 = .ok (.aload_n 0, 1) := by decide +kernel
theorem dX10_wipe_6 : decode cX10_wipe 6 = .ok (.iconst 0, 1) := by decide +kernel
theorem dX10_wipe_7 : decode cX10_wipe 7 = .ok (.putfield 157, 3) := by decide +kernel
theorem dX10_wipe_10 : decode cX10_wipe 10 = .ok (.iload_n 1, 1) := by decide +kernel
theorem dX10_wipe_11 : decode cX10_wipe 11 = .ok (.ireturn, 1) := by decide +kernel
theorem dX10_isByte_0 : decode cX10_isByte 0 = .ok (.iload_n 1, 1) := by decide +kernel
theorem dX10_isByte_1 : decode cX10_isByte 1 = .ok (.aload_n 0, 1) := by decide +kernel
theorem dX10_isByte_2 : decode cX10_isByte 2 = .ok (.getfield 157, 3) := by decide +kernel
theorem dX10_isByte_5 : decode cX10_isByte 5 = .ok (.if_icmp .ge 22, 3) := by decide +kernel
theorem dX10_isByte_8 : decode cX10_isByte 8 = .ok (.aload_n 0, 1) := by decide +kernel
theorem dX10_isByte_9 : decode cX10_isByte 9 = .ok (.getfield 22, 3) := by decide +kernel
theorem dX10_isByte_12 : decode cX10_isByte 12 = .ok (.iload_n 1, 1) := by decide +kernel
theorem dX10_isByte_13 : decode cX10_isByte 13 = .ok (.iaload, 1) := by decide +kernel
theorem dX10_isByte_14 : decode cX10_isByte 14 = .ok (.i2l, 1) := by decide +kernel
theorem dX10_isByte_15 : decode cX10_isByte 15 = .ok (.iload_n 2, 1) := by decide +kernel
theorem dX10_isByte_16 : decode cX10_isByte 16 = .ok (.iload_n 3, 1) := by decide +kernel
theorem dX10_isByte_17 : decode cX10_isByte 17 = .ok (.invokestatic 41, 3) := by decide +kernel
theorem dX10_isByte_20 : decode cX10_isByte 20 = .ok (.ifCond .eq 7, 3) := by decide +kernel
theorem dX10_isByte_23 : decode cX10_isByte 23 = .ok (.iconst 1, 1) := by decide +kernel
theorem dX10_isByte_24 : decode cX10_isByte 24 = .ok (.goto 4, 3) := by decide +kernel
theorem dX10_isByte_27 : decode cX10_isByte 27 = .ok (.iconst 0, 1) := by decide +kernel
theorem dX10_isByte_28 : decode cX10_isByte 28 = .ok (.ireturn, 1) := by decide +kernel
theorem dX10_isName_0 : decode cX10_isName 0 = .ok (.iload_n 2, 1) := by decide +kernel
theorem dX10_isName_1 : decode cX10_isName 1 = .ok (.bipush 7, 2) := by decide +kernel
theorem dX10_isName_3 : decode cX10_isName 3 = .ok (.if_icmp .gt 26, 3) := by decide +kernel
theorem dX10_isName_6 : decode cX10_isName 6 = .ok (.iload_n 2, 1) := by decide +kernel
theorem dX10_isName_7 : decode cX10_isName 7 = .ok (.bipush 7, 2) := by decide +kernel
theorem dX10_isName_9 : decode cX10_isName 9 = .ok (.if_icmp .eq 16, 3) := by decide +kernel
theorem dX10_isName_12 : decode cX10_isName 12 = .ok (.getstatic 161, 3) := by decide +kernel
theorem dX10_isName_15 : decode cX10_isName 15 = .ok (.bipush 7, 2) := by decide +kernel
theorem dX10_isName_17 : decode cX10_isName 17 = .ok (.iload_n 1, 1) := by decide +kernel
theorem dX10_isName_18 : decode cX10_isName 18 = .ok (.imul, 1) := by decide +kernel
theorem dX10_isName_19 : decode cX10_isName 19 = .ok (.iload_n 2, 1) := by decide +kernel
theorem dX10_isName_20 : decode cX10_isName 20 = .ok (.iadd, 1) := by decide +kernel
theorem dX10_isName_21 : decode cX10_isName 21 = .ok (.iaload, 1) := by decide +kernel
theorem dX10_isName_22 : decode cX10_isName 22 = .ok (.ifCond .ne 7, 3) := by decide +kernel
theorem dX10_isName_25 : decode cX10_isName 25 = .ok (.iconst 1, 1) := by decide +kernel
theorem dX10_isName_26 : decode cX10_isName 26 = .ok (.goto 4, 3) := by decide +kernel
theorem dX10_isName_29 : decode cX10_isName 29 = .ok (.iconst 0, 1) := by decide +kernel
theorem dX10_isName_30 : decode cX10_isName 30 = .ok (.istore_n 3, 1) := by decide +kernel
theorem dX10_isName_31 : decode cX10_isName 31 = .ok (.iconst 0, 1) := by decide +kernel
theorem dX10_isName_32 : decode cX10_isName 32 = .ok (.istore 4, 2) := by decide +kernel
theorem dX10_isName_34 : decode cX10_isName 34 = .ok (.iload 4, 2) := by decide +kernel
theorem dX10_isName_36 : decode cX10_isName 36 = .ok (.iload_n 2, 1) := by decide +kernel
theorem dX10_isName_37 : decode cX10_isName 37 = .ok (.if_icmp .ge 45, 3) := by decide +kernel
theorem dX10_isName_40 : decode cX10_isName 40 = .ok (.iload_n 3, 1) := by decide +kernel
theorem dX10_isName_41 : decode cX10_isName 41 = .ok (.ifCond .eq 41, 3) := by decide +kernel
theorem dX10_isName_44 : decode cX10_isName 44 = .ok (.getstatic 161, 3) := by decide +kernel
theorem dX10_isName_47 : decode cX10_isName 47 = .ok (.bipush 7, 2) := by decide +kernel
theorem dX10_isName_49 : decode cX10_isName 49 = .ok (.iload_n 1, 1) := by decide +kernel
theorem dX10_isName_50 : decode cX10_isName 50 = .ok (.imul, 1) := by decide +kernel
theorem dX10_isName_51 : decode cX10_isName 51 = .ok (.iload 4, 2) := by decide +kernel
theorem dX10_isName_53 : decode cX10_isName 53 = .ok (.iadd, 1) := by decide +kernel
theorem dX10_isName_54 : decode cX10_isName 54 = .ok (.iaload, 1) := by decide +kernel
theorem dX10_isName_55 : decode cX10_isName 55 = .ok (.aload_n 0, 1) := by decide +kernel
theorem dX10_isName_56 : decode cX10_isName 56 = .ok (.getfield 22, 3) := by decide +kernel
theorem dX10_isName_59 : decode cX10_isName 59 = .ok (.aload_n 0, 1) := by decide +kernel
theorem dX10_isName_60 : decode cX10_isName 60 = .ok (.getfield 164, 3) := by decide +kernel
theorem dX10_isName_63 : decode cX10_isName 63 = .ok (.iload 4, 2) := by decide +kernel
theorem dX10_isName_65 : decode cX10_isName 65 = .ok (.iadd, 1) := by decide +kernel
theorem dX10_isName_66 : decode cX10_isName 66 = .ok (.iaload, 1) := by decide +kernel
theorem dX10_isName_67 : decode cX10_isName 67 = .ok (.if_icmp .ne 7, 3) := by decide +kernel
theorem dX10_isName_70 : decode cX10_isName 70 = .ok (.iconst 1, 1) := by decide +kernel
theorem dX10_isName_71 : decode cX10_isName 71 = .ok (.goto 4, 3) := by decide +kernel
theorem dX10_isName_74 : decode cX10_isName 74 = .ok (.iconst 0, 1) := by decide +kernel
theorem dX10_isName_75 : decode cX10_isName 75 = .ok (.istore_n 3, 1) := by decide +kernel
theorem dX10_isName_76 : decode cX10_isName 76 = .ok (.iinc 4 1, 3) := by decide +kernel
theorem dX10_isName_79 : decode cX10_isName 79 = .ok (.goto (-45), 3) := by decide +kernel
theorem dX10_isName_82 : decode cX10_isName 82 = .ok (.iload_n 3, 1) := by decide +kernel
theorem dX10_isName_83 : decode cX10_isName 83 = .ok (.ireturn, 1) := by decide +kernel
theorem dX10_wordHere_0 : decode cX10_wordHere 0 = .ok (.iconst 0, 1) := by decide +kernel
theorem dX10_wordHere_1 : decode cX10_wordHere 1 = .ok (.istore_n 1, 1) := by decide +kernel
theorem dX10_wordHere_2 : decode cX10_wordHere 2 = .ok (.iload_n 1, 1) := by decide +kernel
theorem dX10_wordHere_3 : decode cX10_wordHere 3 = .ok (.bipush 10, 2) := by decide +kernel
theorem dX10_wordHere_5 : decode cX10_wordHere 5 = .ok (.if_icmp .ge 26, 3) := by decide +kernel
theorem dX10_wordHere_8 : decode cX10_wordHere 8 = .ok (.aload_n 0, 1) := by decide +kernel
theorem dX10_wordHere_9 : decode cX10_wordHere 9 = .ok (.iload_n 1, 1) := by decide +kernel
theorem dX10_wordHere_10 : decode cX10_wordHere 10 = .ok (.aload_n 0, 1) := by decide +kernel
theorem dX10_wordHere_11 : decode cX10_wordHere 11 = .ok (.getfield 167, 3) := by decide +kernel
theorem dX10_wordHere_14 : decode cX10_wordHere 14 = .ok (.aload_n 0, 1) := by decide +kernel
theorem dX10_wordHere_15 : decode cX10_wordHere 15 = .ok (.getfield 164, 3) := by decide +kernel
theorem dX10_wordHere_18 : decode cX10_wordHere 18 = .ok (.isub, 1) := by decide +kernel
theorem dX10_wordHere_19 : decode cX10_wordHere 19 = .ok (.invokevirtual 170, 3) := by decide +kernel
theorem dX10_wordHere_22 : decode cX10_wordHere 22 = .ok (.ifCond .ne 9, 3) := by decide +kernel
theorem dX10_wordHere_25 : decode cX10_wordHere 25 = .ok (.iinc 1 1, 3) := by decide +kernel
theorem dX10_wordHere_28 : decode cX10_wordHere 28 = .ok (.goto (-26), 3) := by decide +kernel
theorem dX10_wordHere_31 : decode cX10_wordHere 31 = .ok (.iload_n 1, 1) := by decide +kernel
theorem dX10_wordHere_32 : decode cX10_wordHere 32 = .ok (.bipush 10, 2) := by decide +kernel
theorem dX10_wordHere_34 : decode cX10_wordHere 34 = .ok (.if_icmp .ge 7, 3) := by decide +kernel
theorem dX10_wordHere_37 : decode cX10_wordHere 37 = .ok (.iload_n 1, 1) := by decide +kernel
theorem dX10_wordHere_38 : decode cX10_wordHere 38 = .ok (.goto 5, 3) := by decide +kernel
theorem dX10_wordHere_41 : decode cX10_wordHere 41 = .ok (.bipush 23, 2) := by decide +kernel
theorem dX10_wordHere_43 : decode cX10_wordHere 43 = .ok (.ireturn, 1) := by decide +kernel
theorem dX10_reads_0 : decode cX10_reads 0 = .ok (.aload_n 0, 1) := by decide +kernel
theorem dX10_reads_1 : decode cX10_reads 1 = .ok (.aload_n 0, 1) := by decide +kernel
theorem dX10_reads_2 : decode cX10_reads 2 = .ok (.getfield 167, 3) := by decide +kernel
theorem dX10_reads_5 : decode cX10_reads 5 = .ok (.bipush 32, 2) := by decide +kernel
theorem dX10_reads_7 : decode cX10_reads 7 = .ok (.bipush 32, 2) := by decide +kernel
theorem dX10_reads_9 : decode cX10_reads 9 = .ok (.invokevirtual 173, 3) := by decide +kernel
theorem dX10_reads_12 : decode cX10_reads 12 = .ok (.ifCond .eq 16, 3) := by decide +kernel
theorem dX10_reads_15 : decode cX10_reads 15 = .ok (.aload_n 0, 1) := by decide +kernel
theorem dX10_reads_16 : decode cX10_reads 16 = .ok (.dup, 1) := by decide +kernel
theorem dX10_reads_17 : decode cX10_reads 17 = .ok (.getfield 167, 3) := by decide +kernel
theorem dX10_reads_20 : decode cX10_reads 20 = .ok (.iconst 1, 1) := by decide +kernel
theorem dX10_reads_21 : decode cX10_reads 21 = .ok (.iadd, 1) := by decide +kernel
theorem dX10_reads_22 : decode cX10_reads 22 = .ok (.putfield 167, 3) := by decide +kernel
theorem dX10_reads_25 : decode cX10_reads 25 = .ok (.goto (-25), 3) := by decide +kernel
theorem dX10_reads_28 : decode cX10_reads 28 = .ok (.aload_n 0, 1) := by decide +kernel
theorem dX10_reads_29 : decode cX10_reads 29 = .ok (.aload_n 0, 1) := by decide +kernel
theorem dX10_reads_30 : decode cX10_reads 30 = .ok (.getfield 167, 3) := by decide +kernel
theorem dX10_reads_33 : decode cX10_reads 33 = .ok (.putfield 164, 3) := by decide +kernel
theorem dX10_reads_36 : decode cX10_reads 36 = .ok (.aload_n 0, 1) := by decide +kernel
theorem dX10_reads_37 : decode cX10_reads 37 = .ok (.iconst 0, 1) := by decide +kernel
theorem dX10_reads_38 : decode cX10_reads 38 = .ok (.putfield 177, 3) := by decide +kernel
theorem dX10_reads_41 : decode cX10_reads 41 = .ok (.aload_n 0, 1) := by decide +kernel
theorem dX10_reads_42 : decode cX10_reads 42 = .ok (.getfield 167, 3) := by decide +kernel
theorem dX10_reads_45 : decode cX10_reads 45 = .ok (.aload_n 0, 1) := by decide +kernel
theorem dX10_reads_46 : decode cX10_reads 46 = .ok (.getfield 157, 3) := by decide +kernel
theorem dX10_reads_49 : decode cX10_reads 49 = .ok (.if_icmp .ne 12, 3) := by decide +kernel
theorem dX10_reads_52 : decode cX10_reads 52 = .ok (.aload_n 0, 1) := by decide +kernel
theorem dX10_reads_53 : decode cX10_reads 53 = .ok (.bipush 22, 2) := by decide +kernel
theorem dX10_reads_55 : decode cX10_reads 55 = .ok (.putfield 180, 3) := by decide +kernel
theorem dX10_reads_58 : decode cX10_reads 58 = .ok (.goto 186, 3) := by decide +kernel
theorem dX10_reads_61 : decode cX10_reads 61 = .ok (.aload_n 0, 1) := by decide +kernel
theorem dX10_reads_62 : decode cX10_reads 62 = .ok (.aload_n 0, 1) := by decide +kernel
theorem dX10_reads_63 : decode cX10_reads 63 = .ok (.getfield 167, 3) := by decide +kernel
theorem dX10_reads_66 : decode cX10_reads 66 = .ok (.bipush 97, 2) := by decide +kernel
theorem dX10_reads_68 : decode cX10_reads 68 = .ok (.bipush 122, 2) := by decide +kernel
theorem dX10_reads_70 : decode cX10_reads 70 = .ok (.invokevirtual 173, 3) := by decide +kernel
theorem dX10_reads_73 : decode cX10_reads 73 = .ok (.ifCond .eq 42, 3) := by decide +kernel
theorem dX10_reads_76 : decode cX10_reads 76 = .ok (.aload_n 0, 1) := by decide +kernel
theorem dX10_reads_77 : decode cX10_reads 77 = .ok (.aload_n 0, 1) := by decide +kernel
theorem dX10_reads_78 : decode cX10_reads 78 = .ok (.getfield 167, 3) := by decide +kernel
theorem dX10_reads_81 : decode cX10_reads 81 = .ok (.bipush 97, 2) := by decide +kernel
theorem dX10_reads_83 : decode cX10_reads 83 = .ok (.bipush 122, 2) := by decide +kernel
theorem dX10_reads_85 : decode cX10_reads 85 = .ok (.invokevirtual 173, 3) := by decide +kernel
theorem dX10_reads_88 : decode cX10_reads 88 = .ok (.ifCond .eq 16, 3) := by decide +kernel
theorem dX10_reads_91 : decode cX10_reads 91 = .ok (.aload_n 0, 1) := by decide +kernel
theorem dX10_reads_92 : decode cX10_reads 92 = .ok (.dup, 1) := by decide +kernel
theorem dX10_reads_93 : decode cX10_reads 93 = .ok (.getfield 167, 3) := by decide +kernel
theorem dX10_reads_96 : decode cX10_reads 96 = .ok (.iconst 1, 1) := by decide +kernel
theorem dX10_reads_97 : decode cX10_reads 97 = .ok (.iadd, 1) := by decide +kernel
theorem dX10_reads_98 : decode cX10_reads 98 = .ok (.putfield 167, 3) := by decide +kernel
theorem dX10_reads_101 : decode cX10_reads 101 = .ok (.goto (-25), 3) := by decide +kernel
theorem dX10_reads_104 : decode cX10_reads 104 = .ok (.aload_n 0, 1) := by decide +kernel
theorem dX10_reads_105 : decode cX10_reads 105 = .ok (.aload_n 0, 1) := by decide +kernel
theorem dX10_reads_106 : decode cX10_reads 106 = .ok (.invokevirtual 183, 3) := by decide +kernel
theorem dX10_reads_109 : decode cX10_reads 109 = .ok (.putfield 180, 3) := by decide +kernel
theorem dX10_reads_112 : decode cX10_reads 112 = .ok (.goto 132, 3) := by decide +kernel
theorem dX10_reads_115 : decode cX10_reads 115 = .ok (.aload_n 0, 1) := by decide +kernel
theorem dX10_reads_116 : decode cX10_reads 116 = .ok (.aload_n 0, 1) := by decide +kernel
theorem dX10_reads_117 : decode cX10_reads 117 = .ok (.getfield 167, 3) := by decide +kernel
theorem dX10_reads_120 : decode cX10_reads 120 = .ok (.bipush 48, 2) := by decide +kernel
theorem dX10_reads_122 : decode cX10_reads 122 = .ok (.bipush 57, 2) := by decide +kernel
theorem dX10_reads_124 : decode cX10_reads 124 = .ok (.invokevirtual 173, 3) := by decide +kernel
theorem dX10_reads_127 : decode cX10_reads 127 = .ok (.ifCond .eq 81, 3) := by decide +kernel
theorem dX10_reads_130 : decode cX10_reads 130 = .ok (.aload_n 0, 1) := by decide +kernel
theorem dX10_reads_131 : decode cX10_reads 131 = .ok (.aload_n 0, 1) := by decide +kernel
theorem dX10_reads_132 : decode cX10_reads 132 = .ok (.getfield 167, 3) := by decide +kernel
theorem dX10_reads_135 : decode cX10_reads 135 = .ok (.bipush 48, 2) := by decide +kernel
theorem dX10_reads_137 : decode cX10_reads 137 = .ok (.bipush 57, 2) := by decide +kernel
theorem dX10_reads_139 : decode cX10_reads 139 = .ok (.invokevirtual 173, 3) := by decide +kernel
theorem dX10_reads_142 : decode cX10_reads 142 = .ok (.ifCond .eq 57, 3) := by decide +kernel
theorem dX10_reads_145 : decode cX10_reads 145 = .ok (.aload_n 0, 1) := by decide +kernel
theorem dX10_reads_146 : decode cX10_reads 146 = .ok (.aload_n 0, 1) := by decide +kernel
theorem dX10_reads_147 : decode cX10_reads 147 = .ok (.getfield 177, 3) := by decide +kernel
theorem dX10_reads_150 : decode cX10_reads 150 = .ok (.sipush 999, 3) := by decide +kernel
theorem dX10_reads_153 : decode cX10_reads 153 = .ok (.if_icmp .le 10, 3) := by decide +kernel
theorem dX10_reads_156 : decode cX10_reads 156 = .ok (.aload_n 0, 1) := by decide +kernel
theorem dX10_reads_157 : decode cX10_reads 157 = .ok (.getfield 177, 3) := by decide +kernel
theorem dX10_reads_160 : decode cX10_reads 160 = .ok (.goto 23, 3) := by decide +kernel
theorem dX10_reads_163 : decode cX10_reads 163 = .ok (.bipush 10, 2) := by decide +kernel
theorem dX10_reads_165 : decode cX10_reads 165 = .ok (.aload_n 0, 1) := by decide +kernel
theorem dX10_reads_166 : decode cX10_reads 166 = .ok (.getfield 177, 3) := by decide +kernel
theorem dX10_reads_169 : decode cX10_reads 169 = .ok (.imul, 1) := by decide +kernel
theorem dX10_reads_170 : decode cX10_reads 170 = .ok (.aload_n 0, 1) := by decide +kernel
theorem dX10_reads_171 : decode cX10_reads 171 = .ok (.getfield 22, 3) := by decide +kernel
theorem dX10_reads_174 : decode cX10_reads 174 = .ok (.aload_n 0, 1) := by decide +kernel
theorem dX10_reads_175 : decode cX10_reads 175 = .ok (.getfield 167, 3) := by decide +kernel
theorem dX10_reads_178 : decode cX10_reads 178 = .ok (.iaload, 1) := by decide +kernel
theorem dX10_reads_179 : decode cX10_reads 179 = .ok (.iadd, 1) := by decide +kernel
theorem dX10_reads_180 : decode cX10_reads 180 = .ok (.bipush 48, 2) := by decide +kernel
theorem dX10_reads_182 : decode cX10_reads 182 = .ok (.isub, 1) := by decide +kernel
theorem dX10_reads_183 : decode cX10_reads 183 = .ok (.putfield 177, 3) := by decide +kernel
theorem dX10_reads_186 : decode cX10_reads 186 = .ok (.aload_n 0, 1) := by decide +kernel
theorem dX10_reads_187 : decode cX10_reads 187 = .ok (.dup, 1) := by decide +kernel
theorem dX10_reads_188 : decode cX10_reads 188 = .ok (.getfield 167, 3) := by decide +kernel
theorem dX10_reads_191 : decode cX10_reads 191 = .ok (.iconst 1, 1) := by decide +kernel
theorem dX10_reads_192 : decode cX10_reads 192 = .ok (.iadd, 1) := by decide +kernel
theorem dX10_reads_193 : decode cX10_reads 193 = .ok (.putfield 167, 3) := by decide +kernel
theorem dX10_reads_196 : decode cX10_reads 196 = .ok (.goto (-66), 3) := by decide +kernel
theorem dX10_reads_199 : decode cX10_reads 199 = .ok (.aload_n 0, 1) := by decide +kernel
theorem dX10_reads_200 : decode cX10_reads 200 = .ok (.bipush 20, 2) := by decide +kernel
theorem dX10_reads_202 : decode cX10_reads 202 = .ok (.putfield 180, 3) := by decide +kernel
theorem dX10_reads_205 : decode cX10_reads 205 = .ok (.goto 39, 3) := by decide +kernel
theorem dX10_reads_208 : decode cX10_reads 208 = .ok (.aload_n 0, 1) := by decide +kernel
theorem dX10_reads_209 : decode cX10_reads 209 = .ok (.aload_n 0, 1) := by decide +kernel
theorem dX10_reads_210 : decode cX10_reads 210 = .ok (.aload_n 0, 1) := by decide +kernel
theorem dX10_reads_211 : decode cX10_reads 211 = .ok (.getfield 167, 3) := by decide +kernel
theorem dX10_reads_214 : decode cX10_reads 214 = .ok (.bipush 59, 2) := by decide +kernel
theorem dX10_reads_216 : decode cX10_reads 216 = .ok (.bipush 59, 2) := by decide +kernel
theorem dX10_reads_218 : decode cX10_reads 218 = .ok (.invokevirtual 173, 3) := by decide +kernel
theorem dX10_reads_221 : decode cX10_reads 221 = .ok (.ifCond .eq 8, 3) := by decide +kernel
theorem dX10_reads_224 : decode cX10_reads 224 = .ok (.bipush 21, 2) := by decide +kernel
theorem dX10_reads_226 : decode cX10_reads 226 = .ok (.goto 5, 3) := by decide +kernel
theorem dX10_reads_229 : decode cX10_reads 229 = .ok (.bipush 23, 2) := by decide +kernel
theorem dX10_reads_231 : decode cX10_reads 231 = .ok (.putfield 180, 3) := by decide +kernel
theorem dX10_reads_234 : decode cX10_reads 234 = .ok (.aload_n 0, 1) := by decide +kernel
theorem dX10_reads_235 : decode cX10_reads 235 = .ok (.dup, 1) := by decide +kernel
theorem dX10_reads_236 : decode cX10_reads 236 = .ok (.getfield 167, 3) := by decide +kernel
theorem dX10_reads_239 : decode cX10_reads 239 = .ok (.iconst 1, 1) := by decide +kernel
theorem dX10_reads_240 : decode cX10_reads 240 = .ok (.iadd, 1) := by decide +kernel
theorem dX10_reads_241 : decode cX10_reads 241 = .ok (.putfield 167, 3) := by decide +kernel
theorem dX10_reads_244 : decode cX10_reads 244 = .ok (.return_, 1) := by decide +kernel
theorem dX10_passes_0 : decode cX10_passes 0 = .ok (.aload_n 0, 1) := by decide +kernel
theorem dX10_passes_1 : decode cX10_passes 1 = .ok (.getfield 186, 3) := by decide +kernel
theorem dX10_passes_4 : decode cX10_passes 4 = .ok (.ifCond .ne 11, 3) := by decide +kernel
theorem dX10_passes_7 : decode cX10_passes 7 = .ok (.aload_n 0, 1) := by decide +kernel
theorem dX10_passes_8 : decode cX10_passes 8 = .ok (.getfield 180, 3) := by decide +kernel
theorem dX10_passes_11 : decode cX10_passes 11 = .ok (.iload_n 1, 1) := by decide +kernel
theorem dX10_passes_12 : decode cX10_passes 12 = .ok (.if_icmp .eq 5, 3) := by decide +kernel
theorem dX10_passes_15 : decode cX10_passes 15 = .ok (.iconst 0, 1) := by decide +kernel
theorem dX10_passes_16 : decode cX10_passes 16 = .ok (.ireturn, 1) := by decide +kernel
theorem dX10_passes_17 : decode cX10_passes 17 = .ok (.aload_n 0, 1) := by decide +kernel
theorem dX10_passes_18 : decode cX10_passes 18 = .ok (.invokevirtual 190, 3) := by decide +kernel
theorem dX10_passes_21 : decode cX10_passes 21 = .ok (.iconst 1, 1) := by decide +kernel
theorem dX10_passes_22 : decode cX10_passes 22 = .ok (.ireturn, 1) := by decide +kernel
theorem dX10_number_0 : decode cX10_number 0 = .ok (.aload_n 0, 1) := by decide +kernel
theorem dX10_number_1 : decode cX10_number 1 = .ok (.getfield 177, 3) := by decide +kernel
theorem dX10_number_4 : decode cX10_number 4 = .ok (.istore_n 3, 1) := by decide +kernel
theorem dX10_number_5 : decode cX10_number 5 = .ok (.aload_n 0, 1) := by decide +kernel
theorem dX10_number_6 : decode cX10_number 6 = .ok (.aload_n 0, 1) := by decide +kernel
theorem dX10_number_7 : decode cX10_number 7 = .ok (.getfield 186, 3) := by decide +kernel
theorem dX10_number_10 : decode cX10_number 10 = .ok (.ifCond .ne 22, 3) := by decide +kernel
theorem dX10_number_13 : decode cX10_number 13 = .ok (.aload_n 0, 1) := by decide +kernel
theorem dX10_number_14 : decode cX10_number 14 = .ok (.getfield 180, 3) := by decide +kernel
theorem dX10_number_17 : decode cX10_number 17 = .ok (.bipush 20, 2) := by decide +kernel
theorem dX10_number_19 : decode cX10_number 19 = .ok (.if_icmp .ne 13, 3) := by decide +kernel
theorem dX10_number_22 : decode cX10_number 22 = .ok (.iload_n 3, 1) := by decide +kernel
theorem dX10_number_23 : decode cX10_number 23 = .ok (.i2l, 1) := by decide +kernel
theorem dX10_number_24 : decode cX10_number 24 = .ok (.iload_n 1, 1) := by decide +kernel
theorem dX10_number_25 : decode cX10_number 25 = .ok (.iload_n 2, 1) := by decide +kernel
theorem dX10_number_26 : decode cX10_number 26 = .ok (.invokestatic 41, 3) := by decide +kernel
theorem dX10_number_29 : decode cX10_number 29 = .ok (.ifCond .ne 7, 3) := by decide +kernel
theorem dX10_number_32 : decode cX10_number 32 = .ok (.iconst 1, 1) := by decide +kernel
theorem dX10_number_33 : decode cX10_number 33 = .ok (.goto 4, 3) := by decide +kernel
theorem dX10_number_36 : decode cX10_number 36 = .ok (.iconst 0, 1) := by decide +kernel
theorem dX10_number_37 : decode cX10_number 37 = .ok (.putfield 186, 3) := by decide +kernel
theorem dX10_number_40 : decode cX10_number 40 = .ok (.aload_n 0, 1) := by decide +kernel
theorem dX10_number_41 : decode cX10_number 41 = .ok (.getfield 186, 3) := by decide +kernel
theorem dX10_number_44 : decode cX10_number 44 = .ok (.ifCond .ne 7, 3) := by decide +kernel
theorem dX10_number_47 : decode cX10_number 47 = .ok (.aload_n 0, 1) := by decide +kernel
theorem dX10_number_48 : decode cX10_number 48 = .ok (.invokevirtual 190, 3) := by decide +kernel
theorem dX10_number_51 : decode cX10_number 51 = .ok (.iload_n 3, 1) := by decide +kernel
theorem dX10_number_52 : decode cX10_number 52 = .ok (.ireturn, 1) := by decide +kernel
theorem dX10_perhaps_0 : decode cX10_perhaps 0 = .ok (.aload_n 0, 1) := by decide +kernel
theorem dX10_perhaps_1 : decode cX10_perhaps 1 = .ok (.iload_n 1, 1) := by decide +kernel
theorem dX10_perhaps_2 : decode cX10_perhaps 2 = .ok (.invokevirtual 193, 3) := by decide +kernel
theorem dX10_perhaps_5 : decode cX10_perhaps 5 = .ok (.ifCond .eq 12, 3) := by decide +kernel
theorem dX10_perhaps_8 : decode cX10_perhaps 8 = .ok (.aload_n 0, 1) := by decide +kernel
theorem dX10_perhaps_9 : decode cX10_perhaps 9 = .ok (.iload_n 2, 1) := by decide +kernel
theorem dX10_perhaps_10 : decode cX10_perhaps 10 = .ok (.iload_n 3, 1) := by decide +kernel
theorem dX10_perhaps_11 : decode cX10_perhaps 11 = .ok (.invokevirtual 196, 3) := by decide +kernel
theorem dX10_perhaps_14 : decode cX10_perhaps 14 = .ok (.goto 5, 3) := by decide +kernel
theorem dX10_perhaps_17 : decode cX10_perhaps 17 = .ok (.iload 4, 2) := by decide +kernel
theorem dX10_perhaps_19 : decode cX10_perhaps 19 = .ok (.ireturn, 1) := by decide +kernel
theorem dX10_thingItem_0 : decode cX10_thingItem 0 = .ok (.aload_n 0, 1) := by decide +kernel
theorem dX10_thingItem_1 : decode cX10_thingItem 1 = .ok (.getfield 180, 3) := by decide +kernel
theorem dX10_thingItem_4 : decode cX10_thingItem 4 = .ok (.istore_n 1, 1) := by decide +kernel
theorem dX10_thingItem_5 : decode cX10_thingItem 5 = .ok (.aload_n 0, 1) := by decide +kernel
theorem dX10_thingItem_6 : decode cX10_thingItem 6 = .ok (.aload_n 0, 1) := by decide +kernel
theorem dX10_thingItem_7 : decode cX10_thingItem 7 = .ok (.getfield 9, 3) := by decide +kernel
theorem dX10_thingItem_10 : decode cX10_thingItem 10 = .ok (.iconst 1, 1) := by decide +kernel
theorem dX10_thingItem_11 : decode cX10_thingItem 11 = .ok (.iaload, 1) := by decide +kernel
theorem dX10_thingItem_12 : decode cX10_thingItem 12 = .ok (.bipush 8, 2) := by decide +kernel
theorem dX10_thingItem_14 : decode cX10_thingItem 14 = .ok (.if_icmp .ne 7, 3) := by decide +kernel
theorem dX10_thingItem_17 : decode cX10_thingItem 17 = .ok (.iconst 1, 1) := by decide +kernel
theorem dX10_thingItem_18 : decode cX10_thingItem 18 = .ok (.goto 4, 3) := by decide +kernel
theorem dX10_thingItem_21 : decode cX10_thingItem 21 = .ok (.iconst 0, 1) := by decide +kernel
theorem dX10_thingItem_22 : decode cX10_thingItem 22 = .ok (.putfield 186, 3) := by decide +kernel
theorem dX10_thingItem_25 : decode cX10_thingItem 25 = .ok (.aload_n 0, 1) := by decide +kernel
theorem dX10_thingItem_26 : decode cX10_thingItem 26 = .ok (.getfield 186, 3) := by decide +kernel
theorem dX10_thingItem_29 : decode cX10_thingItem 29 = .ok (.ifCond .eq 4, 3) := by decide +kernel
theorem dX10_thingItem_32 : decode cX10_thingItem 32 = .ok (.return_, 1) := by decide +kernel
theorem dX10_thingItem_33 : decode cX10_thingItem 33 = .ok (.aload_n 0, 1) := by decide +kernel
theorem dX10_thingItem_34 : decode cX10_thingItem 34 = .ok (.invokevirtual 190, 3) := by decide +kernel
theorem dX10_thingItem_37 : decode cX10_thingItem 37 = .ok (.aload_n 0, 1) := by decide +kernel
theorem dX10_thingItem_38 : decode cX10_thingItem 38 = .ok (.iconst 0, 1) := by decide +kernel
theorem dX10_thingItem_39 : decode cX10_thingItem 39 = .ok (.bipush 99, 2) := by decide +kernel
theorem dX10_thingItem_41 : decode cX10_thingItem 41 = .ok (.invokevirtual 196, 3) := by decide +kernel
theorem dX10_thingItem_44 : decode cX10_thingItem 44 = .ok (.istore_n 2, 1) := by decide +kernel
theorem dX10_thingItem_45 : decode cX10_thingItem 45 = .ok (.aload_n 0, 1) := by decide +kernel
theorem dX10_thingItem_46 : decode cX10_thingItem 46 = .ok (.bipush 6, 2) := by decide +kernel
theorem dX10_thingItem_48 : decode cX10_thingItem 48 = .ok (.iconst 0, 1) := by decide +kernel
theorem dX10_thingItem_49 : decode cX10_thingItem 49 = .ok (.iconst 5, 1) := by decide +kernel
theorem dX10_thingItem_50 : decode cX10_thingItem 50 = .ok (.iconst (-1), 1) := by decide +kernel
theorem dX10_thingItem_51 : decode cX10_thingItem 51 = .ok (.invokevirtual 199, 3) := by decide +kernel
theorem dX10_thingItem_54 : decode cX10_thingItem 54 = .ok (.istore_n 3, 1) := by decide +kernel
theorem dX10_thingItem_55 : decode cX10_thingItem 55 = .ok (.aload_n 0, 1) := by decide +kernel
theorem dX10_thingItem_56 : decode cX10_thingItem 56 = .ok (.bipush 7, 2) := by decide +kernel
theorem dX10_thingItem_58 : decode cX10_thingItem 58 = .ok (.iconst 0, 1) := by decide +kernel
theorem dX10_thingItem_59 : decode cX10_thingItem 59 = .ok (.sipush 999, 3) := by decide +kernel
theorem dX10_thingItem_62 : decode cX10_thingItem 62 = .ok (.iconst 0, 1) := by decide +kernel
theorem dX10_thingItem_63 : decode cX10_thingItem 63 = .ok (.invokevirtual 199, 3) := by decide +kernel
theorem dX10_thingItem_66 : decode cX10_thingItem 66 = .ok (.istore 4, 2) := by decide +kernel
theorem dX10_thingItem_68 : decode cX10_thingItem 68 = .ok (.aload_n 0, 1) := by decide +kernel
theorem dX10_thingItem_69 : decode cX10_thingItem 69 = .ok (.getfield 186, 3) := by decide +kernel
theorem dX10_thingItem_72 : decode cX10_thingItem 72 = .ok (.ifCond .ne 14, 3) := by decide +kernel
theorem dX10_thingItem_75 : decode cX10_thingItem 75 = .ok (.aload_n 0, 1) := by decide +kernel
theorem dX10_thingItem_76 : decode cX10_thingItem 76 = .ok (.iload_n 1, 1) := by decide +kernel
theorem dX10_thingItem_77 : decode cX10_thingItem 77 = .ok (.iload_n 2, 1) := by decide +kernel
theorem dX10_thingItem_78 : decode cX10_thingItem 78 = .ok (.iload_n 3, 1) := by decide +kernel
theorem dX10_thingItem_79 : decode cX10_thingItem 79 = .ok (.iload 4, 2) := by decide +kernel
theorem dX10_thingItem_81 : decode cX10_thingItem 81 = .ok (.invokevirtual 77, 3) := by decide +kernel
theorem dX10_thingItem_84 : decode cX10_thingItem 84 = .ok (.istore 5, 2) := by decide +kernel
theorem dX10_thingItem_86 : decode cX10_thingItem 86 = .ok (.return_, 1) := by decide +kernel
theorem dX10_personItem_0 : decode cX10_personItem 0 = .ok (.aload_n 0, 1) := by decide +kernel
theorem dX10_personItem_1 : decode cX10_personItem 1 = .ok (.getfield 180, 3) := by decide +kernel
theorem dX10_personItem_4 : decode cX10_personItem 4 = .ok (.bipush 8, 2) := by decide +kernel
theorem dX10_personItem_6 : decode cX10_personItem 6 = .ok (.if_icmp .ne 7, 3) := by decide +kernel
theorem dX10_personItem_9 : decode cX10_personItem 9 = .ok (.iconst 0, 1) := by decide +kernel
theorem dX10_personItem_10 : decode cX10_personItem 10 = .ok (.goto 4, 3) := by decide +kernel
theorem dX10_personItem_13 : decode cX10_personItem 13 = .ok (.iconst 1, 1) := by decide +kernel
theorem dX10_personItem_14 : decode cX10_personItem 14 = .ok (.istore_n 1, 1) := by decide +kernel
theorem dX10_personItem_15 : decode cX10_personItem 15 = .ok (.aload_n 0, 1) := by decide +kernel
theorem dX10_personItem_16 : decode cX10_personItem 16 = .ok (.invokevirtual 190, 3) := by decide +kernel
theorem dX10_personItem_19 : decode cX10_personItem 19 = .ok (.aload_n 0, 1) := by decide +kernel
theorem dX10_personItem_20 : decode cX10_personItem 20 = .ok (.iconst 0, 1) := by decide +kernel
theorem dX10_personItem_21 : decode cX10_personItem 21 = .ok (.iconst 5, 1) := by decide +kernel
theorem dX10_personItem_22 : decode cX10_personItem 22 = .ok (.invokevirtual 196, 3) := by decide +kernel
theorem dX10_personItem_25 : decode cX10_personItem 25 = .ok (.istore_n 2, 1) := by decide +kernel
theorem dX10_personItem_26 : decode cX10_personItem 26 = .ok (.aload_n 0, 1) := by decide +kernel
theorem dX10_personItem_27 : decode cX10_personItem 27 = .ok (.iconst 0, 1) := by decide +kernel
theorem dX10_personItem_28 : decode cX10_personItem 28 = .ok (.iload_n 1, 1) := by decide +kernel
theorem dX10_personItem_29 : decode cX10_personItem 29 = .ok (.ifCond .ne 8, 3) := by decide +kernel
theorem dX10_personItem_32 : decode cX10_personItem 32 = .ok (.bipush 20, 2) := by decide +kernel
theorem dX10_personItem_34 : decode cX10_personItem 34 = .ok (.goto 5, 3) := by decide +kernel
theorem dX10_personItem_37 : decode cX10_personItem 37 = .ok (.bipush 9, 2) := by decide +kernel
theorem dX10_personItem_39 : decode cX10_personItem 39 = .ok (.invokevirtual 196, 3) := by decide +kernel
theorem dX10_personItem_42 : decode cX10_personItem 42 = .ok (.istore_n 3, 1) := by decide +kernel
theorem dX10_personItem_43 : decode cX10_personItem 43 = .ok (.aload_n 0, 1) := by decide +kernel
theorem dX10_personItem_44 : decode cX10_personItem 44 = .ok (.getfield 186, 3) := by decide +kernel
theorem dX10_personItem_47 : decode cX10_personItem 47 = .ok (.ifCond .ne 10, 3) := by decide +kernel
theorem dX10_personItem_50 : decode cX10_personItem 50 = .ok (.aload_n 0, 1) := by decide +kernel
theorem dX10_personItem_51 : decode cX10_personItem 51 = .ok (.iload_n 2, 1) := by decide +kernel
theorem dX10_personItem_52 : decode cX10_personItem 52 = .ok (.iload_n 1, 1) := by decide +kernel
theorem dX10_personItem_53 : decode cX10_personItem 53 = .ok (.iload_n 3, 1) := by decide +kernel
theorem dX10_personItem_54 : decode cX10_personItem 54 = .ok (.invokevirtual 97, 3) := by decide +kernel
theorem dX10_personItem_57 : decode cX10_personItem 57 = .ok (.return_, 1) := by decide +kernel
theorem dX10_item_0 : decode cX10_item 0 = .ok (.aload_n 0, 1) := by decide +kernel
theorem dX10_item_1 : decode cX10_item 1 = .ok (.getfield 180, 3) := by decide +kernel
theorem dX10_item_4 : decode cX10_item 4 = .ok (.iconst 5, 1) := by decide +kernel
theorem dX10_item_5 : decode cX10_item 5 = .ok (.if_icmp .gt 10, 3) := by decide +kernel
theorem dX10_item_8 : decode cX10_item 8 = .ok (.aload_n 0, 1) := by decide +kernel
theorem dX10_item_9 : decode cX10_item 9 = .ok (.invokevirtual 202, 3) := by decide +kernel
theorem dX10_item_12 : decode cX10_item 12 = .ok (.goto 33, 3) := by decide +kernel
theorem dX10_item_15 : decode cX10_item 15 = .ok (.aload_n 0, 1) := by decide +kernel
theorem dX10_item_16 : decode cX10_item 16 = .ok (.getfield 180, 3) := by decide +kernel
theorem dX10_item_19 : decode cX10_item 19 = .ok (.bipush 8, 2) := by decide +kernel
theorem dX10_item_21 : decode cX10_item 21 = .ok (.if_icmp .eq 12, 3) := by decide +kernel
theorem dX10_item_24 : decode cX10_item 24 = .ok (.aload_n 0, 1) := by decide +kernel
theorem dX10_item_25 : decode cX10_item 25 = .ok (.getfield 180, 3) := by decide +kernel
theorem dX10_item_28 : decode cX10_item 28 = .ok (.bipush 9, 2) := by decide +kernel
theorem dX10_item_30 : decode cX10_item 30 = .ok (.if_icmp .ne 10, 3) := by decide +kernel
theorem dX10_item_33 : decode cX10_item 33 = .ok (.aload_n 0, 1) := by decide +kernel
theorem dX10_item_34 : decode cX10_item 34 = .ok (.invokevirtual 205, 3) := by decide +kernel
theorem dX10_item_37 : decode cX10_item 37 = .ok (.goto 8, 3) := by decide +kernel
theorem dX10_item_40 : decode cX10_item 40 = .ok (.aload_n 0, 1) := by decide +kernel
theorem dX10_item_41 : decode cX10_item 41 = .ok (.iconst 1, 1) := by decide +kernel
theorem dX10_item_42 : decode cX10_item 42 = .ok (.putfield 186, 3) := by decide +kernel
theorem dX10_item_45 : decode cX10_item 45 = .ok (.return_, 1) := by decide +kernel
theorem dX10_common_0 : decode cX10_common 0 = .ok (.aload_n 0, 1) := by decide +kernel
theorem dX10_common_1 : decode cX10_common 1 = .ok (.invokevirtual 141, 3) := by decide +kernel
theorem dX10_common_4 : decode cX10_common 4 = .ok (.aload_n 0, 1) := by decide +kernel
theorem dX10_common_5 : decode cX10_common 5 = .ok (.iconst 0, 1) := by decide +kernel
theorem dX10_common_6 : decode cX10_common 6 = .ok (.putfield 167, 3) := by decide +kernel
theorem dX10_common_9 : decode cX10_common 9 = .ok (.aload_n 0, 1) := by decide +kernel
theorem dX10_common_10 : decode cX10_common 10 = .ok (.iconst 0, 1) := by decide +kernel
theorem dX10_common_11 : decode cX10_common 11 = .ok (.putfield 186, 3) := by decide +kernel
theorem dX10_common_14 : decode cX10_common 14 = .ok (.aload_n 0, 1) := by decide +kernel
theorem dX10_common_15 : decode cX10_common 15 = .ok (.invokevirtual 190, 3) := by decide +kernel
theorem dX10_common_18 : decode cX10_common 18 = .ok (.aload_n 0, 1) := by decide +kernel
theorem dX10_common_19 : decode cX10_common 19 = .ok (.invokevirtual 208, 3) := by decide +kernel
theorem dX10_common_22 : decode cX10_common 22 = .ok (.iconst 1, 1) := by decide +kernel
theorem dX10_common_23 : decode cX10_common 23 = .ok (.istore_n 1, 1) := by decide +kernel
theorem dX10_common_24 : decode cX10_common 24 = .ok (.aload_n 0, 1) := by decide +kernel
theorem dX10_common_25 : decode cX10_common 25 = .ok (.bipush 21, 2) := by decide +kernel
theorem dX10_common_27 : decode cX10_common 27 = .ok (.invokevirtual 193, 3) := by decide +kernel
theorem dX10_common_30 : decode cX10_common 30 = .ok (.ifCond .eq 13, 3) := by decide +kernel
theorem dX10_common_33 : decode cX10_common 33 = .ok (.aload_n 0, 1) := by decide +kernel
theorem dX10_common_34 : decode cX10_common 34 = .ok (.invokevirtual 208, 3) := by decide +kernel
theorem dX10_common_37 : decode cX10_common 37 = .ok (.iinc 1 1, 3) := by decide +kernel
theorem dX10_common_40 : decode cX10_common 40 = .ok (.goto (-16), 3) := by decide +kernel
theorem dX10_common_43 : decode cX10_common 43 = .ok (.aload_n 0, 1) := by decide +kernel
theorem dX10_common_44 : decode cX10_common 44 = .ok (.aload_n 0, 1) := by decide +kernel
theorem dX10_common_45 : decode cX10_common 45 = .ok (.getfield 186, 3) := by decide +kernel
theorem dX10_common_48 : decode cX10_common 48 = .ok (.ifCond .ne 12, 3) := by decide +kernel
theorem dX10_common_51 : decode cX10_common 51 = .ok (.aload_n 0, 1) := by decide +kernel
theorem dX10_common_52 : decode cX10_common 52 = .ok (.getfield 180, 3) := by decide +kernel
theorem dX10_common_55 : decode cX10_common 55 = .ok (.bipush 22, 2) := by decide +kernel
theorem dX10_common_57 : decode cX10_common 57 = .ok (.if_icmp .eq 7, 3) := by decide +kernel
theorem dX10_common_60 : decode cX10_common 60 = .ok (.iconst 1, 1) := by decide +kernel
theorem dX10_common_61 : decode cX10_common 61 = .ok (.goto 4, 3) := by decide +kernel
theorem dX10_common_64 : decode cX10_common 64 = .ok (.iconst 0, 1) := by decide +kernel
theorem dX10_common_65 : decode cX10_common 65 = .ok (.putfield 186, 3) := by decide +kernel
theorem dX10_common_68 : decode cX10_common 68 = .ok (.aload_n 0, 1) := by decide +kernel
theorem dX10_common_69 : decode cX10_common 69 = .ok (.iconst 0, 1) := by decide +kernel
theorem dX10_common_70 : decode cX10_common 70 = .ok (.putfield 157, 3) := by decide +kernel
theorem dX10_common_73 : decode cX10_common 73 = .ok (.aload_n 0, 1) := by decide +kernel
theorem dX10_common_74 : decode cX10_common 74 = .ok (.getfield 186, 3) := by decide +kernel
theorem dX10_common_77 : decode cX10_common 77 = .ok (.ifCond .ne 5, 3) := by decide +kernel
theorem dX10_common_80 : decode cX10_common 80 = .ok (.iload_n 1, 1) := by decide +kernel
theorem dX10_common_81 : decode cX10_common 81 = .ok (.ireturn, 1) := by decide +kernel
theorem dX10_common_82 : decode cX10_common 82 = .ok (.aload_n 0, 1) := by decide +kernel
theorem dX10_common_83 : decode cX10_common 83 = .ok (.invokevirtual 144, 3) := by decide +kernel
theorem dX10_common_86 : decode cX10_common 86 = .ok (.iconst (-1), 1) := by decide +kernel
theorem dX10_common_87 : decode cX10_common 87 = .ok (.aload_n 0, 1) := by decide +kernel
theorem dX10_common_88 : decode cX10_common 88 = .ok (.getfield 164, 3) := by decide +kernel
theorem dX10_common_91 : decode cX10_common 91 = .ok (.isub, 1) := by decide +kernel
theorem dX10_common_92 : decode cX10_common 92 = .ok (.ireturn, 1) := by decide +kernel
theorem dX10_isSheet_0 : decode cX10_isSheet 0 = .ok (.iload_n 0, 1) := by decide +kernel
theorem dX10_isSheet_1 : decode cX10_isSheet 1 = .ok (.i2l, 1) := by decide +kernel
theorem dX10_isSheet_2 : decode cX10_isSheet 2 = .ok (.iconst 0, 1) := by decide +kernel
theorem dX10_isSheet_3 : decode cX10_isSheet 3 = .ok (.iconst 3, 1) := by decide +kernel
theorem dX10_isSheet_4 : decode cX10_isSheet 4 = .ok (.invokestatic 41, 3) := by decide +kernel
theorem dX10_isSheet_7 : decode cX10_isSheet 7 = .ok (.ireturn, 1) := by decide +kernel
theorem dX10_sheet_0 : decode cX10_sheet 0 = .ok (.iload_n 1, 1) := by decide +kernel
theorem dX10_sheet_1 : decode cX10_sheet 1 = .ok (.invokestatic 211, 3) := by decide +kernel
theorem dX10_sheet_4 : decode cX10_sheet 4 = .ok (.ifCond .eq 25, 3) := by decide +kernel
theorem dX10_sheet_7 : decode cX10_sheet 7 = .ok (.iload_n 2, 1) := by decide +kernel
theorem dX10_sheet_8 : decode cX10_sheet 8 = .ok (.ifCond .eq 28, 3) := by decide +kernel
theorem dX10_sheet_11 : decode cX10_sheet 11 = .ok (.iload_n 2, 1) := by decide +kernel
theorem dX10_sheet_12 : decode cX10_sheet 12 = .ok (.bipush 8, 2) := by decide +kernel
theorem dX10_sheet_14 : decode cX10_sheet 14 = .ok (.if_icmp .eq 22, 3) := by decide +kernel
theorem dX10_sheet_17 : decode cX10_sheet 17 = .ok (.iload_n 2, 1) := by decide +kernel
theorem dX10_sheet_18 : decode cX10_sheet 18 = .ok (.bipush 16, 2) := by decide +kernel
theorem dX10_sheet_20 : decode cX10_sheet 20 = .ok (.if_icmp .eq 16, 3) := by decide +kernel
theorem dX10_sheet_23 : decode cX10_sheet 23 = .ok (.iload_n 2, 1) := by decide +kernel
theorem dX10_sheet_24 : decode cX10_sheet 24 = .ok (.bipush 64, 2) := by decide +kernel
theorem dX10_sheet_26 : decode cX10_sheet 26 = .ok (.if_icmp .eq 10, 3) := by decide +kernel
theorem dX10_sheet_29 : decode cX10_sheet 29 = .ok (.aload_n 0, 1) := by decide +kernel
theorem dX10_sheet_30 : decode cX10_sheet 30 = .ok (.ldc 35, 2) := by decide +kernel
theorem dX10_sheet_32 : decode cX10_sheet 32 = .ok (.invokevirtual 37, 3) := by decide +kernel
theorem dX10_sheet_35 : decode cX10_sheet 35 = .ok (.ireturn, 1) := by decide +kernel
theorem dX10_sheet_36 : decode cX10_sheet 36 = .ok (.iload_n 3, 1) := by decide +kernel
theorem dX10_sheet_37 : decode cX10_sheet 37 = .ok (.ifCond .ge 10, 3) := by decide +kernel
theorem dX10_sheet_40 : decode cX10_sheet 40 = .ok (.aload_n 0, 1) := by decide +kernel
theorem dX10_sheet_41 : decode cX10_sheet 41 = .ok (.ldc 214, 2) := by decide +kernel
theorem dX10_sheet_43 : decode cX10_sheet 43 = .ok (.invokevirtual 37, 3) := by decide +kernel
theorem dX10_sheet_46 : decode cX10_sheet 46 = .ok (.ireturn, 1) := by decide +kernel
theorem dX10_sheet_47 : decode cX10_sheet 47 = .ok (.iload_n 3, 1) := by decide +kernel
theorem dX10_sheet_48 : decode cX10_sheet 48 = .ok (.bipush 40, 2) := by decide +kernel
theorem dX10_sheet_50 : decode cX10_sheet 50 = .ok (.if_icmp .le 10, 3) := by decide +kernel
theorem dX10_sheet_53 : decode cX10_sheet 53 = .ok (.aload_n 0, 1) := by decide +kernel
theorem dX10_sheet_54 : decode cX10_sheet 54 = .ok (.ldc 35, 2) := by decide +kernel
theorem dX10_sheet_56 : decode cX10_sheet 56 = .ok (.invokevirtual 37, 3) := by decide +kernel
theorem dX10_sheet_59 : decode cX10_sheet 59 = .ok (.ireturn, 1) := by decide +kernel
theorem dX10_sheet_60 : decode cX10_sheet 60 = .ok (.aload_n 0, 1) := by decide +kernel
theorem dX10_sheet_61 : decode cX10_sheet 61 = .ok (.getfield 25, 3) := by decide +kernel
theorem dX10_sheet_64 : decode cX10_sheet 64 = .ok (.iload_n 1, 1) := by decide +kernel
theorem dX10_sheet_65 : decode cX10_sheet 65 = .ok (.iload_n 2, 1) := by decide +kernel
theorem dX10_sheet_66 : decode cX10_sheet 66 = .ok (.iastore, 1) := by decide +kernel
theorem dX10_sheet_67 : decode cX10_sheet 67 = .ok (.aload_n 0, 1) := by decide +kernel
theorem dX10_sheet_68 : decode cX10_sheet 68 = .ok (.getfield 28, 3) := by decide +kernel
theorem dX10_sheet_71 : decode cX10_sheet 71 = .ok (.iload_n 1, 1) := by decide +kernel
theorem dX10_sheet_72 : decode cX10_sheet 72 = .ok (.iload_n 2, 1) := by decide +kernel
theorem dX10_sheet_73 : decode cX10_sheet 73 = .ok (.ifCond .ne 7, 3) := by decide +kernel
theorem dX10_sheet_76 : decode cX10_sheet 76 = .ok (.iconst 0, 1) := by decide +kernel
theorem dX10_sheet_77 : decode cX10_sheet 77 = .ok (.goto 4, 3) := by decide +kernel
theorem dX10_sheet_80 : decode cX10_sheet 80 = .ok (.iload_n 3, 1) := by decide +kernel
theorem dX10_sheet_81 : decode cX10_sheet 81 = .ok (.iastore, 1) := by decide +kernel
theorem dX10_sheet_82 : decode cX10_sheet 82 = .ok (.iconst 0, 1) := by decide +kernel
theorem dX10_sheet_83 : decode cX10_sheet 83 = .ok (.istore 4, 2) := by decide +kernel
theorem dX10_sheet_85 : decode cX10_sheet 85 = .ok (.iload 4, 2) := by decide +kernel
theorem dX10_sheet_87 : decode cX10_sheet 87 = .ok (.bipush 40, 2) := by decide +kernel
theorem dX10_sheet_89 : decode cX10_sheet 89 = .ok (.if_icmp .ge 22, 3) := by decide +kernel
theorem dX10_sheet_92 : decode cX10_sheet 92 = .ok (.aload_n 0, 1) := by decide +kernel
theorem dX10_sheet_93 : decode cX10_sheet 93 = .ok (.getfield 31, 3) := by decide +kernel
theorem dX10_sheet_96 : decode cX10_sheet 96 = .ok (.bipush 40, 2) := by decide +kernel
theorem dX10_sheet_98 : decode cX10_sheet 98 = .ok (.iload_n 1, 1) := by decide +kernel
theorem dX10_sheet_99 : decode cX10_sheet 99 = .ok (.imul, 1) := by decide +kernel
theorem dX10_sheet_100 : decode cX10_sheet 100 = .ok (.iload 4, 2) := by decide +kernel
theorem dX10_sheet_102 : decode cX10_sheet 102 = .ok (.iadd, 1) := by decide +kernel
theorem dX10_sheet_103 : decode cX10_sheet 103 = .ok (.lconst 0, 1) := by decide +kernel
theorem dX10_sheet_104 : decode cX10_sheet 104 = .ok (.lastore, 1) := by decide +kernel
theorem dX10_sheet_105 : decode cX10_sheet 105 = .ok (.iinc 4 1, 3) := by decide +kernel
theorem dX10_sheet_108 : decode cX10_sheet 108 = .ok (.goto (-23), 3) := by decide +kernel
theorem dX10_sheet_111 : decode cX10_sheet 111 = .ok (.aload_n 0, 1) := by decide +kernel
theorem dX10_sheet_112 : decode cX10_sheet 112 = .ok (.getfield 28, 3) := by decide +kernel
theorem dX10_sheet_115 : decode cX10_sheet 115 = .ok (.iload_n 1, 1) := by decide +kernel
theorem dX10_sheet_116 : decode cX10_sheet 116 = .ok (.iaload, 1) := by decide +kernel
theorem dX10_sheet_117 : decode cX10_sheet 117 = .ok (.ireturn, 1) := by decide +kernel
theorem dX10_notThere_0 : decode cX10_notThere 0 = .ok (.iload_n 1, 1) := by decide +kernel
theorem dX10_notThere_1 : decode cX10_notThere 1 = .ok (.invokestatic 211, 3) := by decide +kernel
theorem dX10_notThere_4 : decode cX10_notThere 4 = .ok (.ifCond .ne 8, 3) := by decide +kernel
theorem dX10_notThere_7 : decode cX10_notThere 7 = .ok (.ldc 35, 2) := by decide +kernel
theorem dX10_notThere_9 : decode cX10_notThere 9 = .ok (.goto 18, 3) := by decide +kernel
theorem dX10_notThere_12 : decode cX10_notThere 12 = .ok (.aload_n 0, 1) := by decide +kernel
theorem dX10_notThere_13 : decode cX10_notThere 13 = .ok (.getfield 25, 3) := by decide +kernel
theorem dX10_notThere_16 : decode cX10_notThere 16 = .ok (.iload_n 1, 1) := by decide +kernel
theorem dX10_notThere_17 : decode cX10_notThere 17 = .ok (.iaload, 1) := by decide +kernel
theorem dX10_notThere_18 : decode cX10_notThere 18 = .ok (.ifCond .ne 8, 3) := by decide +kernel
theorem dX10_notThere_21 : decode cX10_notThere 21 = .ok (.ldc 215, 2) := by decide +kernel
theorem dX10_notThere_23 : decode cX10_notThere 23 = .ok (.goto 4, 3) := by decide +kernel
theorem dX10_notThere_26 : decode cX10_notThere 26 = .ok (.iconst 0, 1) := by decide +kernel
theorem dX10_notThere_27 : decode cX10_notThere 27 = .ok (.ireturn, 1) := by decide +kernel
theorem dX10_cutTo_0 : decode cX10_cutTo 0 = .ok (.iload_n 0, 1) := by decide +kernel
theorem dX10_cutTo_1 : decode cX10_cutTo 1 = .ok (.bipush 8, 2) := by decide +kernel
theorem dX10_cutTo_3 : decode cX10_cutTo 3 = .ok (.if_icmp .ne 10, 3) := by decide +kernel
theorem dX10_cutTo_6 : decode cX10_cutTo 6 = .ok (.lload_n 1, 1) := by decide +kernel
theorem dX10_cutTo_7 : decode cX10_cutTo 7 = .ok (.l2i, 1) := by decide +kernel
theorem dX10_cutTo_8 : decode cX10_cutTo 8 = .ok (.i2b, 1) := by decide +kernel
theorem dX10_cutTo_9 : decode cX10_cutTo 9 = .ok (.i2l, 1) := by decide +kernel
theorem dX10_cutTo_10 : decode cX10_cutTo 10 = .ok (.goto 17, 3) := by decide +kernel
theorem dX10_cutTo_13 : decode cX10_cutTo 13 = .ok (.iload_n 0, 1) := by decide +kernel
theorem dX10_cutTo_14 : decode cX10_cutTo 14 = .ok (.bipush 16, 2) := by decide +kernel
theorem dX10_cutTo_16 : decode cX10_cutTo 16 = .ok (.if_icmp .ne 10, 3) := by decide +kernel
theorem dX10_cutTo_19 : decode cX10_cutTo 19 = .ok (.lload_n 1, 1) := by decide +kernel
theorem dX10_cutTo_20 : decode cX10_cutTo 20 = .ok (.l2i, 1) := by decide +kernel
theorem dX10_cutTo_21 : decode cX10_cutTo 21 = .ok (.i2s, 1) := by decide +kernel
theorem dX10_cutTo_22 : decode cX10_cutTo 22 = .ok (.i2l, 1) := by decide +kernel
theorem dX10_cutTo_23 : decode cX10_cutTo 23 = .ok (.goto 4, 3) := by decide +kernel
theorem dX10_cutTo_26 : decode cX10_cutTo 26 = .ok (.lload_n 1, 1) := by decide +kernel
theorem dX10_cutTo_27 : decode cX10_cutTo 27 = .ok (.lreturn, 1) := by decide +kernel
theorem dX10_write_0 : decode cX10_write 0 = .ok (.aload_n 0, 1) := by decide +kernel
theorem dX10_write_1 : decode cX10_write 1 = .ok (.iload_n 1, 1) := by decide +kernel
theorem dX10_write_2 : decode cX10_write 2 = .ok (.invokevirtual 216, 3) := by decide +kernel
theorem dX10_write_5 : decode cX10_write 5 = .ok (.istore 5, 2) := by decide +kernel
theorem dX10_write_7 : decode cX10_write 7 = .ok (.iload 5, 2) := by decide +kernel
theorem dX10_write_9 : decode cX10_write 9 = .ok (.ifCond .ne 24, 3) := by decide +kernel
theorem dX10_write_12 : decode cX10_write 12 = .ok (.iload_n 2, 1) := by decide +kernel
theorem dX10_write_13 : decode cX10_write 13 = .ok (.i2l, 1) := by decide +kernel
theorem dX10_write_14 : decode cX10_write 14 = .ok (.iconst 0, 1) := by decide +kernel
theorem dX10_write_15 : decode cX10_write 15 = .ok (.aload_n 0, 1) := by decide +kernel
theorem dX10_write_16 : decode cX10_write 16 = .ok (.getfield 28, 3) := by decide +kernel
theorem dX10_write_19 : decode cX10_write 19 = .ok (.iload_n 1, 1) := by decide +kernel
theorem dX10_write_20 : decode cX10_write 20 = .ok (.iaload, 1) := by decide +kernel
theorem dX10_write_21 : decode cX10_write 21 = .ok (.iconst 1, 1) := by decide +kernel
theorem dX10_write_22 : decode cX10_write 22 = .ok (.isub, 1) := by decide +kernel
theorem dX10_write_23 : decode cX10_write 23 = .ok (.invokestatic 41, 3) := by decide +kernel
theorem dX10_write_26 : decode cX10_write 26 = .ok (.ifCond .ne 7, 3) := by decide +kernel
theorem dX10_write_29 : decode cX10_write 29 = .ok (.ldc 35, 2) := by decide +kernel
theorem dX10_write_31 : decode cX10_write 31 = .ok (.istore 5, 2) := by decide +kernel
theorem dX10_write_33 : decode cX10_write 33 = .ok (.iload 5, 2) := by decide +kernel
theorem dX10_write_35 : decode cX10_write 35 = .ok (.ifCond .eq 11, 3) := by decide +kernel
theorem dX10_write_38 : decode cX10_write 38 = .ok (.aload_n 0, 1) := by decide +kernel
theorem dX10_write_39 : decode cX10_write 39 = .ok (.iload 5, 2) := by decide +kernel
theorem dX10_write_41 : decode cX10_write 41 = .ok (.invokevirtual 37, 3) := by decide +kernel
theorem dX10_write_44 : decode cX10_write 44 = .ok (.i2l, 1) := by decide +kernel
theorem dX10_write_45 : decode cX10_write 45 = .ok (.lreturn, 1) := by decide +kernel
theorem dX10_write_46 : decode cX10_write 46 = .ok (.aload_n 0, 1) := by decide +kernel
theorem dX10_write_47 : decode cX10_write 47 = .ok (.getfield 31, 3) := by decide +kernel
theorem dX10_write_50 : decode cX10_write 50 = .ok (.bipush 40, 2) := by decide +kernel
theorem dX10_write_52 : decode cX10_write 52 = .ok (.iload_n 1, 1) := by decide +kernel
theorem dX10_write_53 : decode cX10_write 53 = .ok (.imul, 1) := by decide +kernel
theorem dX10_write_54 : decode cX10_write 54 = .ok (.iload_n 2, 1) := by decide +kernel
theorem dX10_write_55 : decode cX10_write 55 = .ok (.iadd, 1) := by decide +kernel
theorem dX10_write_56 : decode cX10_write 56 = .ok (.laload, 1) := by decide +kernel
theorem dX10_write_57 : decode cX10_write 57 = .ok (.lstore 6, 2) := by decide +kernel
theorem dX10_write_59 : decode cX10_write 59 = .ok (.aload_n 0, 1) := by decide +kernel
theorem dX10_write_60 : decode cX10_write 60 = .ok (.getfield 31, 3) := by decide +kernel
theorem dX10_write_63 : decode cX10_write 63 = .ok (.bipush 40, 2) := by decide +kernel
theorem dX10_write_65 : decode cX10_write 65 = .ok (.iload_n 1, 1) := by decide +kernel
theorem dX10_write_66 : decode cX10_write 66 = .ok (.imul, 1) := by decide +kernel
theorem dX10_write_67 : decode cX10_write 67 = .ok (.iload_n 2, 1) := by decide +kernel
theorem dX10_write_68 : decode cX10_write 68 = .ok (.iadd, 1) := by decide +kernel
theorem dX10_write_69 : decode cX10_write 69 = .ok (.aload_n 0, 1) := by decide +kernel
theorem dX10_write_70 : decode cX10_write 70 = .ok (.getfield 25, 3) := by decide +kernel
theorem dX10_write_73 : decode cX10_write 73 = .ok (.iload_n 1, 1) := by decide +kernel
theorem dX10_write_74 : decode cX10_write 74 = .ok (.iaload, 1) := by decide +kernel
theorem dX10_write_75 : decode cX10_write 75 = .ok (.lload_n 3, 1) := by decide +kernel
theorem dX10_write_76 : decode cX10_write 76 = .ok (.invokestatic 219, 3) := by decide +kernel
theorem dX10_write_79 : decode cX10_write 79 = .ok (.lastore, 1) := by decide +kernel
theorem dX10_write_80 : decode cX10_write 80 = .ok (.lload 6, 2) := by decide +kernel
theorem dX10_write_82 : decode cX10_write 82 = .ok (.lreturn, 1) := by decide +kernel
end
section
theorem dX10_notCopied_0 : decode cX10_notCopied 0 = .ok (.iload_n 1, 1) := by decide +kernel
theorem dX10_notCopied_1 : decode cX10_notCopied 1 = .ok (.invokestatic 211, 3) := by decide +kernel
theorem dX10_notCopied_4 : decode cX10_notCopied 4 = .ok (.ifCond .eq 10, 3) := by decide +kernel
theorem dX10_notCopied_7 : decode cX10_notCopied 7 = .ok (.iload_n 3, 1) := by decide +kernel
theorem dX10_notCopied_8 : decode cX10_notCopied 8 = .ok (.invokestatic 211, 3) := by decide +kernel
theorem dX10_notCopied_11 : decode cX10_notCopied 11 = .ok (.ifCond .ne 6, 3) := by decide +kernel
theorem dX10_notCopied_14 : decode cX10_notCopied 14 = .ok (.ldc 35, 2) := by decide +kernel
theorem dX10_notCopied_16 : decode cX10_notCopied 16 = .ok (.ireturn, 1) := by decide +kernel
theorem dX10_notCopied_17 : decode cX10_notCopied 17 = .ok (.aload_n 0, 1) := by decide +kernel
theorem dX10_notCopied_18 : decode cX10_notCopied 18 = .ok (.getfield 25, 3) := by decide +kernel
theorem dX10_notCopied_21 : decode cX10_notCopied 21 = .ok (.iload_n 1, 1) := by decide +kernel
theorem dX10_notCopied_22 : decode cX10_notCopied 22 = .ok (.iaload, 1) := by decide +kernel
theorem dX10_notCopied_23 : decode cX10_notCopied 23 = .ok (.ifCond .eq 12, 3) := by decide +kernel
theorem dX10_notCopied_26 : decode cX10_notCopied 26 = .ok (.aload_n 0, 1) := by decide +kernel
theorem dX10_notCopied_27 : decode cX10_notCopied 27 = .ok (.getfield 25, 3) := by decide +kernel
theorem dX10_notCopied_30 : decode cX10_notCopied 30 = .ok (.iload_n 3, 1) := by decide +kernel
theorem dX10_notCopied_31 : decode cX10_notCopied 31 = .ok (.iaload, 1) := by decide +kernel
theorem dX10_notCopied_32 : decode cX10_notCopied 32 = .ok (.ifCond .ne 6, 3) := by decide +kernel
theorem dX10_notCopied_35 : decode cX10_notCopied 35 = .ok (.ldc 215, 2) := by decide +kernel
theorem dX10_notCopied_37 : decode cX10_notCopied 37 = .ok (.ireturn, 1) := by decide +kernel
theorem dX10_notCopied_38 : decode cX10_notCopied 38 = .ok (.aload_n 0, 1) := by decide +kernel
theorem dX10_notCopied_39 : decode cX10_notCopied 39 = .ok (.getfield 25, 3) := by decide +kernel
theorem dX10_notCopied_42 : decode cX10_notCopied 42 = .ok (.iload_n 1, 1) := by decide +kernel
theorem dX10_notCopied_43 : decode cX10_notCopied 43 = .ok (.iaload, 1) := by decide +kernel
theorem dX10_notCopied_44 : decode cX10_notCopied 44 = .ok (.aload_n 0, 1) := by decide +kernel
theorem dX10_notCopied_45 : decode cX10_notCopied 45 = .ok (.getfield 25, 3) := by decide +kernel
theorem dX10_notCopied_48 : decode cX10_notCopied 48 = .ok (.iload_n 3, 1) := by decide +kernel
theorem dX10_notCopied_49 : decode cX10_notCopied 49 = .ok (.iaload, 1) := by decide +kernel
theorem dX10_notCopied_50 : decode cX10_notCopied 50 = .ok (.if_icmp .eq 6, 3) := by decide +kernel
theorem dX10_notCopied_53 : decode cX10_notCopied 53 = .ok (.ldc 96, 2) := by decide +kernel
theorem dX10_notCopied_55 : decode cX10_notCopied 55 = .ok (.ireturn, 1) := by decide +kernel
theorem dX10_notCopied_56 : decode cX10_notCopied 56 = .ok (.iload 5, 2) := by decide +kernel
theorem dX10_notCopied_58 : decode cX10_notCopied 58 = .ok (.ifCond .lt 43, 3) := by decide +kernel
theorem dX10_notCopied_61 : decode cX10_notCopied 61 = .ok (.iload_n 2, 1) := by decide +kernel
theorem dX10_notCopied_62 : decode cX10_notCopied 62 = .ok (.ifCond .lt 39, 3) := by decide +kernel
theorem dX10_notCopied_65 : decode cX10_notCopied 65 = .ok (.iload 4, 2) := by decide +kernel
theorem dX10_notCopied_67 : decode cX10_notCopied 67 = .ok (.ifCond .lt 34, 3) := by decide +kernel
theorem dX10_notCopied_70 : decode cX10_notCopied 70 = .ok (.iload 5, 2) := by decide +kernel
theorem dX10_notCopied_72 : decode cX10_notCopied 72 = .ok (.aload_n 0, 1) := by decide +kernel
theorem dX10_notCopied_73 : decode cX10_notCopied 73 = .ok (.getfield 28, 3) := by decide +kernel
theorem dX10_notCopied_76 : decode cX10_notCopied 76 = .ok (.iload_n 1, 1) := by decide +kernel
theorem dX10_notCopied_77 : decode cX10_notCopied 77 = .ok (.iaload, 1) := by decide +kernel
theorem dX10_notCopied_78 : decode cX10_notCopied 78 = .ok (.iload_n 2, 1) := by decide +kernel
theorem dX10_notCopied_79 : decode cX10_notCopied 79 = .ok (.isub, 1) := by decide +kernel
theorem dX10_notCopied_80 : decode cX10_notCopied 80 = .ok (.if_icmp .gt 21, 3) := by decide +kernel
theorem dX10_notCopied_83 : decode cX10_notCopied 83 = .ok (.iload 5, 2) := by decide +kernel
theorem dX10_notCopied_85 : decode cX10_notCopied 85 = .ok (.aload_n 0, 1) := by decide +kernel
theorem dX10_notCopied_86 : decode cX10_notCopied 86 = .ok (.getfield 28, 3) := by decide +kernel
theorem dX10_notCopied_89 : decode cX10_notCopied 89 = .ok (.iload_n 3, 1) := by decide +kernel
theorem dX10_notCopied_90 : decode cX10_notCopied 90 = .ok (.iaload, 1) := by decide +kernel
theorem dX10_notCopied_91 : decode cX10_notCopied 91 = .ok (.iload 4, 2) := by decide +kernel
theorem dX10_notCopied_93 : decode cX10_notCopied 93 = .ok (.isub, 1) := by decide +kernel
theorem dX10_notCopied_94 : decode cX10_notCopied 94 = .ok (.if_icmp .gt 7, 3) := by decide +kernel
theorem dX10_notCopied_97 : decode cX10_notCopied 97 = .ok (.iconst 1, 1) := by decide +kernel
theorem dX10_notCopied_98 : decode cX10_notCopied 98 = .ok (.goto 4, 3) := by decide +kernel
theorem dX10_notCopied_101 : decode cX10_notCopied 101 = .ok (.iconst 0, 1) := by decide +kernel
theorem dX10_notCopied_102 : decode cX10_notCopied 102 = .ok (.istore 6, 2) := by decide +kernel
theorem dX10_notCopied_104 : decode cX10_notCopied 104 = .ok (.iload 6, 2) := by decide +kernel
theorem dX10_notCopied_106 : decode cX10_notCopied 106 = .ok (.ifCond .eq 7, 3) := by decide +kernel
theorem dX10_notCopied_109 : decode cX10_notCopied 109 = .ok (.iconst 0, 1) := by decide +kernel
theorem dX10_notCopied_110 : decode cX10_notCopied 110 = .ok (.goto 5, 3) := by decide +kernel
theorem dX10_notCopied_113 : decode cX10_notCopied 113 = .ok (.ldc 35, 2) := by decide +kernel
theorem dX10_notCopied_115 : decode cX10_notCopied 115 = .ok (.ireturn, 1) := by decide +kernel
theorem dX10_copy_0 : decode cX10_copy 0 = .ok (.aload_n 0, 1) := by decide +kernel
theorem dX10_copy_1 : decode cX10_copy 1 = .ok (.iload_n 1, 1) := by decide +kernel
theorem dX10_copy_2 : decode cX10_copy 2 = .ok (.iload_n 2, 1) := by decide +kernel
theorem dX10_copy_3 : decode cX10_copy 3 = .ok (.iload_n 3, 1) := by decide +kernel
theorem dX10_copy_4 : decode cX10_copy 4 = .ok (.iload 4, 2) := by decide +kernel
theorem dX10_copy_6 : decode cX10_copy 6 = .ok (.iload 5, 2) := by decide +kernel
theorem dX10_copy_8 : decode cX10_copy 8 = .ok (.invokevirtual 223, 3) := by decide +kernel
theorem dX10_copy_11 : decode cX10_copy 11 = .ok (.istore 6, 2) := by decide +kernel
theorem dX10_copy_13 : decode cX10_copy 13 = .ok (.iload 6, 2) := by decide +kernel
theorem dX10_copy_15 : decode cX10_copy 15 = .ok (.ifCond .eq 10, 3) := by decide +kernel
theorem dX10_copy_18 : decode cX10_copy 18 = .ok (.aload_n 0, 1) := by decide +kernel
theorem dX10_copy_19 : decode cX10_copy 19 = .ok (.iload 6, 2) := by decide +kernel
theorem dX10_copy_21 : decode cX10_copy 21 = .ok (.invokevirtual 37, 3) := by decide +kernel
theorem dX10_copy_24 : decode cX10_copy 24 = .ok (.ireturn, 1) := by decide +kernel
theorem dX10_copy_25 : decode cX10_copy 25 = .ok (.iconst 0, 1) := by decide +kernel
theorem dX10_copy_26 : decode cX10_copy 26 = .ok (.istore 7, 2) := by decide +kernel
theorem dX10_copy_28 : decode cX10_copy 28 = .ok (.iload 7, 2) := by decide +kernel
theorem dX10_copy_30 : decode cX10_copy 30 = .ok (.iload 5, 2) := by decide +kernel
theorem dX10_copy_32 : decode cX10_copy 32 = .ok (.if_icmp .ge 58, 3) := by decide +kernel
theorem dX10_copy_35 : decode cX10_copy 35 = .ok (.iload_n 2, 1) := by decide +kernel
theorem dX10_copy_36 : decode cX10_copy 36 = .ok (.iload 4, 2) := by decide +kernel
theorem dX10_copy_38 : decode cX10_copy 38 = .ok (.if_icmp .ge 13, 3) := by decide +kernel
theorem dX10_copy_41 : decode cX10_copy 41 = .ok (.iload 5, 2) := by decide +kernel
theorem dX10_copy_43 : decode cX10_copy 43 = .ok (.iconst 1, 1) := by decide +kernel
theorem dX10_copy_44 : decode cX10_copy 44 = .ok (.isub, 1) := by decide +kernel
theorem dX10_copy_45 : decode cX10_copy 45 = .ok (.iload 7, 2) := by decide +kernel
theorem dX10_copy_47 : decode cX10_copy 47 = .ok (.isub, 1) := by decide +kernel
theorem dX10_copy_48 : decode cX10_copy 48 = .ok (.goto 5, 3) := by decide +kernel
theorem dX10_copy_51 : decode cX10_copy 51 = .ok (.iload 7, 2) := by decide +kernel
theorem dX10_copy_53 : decode cX10_copy 53 = .ok (.istore 8, 2) := by decide +kernel
theorem dX10_copy_55 : decode cX10_copy 55 = .ok (.aload_n 0, 1) := by decide +kernel
theorem dX10_copy_56 : decode cX10_copy 56 = .ok (.getfield 31, 3) := by decide +kernel
theorem dX10_copy_59 : decode cX10_copy 59 = .ok (.bipush 40, 2) := by decide +kernel
theorem dX10_copy_61 : decode cX10_copy 61 = .ok (.iload_n 3, 1) := by decide +kernel
theorem dX10_copy_62 : decode cX10_copy 62 = .ok (.imul, 1) := by decide +kernel
theorem dX10_copy_63 : decode cX10_copy 63 = .ok (.iload 4, 2) := by decide +kernel
theorem dX10_copy_65 : decode cX10_copy 65 = .ok (.iadd, 1) := by decide +kernel
theorem dX10_copy_66 : decode cX10_copy 66 = .ok (.iload 8, 2) := by decide +kernel
theorem dX10_copy_68 : decode cX10_copy 68 = .ok (.iadd, 1) := by decide +kernel
theorem dX10_copy_69 : decode cX10_copy 69 = .ok (.aload_n 0, 1) := by decide +kernel
theorem dX10_copy_70 : decode cX10_copy 70 = .ok (.getfield 31, 3) := by decide +kernel
theorem dX10_copy_73 : decode cX10_copy 73 = .ok (.bipush 40, 2) := by decide +kernel
theorem dX10_copy_75 : decode cX10_copy 75 = .ok (.iload_n 1, 1) := by decide +kernel
theorem dX10_copy_76 : decode cX10_copy 76 = .ok (.imul, 1) := by decide +kernel
theorem dX10_copy_77 : decode cX10_copy 77 = .ok (.iload_n 2, 1) := by decide +kernel
theorem dX10_copy_78 : decode cX10_copy 78 = .ok (.iadd, 1) := by decide +kernel
theorem dX10_copy_79 : decode cX10_copy 79 = .ok (.iload 8, 2) := by decide +kernel
theorem dX10_copy_81 : decode cX10_copy 81 = .ok (.iadd, 1) := by decide +kernel
theorem dX10_copy_82 : decode cX10_copy 82 = .ok (.laload, 1) := by decide +kernel
theorem dX10_copy_83 : decode cX10_copy 83 = .ok (.lastore, 1) := by decide +kernel
theorem dX10_copy_84 : decode cX10_copy 84 = .ok (.iinc 7 1, 3) := by decide +kernel
theorem dX10_copy_87 : decode cX10_copy 87 = .ok (.goto (-59), 3) := by decide +kernel
theorem dX10_copy_90 : decode cX10_copy 90 = .ok (.iload 5, 2) := by decide +kernel
theorem dX10_copy_92 : decode cX10_copy 92 = .ok (.ireturn, 1) := by decide +kernel
theorem dX10_lays_0 : decode cX10_lays 0 = .ok (.aload_n 0, 1) := by decide +kernel
theorem dX10_lays_1 : decode cX10_lays 1 = .ok (.iload_n 1, 1) := by decide +kernel
theorem dX10_lays_2 : decode cX10_lays 2 = .ok (.invokevirtual 216, 3) := by decide +kernel
theorem dX10_lays_5 : decode cX10_lays 5 = .ok (.istore_n 2, 1) := by decide +kernel
theorem dX10_lays_6 : decode cX10_lays 6 = .ok (.iload_n 2, 1) := by decide +kernel
theorem dX10_lays_7 : decode cX10_lays 7 = .ok (.ifCond .eq 9, 3) := by decide +kernel
theorem dX10_lays_10 : decode cX10_lays 10 = .ok (.aload_n 0, 1) := by decide +kernel
theorem dX10_lays_11 : decode cX10_lays 11 = .ok (.iload_n 2, 1) := by decide +kernel
theorem dX10_lays_12 : decode cX10_lays 12 = .ok (.invokevirtual 37, 3) := by decide +kernel
theorem dX10_lays_15 : decode cX10_lays 15 = .ok (.ireturn, 1) := by decide +kernel
theorem dX10_lays_16 : decode cX10_lays 16 = .ok (.iconst 0, 1) := by decide +kernel
theorem dX10_lays_17 : decode cX10_lays 17 = .ok (.istore_n 3, 1) := by decide +kernel
theorem dX10_lays_18 : decode cX10_lays 18 = .ok (.iconst 0, 1) := by decide +kernel
theorem dX10_lays_19 : decode cX10_lays 19 = .ok (.istore 4, 2) := by decide +kernel
theorem dX10_lays_21 : decode cX10_lays 21 = .ok (.iload 4, 2) := by decide +kernel
theorem dX10_lays_23 : decode cX10_lays 23 = .ok (.aload_n 0, 1) := by decide +kernel
theorem dX10_lays_24 : decode cX10_lays 24 = .ok (.getfield 28, 3) := by decide +kernel
theorem dX10_lays_27 : decode cX10_lays 27 = .ok (.iload_n 1, 1) := by decide +kernel
theorem dX10_lays_28 : decode cX10_lays 28 = .ok (.iaload, 1) := by decide +kernel
theorem dX10_lays_29 : decode cX10_lays 29 = .ok (.if_icmp .ge 60, 3) := by decide +kernel
theorem dX10_lays_32 : decode cX10_lays 32 = .ok (.iload 4, 2) := by decide +kernel
theorem dX10_lays_34 : decode cX10_lays 34 = .ok (.bipush 6, 2) := by decide +kernel
theorem dX10_lays_36 : decode cX10_lays 36 = .ok (.if_icmp .ge 53, 3) := by decide +kernel
theorem dX10_lays_39 : decode cX10_lays 39 = .ok (.aload_n 0, 1) := by decide +kernel
theorem dX10_lays_40 : decode cX10_lays 40 = .ok (.getfield 31, 3) := by decide +kernel
theorem dX10_lays_43 : decode cX10_lays 43 = .ok (.bipush 40, 2) := by decide +kernel
theorem dX10_lays_45 : decode cX10_lays 45 = .ok (.iload_n 1, 1) := by decide +kernel
theorem dX10_lays_46 : decode cX10_lays 46 = .ok (.imul, 1) := by decide +kernel
theorem dX10_lays_47 : decode cX10_lays 47 = .ok (.iload 4, 2) := by decide +kernel
theorem dX10_lays_49 : decode cX10_lays 49 = .ok (.iadd, 1) := by decide +kernel
theorem dX10_lays_50 : decode cX10_lays 50 = .ok (.laload, 1) := by decide +kernel
theorem dX10_lays_51 : decode cX10_lays 51 = .ok (.iconst 0, 1) := by decide +kernel
theorem dX10_lays_52 : decode cX10_lays 52 = .ok (.bipush 20, 2) := by decide +kernel
theorem dX10_lays_54 : decode cX10_lays 54 = .ok (.invokestatic 41, 3) := by decide +kernel
theorem dX10_lays_57 : decode cX10_lays 57 = .ok (.ifCond .eq 26, 3) := by decide +kernel
theorem dX10_lays_60 : decode cX10_lays 60 = .ok (.aload_n 0, 1) := by decide +kernel
theorem dX10_lays_61 : decode cX10_lays 61 = .ok (.iload 4, 2) := by decide +kernel
theorem dX10_lays_63 : decode cX10_lays 63 = .ok (.iconst 0, 1) := by decide +kernel
theorem dX10_lays_64 : decode cX10_lays 64 = .ok (.aload_n 0, 1) := by decide +kernel
theorem dX10_lays_65 : decode cX10_lays 65 = .ok (.getfield 31, 3) := by decide +kernel
theorem dX10_lays_68 : decode cX10_lays 68 = .ok (.bipush 40, 2) := by decide +kernel
theorem dX10_lays_70 : decode cX10_lays 70 = .ok (.iload_n 1, 1) := by decide +kernel
theorem dX10_lays_71 : decode cX10_lays 71 = .ok (.imul, 1) := by decide +kernel
theorem dX10_lays_72 : decode cX10_lays 72 = .ok (.iload 4, 2) := by decide +kernel
theorem dX10_lays_74 : decode cX10_lays 74 = .ok (.iadd, 1) := by decide +kernel
theorem dX10_lays_75 : decode cX10_lays 75 = .ok (.laload, 1) := by decide +kernel
theorem dX10_lays_76 : decode cX10_lays 76 = .ok (.l2i, 1) := by decide +kernel
theorem dX10_lays_77 : decode cX10_lays 77 = .ok (.invokevirtual 97, 3) := by decide +kernel
theorem dX10_lays_80 : decode cX10_lays 80 = .ok (.iinc 3 1, 3) := by decide +kernel
theorem dX10_lays_83 : decode cX10_lays 83 = .ok (.iinc 4 1, 3) := by decide +kernel
theorem dX10_lays_86 : decode cX10_lays 86 = .ok (.goto (-65), 3) := by decide +kernel
theorem dX10_lays_89 : decode cX10_lays 89 = .ok (.iload_n 3, 1) := by decide +kernel
theorem dX10_lays_90 : decode cX10_lays 90 = .ok (.ireturn, 1) := by decide +kernel
theorem dX10_notAsked_0 : decode cX10_notAsked 0 = .ok (.aload_n 0, 1) := by decide +kernel
theorem dX10_notAsked_1 : decode cX10_notAsked 1 = .ok (.iload_n 1, 1) := by decide +kernel
theorem dX10_notAsked_2 : decode cX10_notAsked 2 = .ok (.invokevirtual 216, 3) := by decide +kernel
theorem dX10_notAsked_5 : decode cX10_notAsked 5 = .ok (.istore_n 3, 1) := by decide +kernel
theorem dX10_notAsked_6 : decode cX10_notAsked 6 = .ok (.iload_n 3, 1) := by decide +kernel
theorem dX10_notAsked_7 : decode cX10_notAsked 7 = .ok (.ifCond .ne 16, 3) := by decide +kernel
theorem dX10_notAsked_10 : decode cX10_notAsked 10 = .ok (.aload_n 0, 1) := by decide +kernel
theorem dX10_notAsked_11 : decode cX10_notAsked 11 = .ok (.iload_n 2, 1) := by decide +kernel
theorem dX10_notAsked_12 : decode cX10_notAsked 12 = .ok (.invokevirtual 81, 3) := by decide +kernel
theorem dX10_notAsked_15 : decode cX10_notAsked 15 = .ok (.ifCond .ne 8, 3) := by decide +kernel
theorem dX10_notAsked_18 : decode cX10_notAsked 18 = .ok (.ldc 35, 2) := by decide +kernel
theorem dX10_notAsked_20 : decode cX10_notAsked 20 = .ok (.goto 4, 3) := by decide +kernel
theorem dX10_notAsked_23 : decode cX10_notAsked 23 = .ok (.iload_n 3, 1) := by decide +kernel
theorem dX10_notAsked_24 : decode cX10_notAsked 24 = .ok (.ireturn, 1) := by decide +kernel
theorem dX10_book_0 : decode cX10_book 0 = .ok (.aload_n 0, 1) := by decide +kernel
theorem dX10_book_1 : decode cX10_book 1 = .ok (.iload_n 1, 1) := by decide +kernel
theorem dX10_book_2 : decode cX10_book 2 = .ok (.iload_n 2, 1) := by decide +kernel
theorem dX10_book_3 : decode cX10_book 3 = .ok (.invokevirtual 227, 3) := by decide +kernel
theorem dX10_book_6 : decode cX10_book 6 = .ok (.istore_n 3, 1) := by decide +kernel
theorem dX10_book_7 : decode cX10_book 7 = .ok (.iload_n 3, 1) := by decide +kernel
theorem dX10_book_8 : decode cX10_book 8 = .ok (.ifCond .eq 9, 3) := by decide +kernel
theorem dX10_book_11 : decode cX10_book 11 = .ok (.aload_n 0, 1) := by decide +kernel
theorem dX10_book_12 : decode cX10_book 12 = .ok (.iload_n 3, 1) := by decide +kernel
theorem dX10_book_13 : decode cX10_book 13 = .ok (.invokevirtual 37, 3) := by decide +kernel
theorem dX10_book_16 : decode cX10_book 16 = .ok (.ireturn, 1) := by decide +kernel
theorem dX10_book_17 : decode cX10_book 17 = .ok (.aload_n 0, 1) := by decide +kernel
theorem dX10_book_18 : decode cX10_book 18 = .ok (.invokevirtual 141, 3) := by decide +kernel
theorem dX10_book_21 : decode cX10_book 21 = .ok (.iconst 0, 1) := by decide +kernel
theorem dX10_book_22 : decode cX10_book 22 = .ok (.istore 4, 2) := by decide +kernel
theorem dX10_book_24 : decode cX10_book 24 = .ok (.iload 4, 2) := by decide +kernel
theorem dX10_book_26 : decode cX10_book 26 = .ok (.aload_n 0, 1) := by decide +kernel
theorem dX10_book_27 : decode cX10_book 27 = .ok (.getfield 28, 3) := by decide +kernel
theorem dX10_book_30 : decode cX10_book 30 = .ok (.iload_n 1, 1) := by decide +kernel
theorem dX10_book_31 : decode cX10_book 31 = .ok (.iaload, 1) := by decide +kernel
theorem dX10_book_32 : decode cX10_book 32 = .ok (.if_icmp .ge 41, 3) := by decide +kernel
theorem dX10_book_35 : decode cX10_book 35 = .ok (.aload_n 0, 1) := by decide +kernel
theorem dX10_book_36 : decode cX10_book 36 = .ok (.getfield 31, 3) := by decide +kernel
theorem dX10_book_39 : decode cX10_book 39 = .ok (.bipush 40, 2) := by decide +kernel
theorem dX10_book_41 : decode cX10_book 41 = .ok (.iload_n 1, 1) := by decide +kernel
theorem dX10_book_42 : decode cX10_book 42 = .ok (.imul, 1) := by decide +kernel
theorem dX10_book_43 : decode cX10_book 43 = .ok (.iload 4, 2) := by decide +kernel
theorem dX10_book_45 : decode cX10_book 45 = .ok (.iadd, 1) := by decide +kernel
theorem dX10_book_46 : decode cX10_book 46 = .ok (.aload_n 0, 1) := by decide +kernel
theorem dX10_book_47 : decode cX10_book 47 = .ok (.getfield 25, 3) := by decide +kernel
theorem dX10_book_50 : decode cX10_book 50 = .ok (.iload_n 1, 1) := by decide +kernel
theorem dX10_book_51 : decode cX10_book 51 = .ok (.iaload, 1) := by decide +kernel
theorem dX10_book_52 : decode cX10_book 52 = .ok (.aload_n 0, 1) := by decide +kernel
theorem dX10_book_53 : decode cX10_book 53 = .ok (.iload_n 2, 1) := by decide +kernel
theorem dX10_book_54 : decode cX10_book 54 = .ok (.iconst 1, 1) := by decide +kernel
theorem dX10_book_55 : decode cX10_book 55 = .ok (.invokevirtual 45, 3) := by decide +kernel
theorem dX10_book_58 : decode cX10_book 58 = .ok (.i2l, 1) := by decide +kernel
theorem dX10_book_59 : decode cX10_book 59 = .ok (.invokestatic 219, 3) := by decide +kernel
theorem dX10_book_62 : decode cX10_book 62 = .ok (.lastore, 1) := by decide +kernel
theorem dX10_book_63 : decode cX10_book 63 = .ok (.aload_n 0, 1) := by decide +kernel
theorem dX10_book_64 : decode cX10_book 64 = .ok (.invokevirtual 121, 3) := by decide +kernel
theorem dX10_book_67 : decode cX10_book 67 = .ok (.iinc 4 1, 3) := by decide +kernel
theorem dX10_book_70 : decode cX10_book 70 = .ok (.goto (-46), 3) := by decide +kernel
theorem dX10_book_73 : decode cX10_book 73 = .ok (.aload_n 0, 1) := by decide +kernel
theorem dX10_book_74 : decode cX10_book 74 = .ok (.invokevirtual 144, 3) := by decide +kernel
theorem dX10_book_77 : decode cX10_book 77 = .ok (.aload_n 0, 1) := by decide +kernel
theorem dX10_book_78 : decode cX10_book 78 = .ok (.getfield 28, 3) := by decide +kernel
theorem dX10_book_81 : decode cX10_book 81 = .ok (.iload_n 1, 1) := by decide +kernel
theorem dX10_book_82 : decode cX10_book 82 = .ok (.iaload, 1) := by decide +kernel
theorem dX10_book_83 : decode cX10_book 83 = .ok (.ireturn, 1) := by decide +kernel
theorem dX10_isBook_0 : decode cX10_isBook 0 = .ok (.iconst 1, 1) := by decide +kernel
theorem dX10_isBook_1 : decode cX10_isBook 1 = .ok (.istore_n 3, 1) := by decide +kernel
theorem dX10_isBook_2 : decode cX10_isBook 2 = .ok (.iconst 0, 1) := by decide +kernel
theorem dX10_isBook_3 : decode cX10_isBook 3 = .ok (.istore 4, 2) := by decide +kernel
theorem dX10_isBook_5 : decode cX10_isBook 5 = .ok (.iload 4, 2) := by decide +kernel
theorem dX10_isBook_7 : decode cX10_isBook 7 = .ok (.aload_n 0, 1) := by decide +kernel
theorem dX10_isBook_8 : decode cX10_isBook 8 = .ok (.getfield 28, 3) := by decide +kernel
theorem dX10_isBook_11 : decode cX10_isBook 11 = .ok (.iload_n 1, 1) := by decide +kernel
theorem dX10_isBook_12 : decode cX10_isBook 12 = .ok (.iaload, 1) := by decide +kernel
theorem dX10_isBook_13 : decode cX10_isBook 13 = .ok (.if_icmp .ge 46, 3) := by decide +kernel
theorem dX10_isBook_16 : decode cX10_isBook 16 = .ok (.iload_n 3, 1) := by decide +kernel
theorem dX10_isBook_17 : decode cX10_isBook 17 = .ok (.ifCond .eq 42, 3) := by decide +kernel
theorem dX10_isBook_20 : decode cX10_isBook 20 = .ok (.aload_n 0, 1) := by decide +kernel
theorem dX10_isBook_21 : decode cX10_isBook 21 = .ok (.getfield 31, 3) := by decide +kernel
theorem dX10_isBook_24 : decode cX10_isBook 24 = .ok (.bipush 40, 2) := by decide +kernel
theorem dX10_isBook_26 : decode cX10_isBook 26 = .ok (.iload_n 1, 1) := by decide +kernel
theorem dX10_isBook_27 : decode cX10_isBook 27 = .ok (.imul, 1) := by decide +kernel
theorem dX10_isBook_28 : decode cX10_isBook 28 = .ok (.iload 4, 2) := by decide +kernel
theorem dX10_isBook_30 : decode cX10_isBook 30 = .ok (.iadd, 1) := by decide +kernel
theorem dX10_isBook_31 : decode cX10_isBook 31 = .ok (.laload, 1) := by decide +kernel
theorem dX10_isBook_32 : decode cX10_isBook 32 = .ok (.aload_n 0, 1) := by decide +kernel
theorem dX10_isBook_33 : decode cX10_isBook 33 = .ok (.iload_n 2, 1) := by decide +kernel
theorem dX10_isBook_34 : decode cX10_isBook 34 = .ok (.iconst 1, 1) := by decide +kernel
theorem dX10_isBook_35 : decode cX10_isBook 35 = .ok (.invokevirtual 45, 3) := by decide +kernel
theorem dX10_isBook_38 : decode cX10_isBook 38 = .ok (.i2l, 1) := by decide +kernel
theorem dX10_isBook_39 : decode cX10_isBook 39 = .ok (.lcmp, 1) := by decide +kernel
theorem dX10_isBook_40 : decode cX10_isBook 40 = .ok (.ifCond .ne 7, 3) := by decide +kernel
theorem dX10_isBook_43 : decode cX10_isBook 43 = .ok (.iconst 1, 1) := by decide +kernel
theorem dX10_isBook_44 : decode cX10_isBook 44 = .ok (.goto 4, 3) := by decide +kernel
theorem dX10_isBook_47 : decode cX10_isBook 47 = .ok (.iconst 0, 1) := by decide +kernel
theorem dX10_isBook_48 : decode cX10_isBook 48 = .ok (.istore_n 3, 1) := by decide +kernel
theorem dX10_isBook_49 : decode cX10_isBook 49 = .ok (.aload_n 0, 1) := by decide +kernel
theorem dX10_isBook_50 : decode cX10_isBook 50 = .ok (.invokevirtual 121, 3) := by decide +kernel
theorem dX10_isBook_53 : decode cX10_isBook 53 = .ok (.iinc 4 1, 3) := by decide +kernel
theorem dX10_isBook_56 : decode cX10_isBook 56 = .ok (.goto (-51), 3) := by decide +kernel
theorem dX10_isBook_59 : decode cX10_isBook 59 = .ok (.aload_n 0, 1) := by decide +kernel
theorem dX10_isBook_60 : decode cX10_isBook 60 = .ok (.invokevirtual 144, 3) := by decide +kernel
theorem dX10_isBook_63 : decode cX10_isBook 63 = .ok (.iload_n 3, 1) := by decide +kernel
theorem dX10_isBook_64 : decode cX10_isBook 64 = .ok (.ireturn, 1) := by decide +kernel
theorem dX10_read_0 : decode cX10_read 0 = .ok (.aload_n 0, 1) := by decide +kernel
theorem dX10_read_1 : decode cX10_read 1 = .ok (.iload_n 1, 1) := by decide +kernel
theorem dX10_read_2 : decode cX10_read 2 = .ok (.iload_n 2, 1) := by decide +kernel
theorem dX10_read_3 : decode cX10_read 3 = .ok (.invokevirtual 227, 3) := by decide +kernel
theorem dX10_read_6 : decode cX10_read 6 = .ok (.istore 4, 2) := by decide +kernel
theorem dX10_read_8 : decode cX10_read 8 = .ok (.iload 4, 2) := by decide +kernel
theorem dX10_read_10 : decode cX10_read 10 = .ok (.ifCond .ne 15, 3) := by decide +kernel
theorem dX10_read_13 : decode cX10_read 13 = .ok (.iload_n 3, 1) := by decide +kernel
theorem dX10_read_14 : decode cX10_read 14 = .ok (.invokestatic 49, 3) := by decide +kernel
theorem dX10_read_17 : decode cX10_read 17 = .ok (.ifCond .ne 8, 3) := by decide +kernel
theorem dX10_read_20 : decode cX10_read 20 = .ok (.ldc 35, 2) := by decide +kernel
theorem dX10_read_22 : decode cX10_read 22 = .ok (.goto 5, 3) := by decide +kernel
theorem dX10_read_25 : decode cX10_read 25 = .ok (.iload 4, 2) := by decide +kernel
theorem dX10_read_27 : decode cX10_read 27 = .ok (.istore 4, 2) := by decide +kernel
theorem dX10_read_29 : decode cX10_read 29 = .ok (.iload 4, 2) := by decide +kernel
theorem dX10_read_31 : decode cX10_read 31 = .ok (.ifCond .eq 10, 3) := by decide +kernel
theorem dX10_read_34 : decode cX10_read 34 = .ok (.aload_n 0, 1) := by decide +kernel
theorem dX10_read_35 : decode cX10_read 35 = .ok (.iload 4, 2) := by decide +kernel
theorem dX10_read_37 : decode cX10_read 37 = .ok (.invokevirtual 37, 3) := by decide +kernel
theorem dX10_read_40 : decode cX10_read 40 = .ok (.ireturn, 1) := by decide +kernel
theorem dX10_read_41 : decode cX10_read 41 = .ok (.aload_n 0, 1) := by decide +kernel
theorem dX10_read_42 : decode cX10_read 42 = .ok (.invokevirtual 141, 3) := by decide +kernel
theorem dX10_read_45 : decode cX10_read 45 = .ok (.iconst 0, 1) := by decide +kernel
theorem dX10_read_46 : decode cX10_read 46 = .ok (.istore 5, 2) := by decide +kernel
theorem dX10_read_48 : decode cX10_read 48 = .ok (.iconst 0, 1) := by decide +kernel
theorem dX10_read_49 : decode cX10_read 49 = .ok (.istore 6, 2) := by decide +kernel
theorem dX10_read_51 : decode cX10_read 51 = .ok (.iload 6, 2) := by decide +kernel
theorem dX10_read_53 : decode cX10_read 53 = .ok (.bipush 126, 2) := by decide +kernel
theorem dX10_read_55 : decode cX10_read 55 = .ok (.if_icmp .ge 50, 3) := by decide +kernel
theorem dX10_read_58 : decode cX10_read 58 = .ok (.aload_n 0, 1) := by decide +kernel
theorem dX10_read_59 : decode cX10_read 59 = .ok (.iload_n 2, 1) := by decide +kernel
theorem dX10_read_60 : decode cX10_read 60 = .ok (.iconst 0, 1) := by decide +kernel
theorem dX10_read_61 : decode cX10_read 61 = .ok (.iload 6, 2) := by decide +kernel
theorem dX10_read_63 : decode cX10_read 63 = .ok (.bipush 21, 2) := by decide +kernel
theorem dX10_read_65 : decode cX10_read 65 = .ok (.idiv, 1) := by decide +kernel
theorem dX10_read_66 : decode cX10_read 66 = .ok (.invokevirtual 72, 3) := by decide +kernel
theorem dX10_read_69 : decode cX10_read 69 = .ok (.aload_n 0, 1) := by decide +kernel
theorem dX10_read_70 : decode cX10_read 70 = .ok (.iload_n 3, 1) := by decide +kernel
theorem dX10_read_71 : decode cX10_read 71 = .ok (.iconst 0, 1) := by decide +kernel
theorem dX10_read_72 : decode cX10_read 72 = .ok (.iload 6, 2) := by decide +kernel
theorem dX10_read_74 : decode cX10_read 74 = .ok (.bipush 21, 2) := by decide +kernel
theorem dX10_read_76 : decode cX10_read 76 = .ok (.irem, 1) := by decide +kernel
theorem dX10_read_77 : decode cX10_read 77 = .ok (.invokevirtual 97, 3) := by decide +kernel
theorem dX10_read_80 : decode cX10_read 80 = .ok (.iload 5, 2) := by decide +kernel
theorem dX10_read_82 : decode cX10_read 82 = .ok (.aload_n 0, 1) := by decide +kernel
theorem dX10_read_83 : decode cX10_read 83 = .ok (.iload_n 1, 1) := by decide +kernel
theorem dX10_read_84 : decode cX10_read 84 = .ok (.iload_n 2, 1) := by decide +kernel
theorem dX10_read_85 : decode cX10_read 85 = .ok (.invokevirtual 230, 3) := by decide +kernel
theorem dX10_read_88 : decode cX10_read 88 = .ok (.ifCond .eq 7, 3) := by decide +kernel
theorem dX10_read_91 : decode cX10_read 91 = .ok (.iconst 1, 1) := by decide +kernel
theorem dX10_read_92 : decode cX10_read 92 = .ok (.goto 4, 3) := by decide +kernel
theorem dX10_read_95 : decode cX10_read 95 = .ok (.iconst 0, 1) := by decide +kernel
theorem dX10_read_96 : decode cX10_read 96 = .ok (.iadd, 1) := by decide +kernel
theorem dX10_read_97 : decode cX10_read 97 = .ok (.istore 5, 2) := by decide +kernel
theorem dX10_read_99 : decode cX10_read 99 = .ok (.iinc 6 1, 3) := by decide +kernel
theorem dX10_read_102 : decode cX10_read 102 = .ok (.goto (-51), 3) := by decide +kernel
theorem dX10_read_105 : decode cX10_read 105 = .ok (.iload 5, 2) := by decide +kernel
theorem dX10_read_107 : decode cX10_read 107 = .ok (.ireturn, 1) := by decide +kernel
theorem dX10_image_0 : decode cX10_image 0 = .ok (.aload_n 0, 1) := by decide +kernel
theorem dX10_image_1 : decode cX10_image 1 = .ok (.getfield 9, 3) := by decide +kernel
theorem dX10_image_4 : decode cX10_image 4 = .ok (.aload_n 0, 1) := by decide +kernel
theorem dX10_image_5 : decode cX10_image 5 = .ok (.getfield 13, 3) := by decide +kernel
theorem dX10_image_8 : decode cX10_image 8 = .ok (.invokestatic 137, 3) := by decide +kernel
theorem dX10_image_11 : decode cX10_image 11 = .ok (.aload_n 0, 1) := by decide +kernel
theorem dX10_image_12 : decode cX10_image 12 = .ok (.iconst 1, 1) := by decide +kernel
theorem dX10_image_13 : decode cX10_image 13 = .ok (.putfield 233, 3) := by decide +kernel
theorem dX10_image_16 : decode cX10_image 16 = .ok (.iconst 1, 1) := by decide +kernel
theorem dX10_image_17 : decode cX10_image 17 = .ok (.ireturn, 1) := by decide +kernel
theorem dX10_undo_0 : decode cX10_undo 0 = .ok (.aload_n 0, 1) := by decide +kernel
theorem dX10_undo_1 : decode cX10_undo 1 = .ok (.getfield 233, 3) := by decide +kernel
theorem dX10_undo_4 : decode cX10_undo 4 = .ok (.ifCond .ne 10, 3) := by decide +kernel
theorem dX10_undo_7 : decode cX10_undo 7 = .ok (.aload_n 0, 1) := by decide +kernel
theorem dX10_undo_8 : decode cX10_undo 8 = .ok (.ldc 36, 2) := by decide +kernel
theorem dX10_undo_10 : decode cX10_undo 10 = .ok (.invokevirtual 37, 3) := by decide +kernel
theorem dX10_undo_13 : decode cX10_undo 13 = .ok (.ireturn, 1) := by decide +kernel
theorem dX10_undo_14 : decode cX10_undo 14 = .ok (.aload_n 0, 1) := by decide +kernel
theorem dX10_undo_15 : decode cX10_undo 15 = .ok (.getfield 13, 3) := by decide +kernel
theorem dX10_undo_18 : decode cX10_undo 18 = .ok (.aload_n 0, 1) := by decide +kernel
theorem dX10_undo_19 : decode cX10_undo 19 = .ok (.getfield 9, 3) := by decide +kernel
theorem dX10_undo_22 : decode cX10_undo 22 = .ok (.invokestatic 137, 3) := by decide +kernel
theorem dX10_undo_25 : decode cX10_undo 25 = .ok (.aload_n 0, 1) := by decide +kernel
theorem dX10_undo_26 : decode cX10_undo 26 = .ok (.getfield 9, 3) := by decide +kernel
theorem dX10_undo_29 : decode cX10_undo 29 = .ok (.iconst 1, 1) := by decide +kernel
theorem dX10_undo_30 : decode cX10_undo 30 = .ok (.iaload, 1) := by decide +kernel
theorem dX10_undo_31 : decode cX10_undo 31 = .ok (.ireturn, 1) := by decide +kernel
theorem dX10_tear_0 : decode cX10_tear 0 = .ok (.aload_n 0, 1) := by decide +kernel
theorem dX10_tear_1 : decode cX10_tear 1 = .ok (.getfield 233, 3) := by decide +kernel
theorem dX10_tear_4 : decode cX10_tear 4 = .ok (.ifCond .eq 7, 3) := by decide +kernel
theorem dX10_tear_7 : decode cX10_tear 7 = .ok (.iconst 1, 1) := by decide +kernel
theorem dX10_tear_8 : decode cX10_tear 8 = .ok (.goto 4, 3) := by decide +kernel
theorem dX10_tear_11 : decode cX10_tear 11 = .ok (.iconst 0, 1) := by decide +kernel
theorem dX10_tear_12 : decode cX10_tear 12 = .ok (.istore_n 1, 1) := by decide +kernel
theorem dX10_tear_13 : decode cX10_tear 13 = .ok (.aload_n 0, 1) := by decide +kernel
theorem dX10_tear_14 : decode cX10_tear 14 = .ok (.iconst 0, 1) := by decide +kernel
theorem dX10_tear_15 : decode cX10_tear 15 = .ok (.putfield 233, 3) := by decide +kernel
theorem dX10_tear_18 : decode cX10_tear 18 = .ok (.iload_n 1, 1) := by decide +kernel
theorem dX10_tear_19 : decode cX10_tear 19 = .ok (.ireturn, 1) := by decide +kernel
theorem dX10_howMany_0 : decode cX10_howMany 0 = .ok (.iconst 0, 1) := by decide +kernel
theorem dX10_howMany_1 : decode cX10_howMany 1 = .ok (.istore_n 1, 1) := by decide +kernel
theorem dX10_howMany_2 : decode cX10_howMany 2 = .ok (.iconst 0, 1) := by decide +kernel
theorem dX10_howMany_3 : decode cX10_howMany 3 = .ok (.istore_n 2, 1) := by decide +kernel
theorem dX10_howMany_4 : decode cX10_howMany 4 = .ok (.iload_n 2, 1) := by decide +kernel
theorem dX10_howMany_5 : decode cX10_howMany 5 = .ok (.aload_n 0, 1) := by decide +kernel
theorem dX10_howMany_6 : decode cX10_howMany 6 = .ok (.getfield 9, 3) := by decide +kernel
theorem dX10_howMany_9 : decode cX10_howMany 9 = .ok (.iconst 1, 1) := by decide +kernel
theorem dX10_howMany_10 : decode cX10_howMany 10 = .ok (.iaload, 1) := by decide +kernel
theorem dX10_howMany_11 : decode cX10_howMany 11 = .ok (.if_icmp .ge 25, 3) := by decide +kernel
theorem dX10_howMany_14 : decode cX10_howMany 14 = .ok (.iload_n 1, 1) := by decide +kernel
theorem dX10_howMany_15 : decode cX10_howMany 15 = .ok (.aload_n 0, 1) := by decide +kernel
theorem dX10_howMany_16 : decode cX10_howMany 16 = .ok (.iload_n 2, 1) := by decide +kernel
theorem dX10_howMany_17 : decode cX10_howMany 17 = .ok (.invokevirtual 60, 3) := by decide +kernel
theorem dX10_howMany_20 : decode cX10_howMany 20 = .ok (.ifCond .eq 7, 3) := by decide +kernel
theorem dX10_howMany_23 : decode cX10_howMany 23 = .ok (.iconst 1, 1) := by decide +kernel
theorem dX10_howMany_24 : decode cX10_howMany 24 = .ok (.goto 4, 3) := by decide +kernel
theorem dX10_howMany_27 : decode cX10_howMany 27 = .ok (.iconst 0, 1) := by decide +kernel
theorem dX10_howMany_28 : decode cX10_howMany 28 = .ok (.iadd, 1) := by decide +kernel
theorem dX10_howMany_29 : decode cX10_howMany 29 = .ok (.istore_n 1, 1) := by decide +kernel
theorem dX10_howMany_30 : decode cX10_howMany 30 = .ok (.iinc 2 1, 3) := by decide +kernel
theorem dX10_howMany_33 : decode cX10_howMany 33 = .ok (.goto (-29), 3) := by decide +kernel
theorem dX10_howMany_36 : decode cX10_howMany 36 = .ok (.iload_n 1, 1) := by decide +kernel
theorem dX10_howMany_37 : decode cX10_howMany 37 = .ok (.ireturn, 1) := by decide +kernel
theorem dX10_count_0 : decode cX10_count 0 = .ok (.iload_n 1, 1) := by decide +kernel
theorem dX10_count_1 : decode cX10_count 1 = .ok (.tableswitch 54 0 3 #[31, 38, 43, 48], 31) := by decide +kernel
theorem dX10_count_32 : decode cX10_count 32 = .ok (.aload_n 0, 1) := by decide +kernel
theorem dX10_count_33 : decode cX10_count 33 = .ok (.getfield 9, 3) := by decide +kernel
theorem dX10_count_36 : decode cX10_count 36 = .ok (.iconst 1, 1) := by decide +kernel
theorem dX10_count_37 : decode cX10_count 37 = .ok (.iaload, 1) := by decide +kernel
theorem dX10_count_38 : decode cX10_count 38 = .ok (.ireturn, 1) := by decide +kernel
theorem dX10_count_39 : decode cX10_count 39 = .ok (.aload_n 0, 1) := by decide +kernel
theorem dX10_count_40 : decode cX10_count 40 = .ok (.getfield 157, 3) := by decide +kernel
theorem dX10_count_43 : decode cX10_count 43 = .ok (.ireturn, 1) := by decide +kernel
theorem dX10_count_44 : decode cX10_count 44 = .ok (.aload_n 0, 1) := by decide +kernel
theorem dX10_count_45 : decode cX10_count 45 = .ok (.invokevirtual 236, 3) := by decide +kernel
theorem dX10_count_48 : decode cX10_count 48 = .ok (.ireturn, 1) := by decide +kernel
theorem dX10_count_49 : decode cX10_count 49 = .ok (.aload_n 0, 1) := by decide +kernel
theorem dX10_count_50 : decode cX10_count 50 = .ok (.iconst 3, 1) := by decide +kernel
theorem dX10_count_51 : decode cX10_count 51 = .ok (.invokevirtual 131, 3) := by decide +kernel
theorem dX10_count_54 : decode cX10_count 54 = .ok (.ireturn, 1) := by decide +kernel
theorem dX10_count_55 : decode cX10_count 55 = .ok (.aload_n 0, 1) := by decide +kernel
theorem dX10_count_56 : decode cX10_count 56 = .ok (.ldc 35, 2) := by decide +kernel
theorem dX10_count_58 : decode cX10_count 58 = .ok (.invokevirtual 37, 3) := by decide +kernel
theorem dX10_count_61 : decode cX10_count 61 = .ok (.ireturn, 1) := by decide +kernel
theorem dX10_status_0 : decode cX10_status 0 = .ok (.iload_n 1, 1) := by decide +kernel
theorem dX10_status_1 : decode cX10_status 1 = .ok (.i2l, 1) := by decide +kernel
theorem dX10_status_2 : decode cX10_status 2 = .ok (.iconst (-1), 1) := by decide +kernel
theorem dX10_status_3 : decode cX10_status 3 = .ok (.bipush 6, 2) := by decide +kernel
theorem dX10_status_5 : decode cX10_status 5 = .ok (.invokestatic 41, 3) := by decide +kernel
theorem dX10_status_8 : decode cX10_status 8 = .ok (.ifCond .ne 10, 3) := by decide +kernel
theorem dX10_status_11 : decode cX10_status 11 = .ok (.aload_n 0, 1) := by decide +kernel
theorem dX10_status_12 : decode cX10_status 12 = .ok (.ldc 35, 2) := by decide +kernel
theorem dX10_status_14 : decode cX10_status 14 = .ok (.invokevirtual 37, 3) := by decide +kernel
theorem dX10_status_17 : decode cX10_status 17 = .ok (.ireturn, 1) := by decide +kernel
theorem dX10_status_18 : decode cX10_status 18 = .ok (.iconst 0, 1) := by decide +kernel
theorem dX10_status_19 : decode cX10_status 19 = .ok (.istore_n 2, 1) := by decide +kernel
theorem dX10_status_20 : decode cX10_status 20 = .ok (.iconst 0, 1) := by decide +kernel
theorem dX10_status_21 : decode cX10_status 21 = .ok (.istore_n 3, 1) := by decide +kernel
theorem dX10_status_22 : decode cX10_status 22 = .ok (.iload_n 3, 1) := by decide +kernel
theorem dX10_status_23 : decode cX10_status 23 = .ok (.bipush 7, 2) := by decide +kernel
theorem dX10_status_25 : decode cX10_status 25 = .ok (.if_icmp .ge 31, 3) := by decide +kernel
theorem dX10_status_28 : decode cX10_status 28 = .ok (.iload_n 2, 1) := by decide +kernel
theorem dX10_status_29 : decode cX10_status 29 = .ok (.iload_n 1, 1) := by decide +kernel
theorem dX10_status_30 : decode cX10_status 30 = .ok (.ifCond .lt 8, 3) := by decide +kernel
theorem dX10_status_33 : decode cX10_status 33 = .ok (.iload_n 1, 1) := by decide +kernel
theorem dX10_status_34 : decode cX10_status 34 = .ok (.iload_n 3, 1) := by decide +kernel
theorem dX10_status_35 : decode cX10_status 35 = .ok (.if_icmp .ne 12, 3) := by decide +kernel
theorem dX10_status_38 : decode cX10_status 38 = .ok (.aload_n 0, 1) := by decide +kernel
theorem dX10_status_39 : decode cX10_status 39 = .ok (.getfield 19, 3) := by decide +kernel
theorem dX10_status_42 : decode cX10_status 42 = .ok (.iload_n 3, 1) := by decide +kernel
theorem dX10_status_43 : decode cX10_status 43 = .ok (.iaload, 1) := by decide +kernel
theorem dX10_status_44 : decode cX10_status 44 = .ok (.goto 4, 3) := by decide +kernel
theorem dX10_status_47 : decode cX10_status 47 = .ok (.iconst 0, 1) := by decide +kernel
theorem dX10_status_48 : decode cX10_status 48 = .ok (.iadd, 1) := by decide +kernel
theorem dX10_status_49 : decode cX10_status 49 = .ok (.istore_n 2, 1) := by decide +kernel
theorem dX10_status_50 : decode cX10_status 50 = .ok (.iinc 3 1, 3) := by decide +kernel
theorem dX10_status_53 : decode cX10_status 53 = .ok (.goto (-31), 3) := by decide +kernel
theorem dX10_status_56 : decode cX10_status 56 = .ok (.iload_n 2, 1) := by decide +kernel
theorem dX10_status_57 : decode cX10_status 57 = .ok (.ireturn, 1) := by decide +kernel
theorem dJ6_bitCount_0f7a4_0 : decode cJ6_bitCount_0f7a4 0 = .ok (.iload_n 0, 1) := by decide +kernel
theorem dJ6_bitCount_0f7a4_1 : decode cJ6_bitCount_0f7a4 1 = .ok (.iload_n 0, 1) := by decide +kernel
theorem dJ6_bitCount_0f7a4_2 : decode cJ6_bitCount_0f7a4 2 = .ok (.iconst 1, 1) := by decide +kernel
theorem dJ6_bitCount_0f7a4_3 : decode cJ6_bitCount_0f7a4 3 = .ok (.iushr, 1) := by decide +kernel
theorem dJ6_bitCount_0f7a4_4 : decode cJ6_bitCount_0f7a4 4 = .ok (.ldc_w 265, 3) := by decide +kernel
theorem dJ6_bitCount_0f7a4_7 : decode cJ6_bitCount_0f7a4 7 = .ok (.iand, 1) := by decide +kernel
theorem dJ6_bitCount_0f7a4_8 : decode cJ6_bitCount_0f7a4 8 = .ok (.isub, 1) := by decide +kernel
theorem dJ6_bitCount_0f7a4_9 : decode cJ6_bitCount_0f7a4 9 = .ok (.istore_n 0, 1) := by decide +kernel
theorem dJ6_bitCount_0f7a4_10 : decode cJ6_bitCount_0f7a4 10 = .ok (.iload_n 0, 1) := by decide +kernel
theorem dJ6_bitCount_0f7a4_11 : decode cJ6_bitCount_0f7a4 11 = .ok (.ldc_w 266, 3) := by decide +kernel
theorem dJ6_bitCount_0f7a4_14 : decode cJ6_bitCount_0f7a4 14 = .ok (.iand, 1) := by decide +kernel
theorem dJ6_bitCount_0f7a4_15 : decode cJ6_bitCount_0f7a4 15 = .ok (.iload_n 0, 1) := by decide +kernel
theorem dJ6_bitCount_0f7a4_16 : decode cJ6_bitCount_0f7a4 16 = .ok (.iconst 2, 1) := by decide +kernel
theorem dJ6_bitCount_0f7a4_17 : decode cJ6_bitCount_0f7a4 17 = .ok (.iushr, 1) := by decide +kernel
theorem dJ6_bitCount_0f7a4_18 : decode cJ6_bitCount_0f7a4 18 = .ok (.ldc_w 266, 3) := by decide +kernel
theorem dJ6_bitCount_0f7a4_21 : decode cJ6_bitCount_0f7a4 21 = .ok (.iand, 1) := by decide +kernel
theorem dJ6_bitCount_0f7a4_22 : decode cJ6_bitCount_0f7a4 22 = .ok (.iadd, 1) := by decide +kernel
theorem dJ6_bitCount_0f7a4_23 : decode cJ6_bitCount_0f7a4 23 = .ok (.istore_n 0, 1) := by decide +kernel
theorem dJ6_bitCount_0f7a4_24 : decode cJ6_bitCount_0f7a4 24 = .ok (.iload_n 0, 1) := by decide +kernel
theorem dJ6_bitCount_0f7a4_25 : decode cJ6_bitCount_0f7a4 25 = .ok (.iload_n 0, 1) := by decide +kernel
theorem dJ6_bitCount_0f7a4_26 : decode cJ6_bitCount_0f7a4 26 = .ok (.iconst 4, 1) := by decide +kernel
theorem dJ6_bitCount_0f7a4_27 : decode cJ6_bitCount_0f7a4 27 = .ok (.iushr, 1) := by decide +kernel
theorem dJ6_bitCount_0f7a4_28 : decode cJ6_bitCount_0f7a4 28 = .ok (.iadd, 1) := by decide +kernel
theorem dJ6_bitCount_0f7a4_29 : decode cJ6_bitCount_0f7a4 29 = .ok (.ldc_w 267, 3) := by decide +kernel
theorem dJ6_bitCount_0f7a4_32 : decode cJ6_bitCount_0f7a4 32 = .ok (.iand, 1) := by decide +kernel
theorem dJ6_bitCount_0f7a4_33 : decode cJ6_bitCount_0f7a4 33 = .ok (.istore_n 0, 1) := by decide +kernel
theorem dJ6_bitCount_0f7a4_34 : decode cJ6_bitCount_0f7a4 34 = .ok (.iload_n 0, 1) := by decide +kernel
theorem dJ6_bitCount_0f7a4_35 : decode cJ6_bitCount_0f7a4 35 = .ok (.iload_n 0, 1) := by decide +kernel
theorem dJ6_bitCount_0f7a4_36 : decode cJ6_bitCount_0f7a4 36 = .ok (.bipush 8, 2) := by decide +kernel
theorem dJ6_bitCount_0f7a4_38 : decode cJ6_bitCount_0f7a4 38 = .ok (.iushr, 1) := by decide +kernel
theorem dJ6_bitCount_0f7a4_39 : decode cJ6_bitCount_0f7a4 39 = .ok (.iadd, 1) := by decide +kernel
theorem dJ6_bitCount_0f7a4_40 : decode cJ6_bitCount_0f7a4 40 = .ok (.istore_n 0, 1) := by decide +kernel
theorem dJ6_bitCount_0f7a4_41 : decode cJ6_bitCount_0f7a4 41 = .ok (.iload_n 0, 1) := by decide +kernel
theorem dJ6_bitCount_0f7a4_42 : decode cJ6_bitCount_0f7a4 42 = .ok (.iload_n 0, 1) := by decide +kernel
theorem dJ6_bitCount_0f7a4_43 : decode cJ6_bitCount_0f7a4 43 = .ok (.bipush 16, 2) := by decide +kernel
theorem dJ6_bitCount_0f7a4_45 : decode cJ6_bitCount_0f7a4 45 = .ok (.iushr, 1) := by decide +kernel
theorem dJ6_bitCount_0f7a4_46 : decode cJ6_bitCount_0f7a4 46 = .ok (.iadd, 1) := by decide +kernel
theorem dJ6_bitCount_0f7a4_47 : decode cJ6_bitCount_0f7a4 47 = .ok (.istore_n 0, 1) := by decide +kernel
theorem dJ6_bitCount_0f7a4_48 : decode cJ6_bitCount_0f7a4 48 = .ok (.iload_n 0, 1) := by decide +kernel
theorem dJ6_bitCount_0f7a4_49 : decode cJ6_bitCount_0f7a4 49 = .ok (.bipush 63, 2) := by decide +kernel
theorem dJ6_bitCount_0f7a4_51 : decode cJ6_bitCount_0f7a4 51 = .ok (.iand, 1) := by decide +kernel
theorem dJ6_bitCount_0f7a4_52 : decode cJ6_bitCount_0f7a4 52 = .ok (.ireturn, 1) := by decide +kernel
theorem dJ0_length_8abf5_0 : decode cJ0_length_8abf5 0 = .ok (.aload_n 0, 1) := by decide +kernel
theorem dJ0_length_8abf5_1 : decode cJ0_length_8abf5 1 = .ok (.getfield 9, 3) := by decide +kernel
theorem dJ0_length_8abf5_4 : decode cJ0_length_8abf5 4 = .ok (.arraylength, 1) := by decide +kernel
theorem dJ0_length_8abf5_5 : decode cJ0_length_8abf5 5 = .ok (.aload_n 0, 1) := by decide +kernel
theorem dJ0_length_8abf5_6 : decode cJ0_length_8abf5 6 = .ok (.invokevirtual 335, 3) := by decide +kernel
theorem dJ0_length_8abf5_9 : decode cJ0_length_8abf5 9 = .ok (.ishr, 1) := by decide +kernel
theorem dJ0_length_8abf5_10 : decode cJ0_length_8abf5 10 = .ok (.ireturn, 1) := by decide +kernel
theorem dJ0_charAt_5068e_0 : decode cJ0_charAt_5068e 0 = .ok (.aload_n 0, 1) := by decide +kernel
theorem dJ0_charAt_5068e_1 : decode cJ0_charAt_5068e 1 = .ok (.invokevirtual 492, 3) := by decide +kernel
theorem dJ0_charAt_5068e_4 : decode cJ0_charAt_5068e 4 = .ok (.ifCond .eq 12, 3) := by decide +kernel
theorem dJ0_charAt_5068e_7 : decode cJ0_charAt_5068e 7 = .ok (.aload_n 0, 1) := by decide +kernel
theorem dJ0_charAt_5068e_8 : decode cJ0_charAt_5068e 8 = .ok (.getfield 9, 3) := by decide +kernel
theorem dJ0_charAt_5068e_11 : decode cJ0_charAt_5068e 11 = .ok (.iload_n 1, 1) := by decide +kernel
theorem dJ0_charAt_5068e_12 : decode cJ0_charAt_5068e 12 = .ok (.invokestatic 495, 3) := by decide +kernel
theorem dJ0_charAt_5068e_15 : decode cJ0_charAt_5068e 15 = .ok (.ireturn, 1) := by decide +kernel
theorem dJ0_charAt_5068e_16 : decode cJ0_charAt_5068e 16 = .ok (.aload_n 0, 1) := by decide +kernel
theorem dJ0_charAt_5068e_17 : decode cJ0_charAt_5068e 17 = .ok (.getfield 9, 3) := by decide +kernel
theorem dJ0_charAt_5068e_20 : decode cJ0_charAt_5068e 20 = .ok (.iload_n 1, 1) := by decide +kernel
theorem dJ0_charAt_5068e_21 : decode cJ0_charAt_5068e 21 = .ok (.invokestatic 498, 3) := by decide +kernel
theorem dJ0_charAt_5068e_24 : decode cJ0_charAt_5068e 24 = .ok (.ireturn, 1) := by decide +kernel
theorem dJ0_coder_7d493_0 : decode cJ0_coder_7d493 0 = .ok (.getstatic 38, 3) := by decide +kernel
theorem dJ0_coder_7d493_3 : decode cJ0_coder_7d493 3 = .ok (.ifCond .eq 10, 3) := by decide +kernel
theorem dJ0_coder_7d493_6 : decode cJ0_coder_7d493 6 = .ok (.aload_n 0, 1) := by decide +kernel
theorem dJ0_coder_7d493_7 : decode cJ0_coder_7d493 7 = .ok (.getfield 15, 3) := by decide +kernel
theorem dJ0_coder_7d493_10 : decode cJ0_coder_7d493 10 = .ok (.goto 4, 3) := by decide +kernel
theorem dJ0_coder_7d493_13 : decode cJ0_coder_7d493 13 = .ok (.iconst 1, 1) := by decide +kernel
theorem dJ0_coder_7d493_14 : decode cJ0_coder_7d493 14 = .ok (.ireturn, 1) := by decide +kernel
theorem dJ0_isLatin1_aae02_0 : decode cJ0_isLatin1_aae02 0 = .ok (.getstatic 38, 3) := by decide +kernel
theorem dJ0_isLatin1_aae02_3 : decode cJ0_isLatin1_aae02 3 = .ok (.ifCond .eq 14, 3) := by decide +kernel
theorem dJ0_isLatin1_aae02_6 : decode cJ0_isLatin1_aae02 6 = .ok (.aload_n 0, 1) := by decide +kernel
theorem dJ0_isLatin1_aae02_7 : decode cJ0_isLatin1_aae02 7 = .ok (.getfield 15, 3) := by decide +kernel
theorem dJ0_isLatin1_aae02_10 : decode cJ0_isLatin1_aae02 10 = .ok (.ifCond .ne 7, 3) := by decide +kernel
theorem dJ0_isLatin1_aae02_13 : decode cJ0_isLatin1_aae02 13 = .ok (.iconst 1, 1) := by decide +kernel
theorem dJ0_isLatin1_aae02_14 : decode cJ0_isLatin1_aae02 14 = .ok (.goto 4, 3) := by decide +kernel
theorem dJ0_isLatin1_aae02_17 : decode cJ0_isLatin1_aae02 17 = .ok (.iconst 0, 1) := by decide +kernel
theorem dJ0_isLatin1_aae02_18 : decode cJ0_isLatin1_aae02 18 = .ok (.ireturn, 1) := by decide +kernel
theorem dJ0_checkIndex_df160_0 : decode cJ0_checkIndex_df160 0 = .ok (.iload_n 0, 1) := by decide +kernel
theorem dJ0_checkIndex_df160_1 : decode cJ0_checkIndex_df160 1 = .ok (.iload_n 1, 1) := by decide +kernel
theorem dJ0_checkIndex_df160_2 : decode cJ0_checkIndex_df160 2 = .ok (.getstatic 1053, 3) := by decide +kernel
theorem dJ0_checkIndex_df160_5 : decode cJ0_checkIndex_df160 5 = .ok (.invokestatic 1059, 3) := by decide +kernel
theorem dJ0_checkIndex_df160_8 : decode cJ0_checkIndex_df160 8 = .ok (.pop, 1) := by decide +kernel
theorem dJ0_checkIndex_df160_9 : decode cJ0_checkIndex_df160 9 = .ok (.return_, 1) := by decide +kernel
theorem dJ1_charAt_3b067_0 : decode cJ1_charAt_3b067 0 = .ok (.iload_n 1, 1) := by decide +kernel
theorem dJ1_charAt_3b067_1 : decode cJ1_charAt_3b067 1 = .ok (.aload_n 0, 1) := by decide +kernel
theorem dJ1_charAt_3b067_2 : decode cJ1_charAt_3b067 2 = .ok (.arraylength, 1) := by decide +kernel
theorem dJ1_charAt_3b067_3 : decode cJ1_charAt_3b067 3 = .ok (.invokestatic 9, 3) := by decide +kernel
theorem dJ1_charAt_3b067_6 : decode cJ1_charAt_3b067 6 = .ok (.aload_n 0, 1) := by decide +kernel
theorem dJ1_charAt_3b067_7 : decode cJ1_charAt_3b067 7 = .ok (.iload_n 1, 1) := by decide +kernel
theorem dJ1_charAt_3b067_8 : decode cJ1_charAt_3b067 8 = .ok (.baload, 1) := by decide +kernel
theorem dJ1_charAt_3b067_9 : decode cJ1_charAt_3b067 9 = .ok (.sipush 255, 3) := by decide +kernel
theorem dJ1_charAt_3b067_12 : decode cJ1_charAt_3b067 12 = .ok (.iand, 1) := by decide +kernel
theorem dJ1_charAt_3b067_13 : decode cJ1_charAt_3b067 13 = .ok (.i2c, 1) := by decide +kernel
theorem dJ1_charAt_3b067_14 : decode cJ1_charAt_3b067 14 = .ok (.ireturn, 1) := by decide +kernel
theorem dJ7_fill_d0a16_0 : decode cJ7_fill_d0a16 0 = .ok (.iconst 0, 1) := by decide +kernel
theorem dJ7_fill_d0a16_1 : decode cJ7_fill_d0a16 1 = .ok (.istore_n 3, 1) := by decide +kernel
theorem dJ7_fill_d0a16_2 : decode cJ7_fill_d0a16 2 = .ok (.aload_n 0, 1) := by decide +kernel
theorem dJ7_fill_d0a16_3 : decode cJ7_fill_d0a16 3 = .ok (.arraylength, 1) := by decide +kernel
theorem dJ7_fill_d0a16_4 : decode cJ7_fill_d0a16 4 = .ok (.istore 4, 2) := by decide +kernel
theorem dJ7_fill_d0a16_6 : decode cJ7_fill_d0a16 6 = .ok (.iload_n 3, 1) := by decide +kernel
theorem dJ7_fill_d0a16_7 : decode cJ7_fill_d0a16 7 = .ok (.iload 4, 2) := by decide +kernel
theorem dJ7_fill_d0a16_9 : decode cJ7_fill_d0a16 9 = .ok (.if_icmp .ge 13, 3) := by decide +kernel
theorem dJ7_fill_d0a16_12 : decode cJ7_fill_d0a16 12 = .ok (.aload_n 0, 1) := by decide +kernel
theorem dJ7_fill_d0a16_13 : decode cJ7_fill_d0a16 13 = .ok (.iload_n 3, 1) := by decide +kernel
theorem dJ7_fill_d0a16_14 : decode cJ7_fill_d0a16 14 = .ok (.lload_n 1, 1) := by decide +kernel
theorem dJ7_fill_d0a16_15 : decode cJ7_fill_d0a16 15 = .ok (.lastore, 1) := by decide +kernel
theorem dJ7_fill_d0a16_16 : decode cJ7_fill_d0a16 16 = .ok (.iinc 3 1, 3) := by decide +kernel
theorem dJ7_fill_d0a16_19 : decode cJ7_fill_d0a16 19 = .ok (.goto (-13), 3) := by decide +kernel
theorem dJ7_fill_d0a16_22 : decode cJ7_fill_d0a16 22 = .ok (.return_, 1) := by decide +kernel
theorem dJ7_fill_53178_0 : decode cJ7_fill_53178 0 = .ok (.iconst 0, 1) := by decide +kernel
theorem dJ7_fill_53178_1 : decode cJ7_fill_53178 1 = .ok (.istore_n 2, 1) := by decide +kernel
theorem dJ7_fill_53178_2 : decode cJ7_fill_53178 2 = .ok (.aload_n 0, 1) := by decide +kernel
theorem dJ7_fill_53178_3 : decode cJ7_fill_53178 3 = .ok (.arraylength, 1) := by decide +kernel
theorem dJ7_fill_53178_4 : decode cJ7_fill_53178 4 = .ok (.istore_n 3, 1) := by decide +kernel
theorem dJ7_fill_53178_5 : decode cJ7_fill_53178 5 = .ok (.iload_n 2, 1) := by decide +kernel
theorem dJ7_fill_53178_6 : decode cJ7_fill_53178 6 = .ok (.iload_n 3, 1) := by decide +kernel
theorem dJ7_fill_53178_7 : decode cJ7_fill_53178 7 = .ok (.if_icmp .ge 13, 3) := by decide +kernel
theorem dJ7_fill_53178_10 : decode cJ7_fill_53178 10 = .ok (.aload_n 0, 1) := by decide +kernel
theorem dJ7_fill_53178_11 : decode cJ7_fill_53178 11 = .ok (.iload_n 2, 1) := by decide +kernel
theorem dJ7_fill_53178_12 : decode cJ7_fill_53178 12 = .ok (.iload_n 1, 1) := by decide +kernel
theorem dJ7_fill_53178_13 : decode cJ7_fill_53178 13 = .ok (.iastore, 1) := by decide +kernel
theorem dJ7_fill_53178_14 : decode cJ7_fill_53178 14 = .ok (.iinc 2 1, 3) := by decide +kernel
theorem dJ7_fill_53178_17 : decode cJ7_fill_53178 17 = .ok (.goto (-12), 3) := by decide +kernel
theorem dJ7_fill_53178_20 : decode cJ7_fill_53178 20 = .ok (.return_, 1) := by decide +kernel
theorem dJ3_checkIndex_8e157_0 : decode cJ3_checkIndex_8e157 0 = .ok (.iload_n 0, 1) := by decide +kernel
theorem dJ3_checkIndex_8e157_1 : decode cJ3_checkIndex_8e157 1 = .ok (.ifCond .lt 8, 3) := by decide +kernel
theorem dJ3_checkIndex_8e157_4 : decode cJ3_checkIndex_8e157 4 = .ok (.iload_n 0, 1) := by decide +kernel
theorem dJ3_checkIndex_8e157_5 : decode cJ3_checkIndex_8e157 5 = .ok (.iload_n 1, 1) := by decide +kernel
theorem dJ3_checkIndex_8e157_6 : decode cJ3_checkIndex_8e157 6 = .ok (.if_icmp .lt 10, 3) := by decide +kernel
theorem dJ3_checkIndex_8e157_9 : decode cJ3_checkIndex_8e157 9 = .ok (.aload_n 2, 1) := by decide +kernel
theorem dJ3_checkIndex_8e157_10 : decode cJ3_checkIndex_8e157 10 = .ok (.iload_n 0, 1) := by decide +kernel
theorem dJ3_checkIndex_8e157_11 : decode cJ3_checkIndex_8e157 11 = .ok (.iload_n 1, 1) := by decide +kernel
theorem dJ3_checkIndex_8e157_12 : decode cJ3_checkIndex_8e157 12 = .ok (.invokestatic 95, 3) := by decide +kernel
theorem dJ3_checkIndex_8e157_15 : decode cJ3_checkIndex_8e157 15 = .ok (.athrow, 1) := by decide +kernel
theorem dJ3_checkIndex_8e157_16 : decode cJ3_checkIndex_8e157 16 = .ok (.iload_n 0, 1) := by decide +kernel
theorem dJ3_checkIndex_8e157_17 : decode cJ3_checkIndex_8e157 17 = .ok (.ireturn, 1) := by decide +kernel
theorem dL_law_0 : decode cL_law 0 = .ok (.new 7, 3) := by decide +kernel
theorem dL_law_3 : decode cL_law 3 = .ok (.dup, 1) := by decide +kernel
theorem dL_law_4 : decode cL_law 4 = .ok (.invokespecial 9, 3) := by decide +kernel
theorem dL_law_7 : decode cL_law 7 = .ok (.astore_n 1, 1) := by decide +kernel
theorem dL_law_8 : decode cL_law 8 = .ok (.new 10, 3) := by decide +kernel
theorem dL_law_11 : decode cL_law 11 = .ok (.dup, 1) := by decide +kernel
theorem dL_law_12 : decode cL_law 12 = .ok (.invokespecial 12, 3) := by decide +kernel
theorem dL_law_15 : decode cL_law 15 = .ok (.astore_n 2, 1) := by decide +kernel
theorem dL_law_16 : decode cL_law 16 = .ok (.iconst 0, 1) := by decide +kernel
theorem dL_law_17 : decode cL_law 17 = .ok (.istore_n 3, 1) := by decide +kernel
theorem dL_law_18 : decode cL_law 18 = .ok (.iload_n 3, 1) := by decide +kernel
theorem dL_law_19 : decode cL_law 19 = .ok (.aload_n 0, 1) := by decide +kernel
theorem dL_law_20 : decode cL_law 20 = .ok (.arraylength, 1) := by decide +kernel
theorem dL_law_21 : decode cL_law 21 = .ok (.bipush 6, 2) := by decide +kernel
theorem dL_law_23 : decode cL_law 23 = .ok (.isub, 1) := by decide +kernel
theorem dL_law_24 : decode cL_law 24 = .ok (.if_icmp .gt 1310, 3) := by decide +kernel
theorem dL_law_27 : decode cL_law 27 = .ok (.aload_n 0, 1) := by decide +kernel
theorem dL_law_28 : decode cL_law 28 = .ok (.iload_n 3, 1) := by decide +kernel
theorem dL_law_29 : decode cL_law 29 = .ok (.iaload, 1) := by decide +kernel
theorem dL_law_30 : decode cL_law 30 = .ok (.bipush 63, 2) := by decide +kernel
theorem dL_law_32 : decode cL_law 32 = .ok (.iand, 1) := by decide +kernel
theorem dL_law_33 : decode cL_law 33 = .ok (.tableswitch 1295 0 36 #[163, 206, 239, 272, 305, 348, 391, 424, 457, 480, 503, 526, 549, 592, 635, 658, 691, 704, 727, 750, 793, 826, 849, 872, 905, 918, 931, 974, 1048, 1111, 1134, 1167, 1210, 1223, 1236, 1249, 1272], 163) := by decide +kernel
theorem dL_law_196 : decode cL_law 196 = .ok (.aload_n 1, 1) := by decide +kernel
theorem dL_law_197 : decode cL_law 197 = .ok (.aload_n 0, 1) := by decide +kernel
theorem dL_law_198 : decode cL_law 198 = .ok (.iload_n 3, 1) := by decide +kernel
theorem dL_law_199 : decode cL_law 199 = .ok (.iconst 1, 1) := by decide +kernel
theorem dL_law_200 : decode cL_law 200 = .ok (.iadd, 1) := by decide +kernel
theorem dL_law_201 : decode cL_law 201 = .ok (.iaload, 1) := by decide +kernel
theorem dL_law_202 : decode cL_law 202 = .ok (.aload_n 0, 1) := by decide +kernel
theorem dL_law_203 : decode cL_law 203 = .ok (.iload_n 3, 1) := by decide +kernel
theorem dL_law_204 : decode cL_law 204 = .ok (.iconst 2, 1) := by decide +kernel
theorem dL_law_205 : decode cL_law 205 = .ok (.iadd, 1) := by decide +kernel
theorem dL_law_206 : decode cL_law 206 = .ok (.iaload, 1) := by decide +kernel
theorem dL_law_207 : decode cL_law 207 = .ok (.aload_n 0, 1) := by decide +kernel
theorem dL_law_208 : decode cL_law 208 = .ok (.iload_n 3, 1) := by decide +kernel
theorem dL_law_209 : decode cL_law 209 = .ok (.iconst 3, 1) := by decide +kernel
theorem dL_law_210 : decode cL_law 210 = .ok (.iadd, 1) := by decide +kernel
theorem dL_law_211 : decode cL_law 211 = .ok (.iaload, 1) := by decide +kernel
theorem dL_law_212 : decode cL_law 212 = .ok (.invokevirtual 13, 3) := by decide +kernel
theorem dL_law_215 : decode cL_law 215 = .ok (.aload_n 2, 1) := by decide +kernel
theorem dL_law_216 : decode cL_law 216 = .ok (.aload_n 0, 1) := by decide +kernel
theorem dL_law_217 : decode cL_law 217 = .ok (.iload_n 3, 1) := by decide +kernel
theorem dL_law_218 : decode cL_law 218 = .ok (.iconst 1, 1) := by decide +kernel
theorem dL_law_219 : decode cL_law 219 = .ok (.iadd, 1) := by decide +kernel
theorem dL_law_220 : decode cL_law 220 = .ok (.iaload, 1) := by decide +kernel
theorem dL_law_221 : decode cL_law 221 = .ok (.aload_n 0, 1) := by decide +kernel
theorem dL_law_222 : decode cL_law 222 = .ok (.iload_n 3, 1) := by decide +kernel
theorem dL_law_223 : decode cL_law 223 = .ok (.iconst 2, 1) := by decide +kernel
theorem dL_law_224 : decode cL_law 224 = .ok (.iadd, 1) := by decide +kernel
theorem dL_law_225 : decode cL_law 225 = .ok (.iaload, 1) := by decide +kernel
theorem dL_law_226 : decode cL_law 226 = .ok (.aload_n 0, 1) := by decide +kernel
theorem dL_law_227 : decode cL_law 227 = .ok (.iload_n 3, 1) := by decide +kernel
theorem dL_law_228 : decode cL_law 228 = .ok (.iconst 3, 1) := by decide +kernel
theorem dL_law_229 : decode cL_law 229 = .ok (.iadd, 1) := by decide +kernel
theorem dL_law_230 : decode cL_law 230 = .ok (.iaload, 1) := by decide +kernel
theorem dL_law_231 : decode cL_law 231 = .ok (.invokevirtual 17, 3) := by decide +kernel
theorem dL_law_234 : decode cL_law 234 = .ok (.if_icmp .eq 1094, 3) := by decide +kernel
theorem dL_law_237 : decode cL_law 237 = .ok (.iconst 0, 1) := by decide +kernel
theorem dL_law_238 : decode cL_law 238 = .ok (.ireturn, 1) := by decide +kernel
theorem dL_law_239 : decode cL_law 239 = .ok (.aload_n 1, 1) := by decide +kernel
theorem dL_law_240 : decode cL_law 240 = .ok (.aload_n 0, 1) := by decide +kernel
theorem dL_law_241 : decode cL_law 241 = .ok (.iload_n 3, 1) := by decide +kernel
theorem dL_law_242 : decode cL_law 242 = .ok (.iconst 1, 1) := by decide +kernel
theorem dL_law_243 : decode cL_law 243 = .ok (.iadd, 1) := by decide +kernel
theorem dL_law_244 : decode cL_law 244 = .ok (.iaload, 1) := by decide +kernel
theorem dL_law_245 : decode cL_law 245 = .ok (.aload_n 0, 1) := by decide +kernel
theorem dL_law_246 : decode cL_law 246 = .ok (.iload_n 3, 1) := by decide +kernel
theorem dL_law_247 : decode cL_law 247 = .ok (.iconst 2, 1) := by decide +kernel
theorem dL_law_248 : decode cL_law 248 = .ok (.iadd, 1) := by decide +kernel
theorem dL_law_249 : decode cL_law 249 = .ok (.iaload, 1) := by decide +kernel
theorem dL_law_250 : decode cL_law 250 = .ok (.invokevirtual 18, 3) := by decide +kernel
theorem dL_law_253 : decode cL_law 253 = .ok (.aload_n 2, 1) := by decide +kernel
theorem dL_law_254 : decode cL_law 254 = .ok (.aload_n 0, 1) := by decide +kernel
theorem dL_law_255 : decode cL_law 255 = .ok (.iload_n 3, 1) := by decide +kernel
theorem dL_law_256 : decode cL_law 256 = .ok (.iconst 1, 1) := by decide +kernel
theorem dL_law_257 : decode cL_law 257 = .ok (.iadd, 1) := by decide +kernel
theorem dL_law_258 : decode cL_law 258 = .ok (.iaload, 1) := by decide +kernel
theorem dL_law_259 : decode cL_law 259 = .ok (.aload_n 0, 1) := by decide +kernel
theorem dL_law_260 : decode cL_law 260 = .ok (.iload_n 3, 1) := by decide +kernel
theorem dL_law_261 : decode cL_law 261 = .ok (.iconst 2, 1) := by decide +kernel
theorem dL_law_262 : decode cL_law 262 = .ok (.iadd, 1) := by decide +kernel
theorem dL_law_263 : decode cL_law 263 = .ok (.iaload, 1) := by decide +kernel
theorem dL_law_264 : decode cL_law 264 = .ok (.invokevirtual 22, 3) := by decide +kernel
theorem dL_law_267 : decode cL_law 267 = .ok (.if_icmp .eq 1061, 3) := by decide +kernel
theorem dL_law_270 : decode cL_law 270 = .ok (.iconst 0, 1) := by decide +kernel
theorem dL_law_271 : decode cL_law 271 = .ok (.ireturn, 1) := by decide +kernel
theorem dL_law_272 : decode cL_law 272 = .ok (.aload_n 1, 1) := by decide +kernel
theorem dL_law_273 : decode cL_law 273 = .ok (.aload_n 0, 1) := by decide +kernel
theorem dL_law_274 : decode cL_law 274 = .ok (.iload_n 3, 1) := by decide +kernel
theorem dL_law_275 : decode cL_law 275 = .ok (.iconst 1, 1) := by decide +kernel
theorem dL_law_276 : decode cL_law 276 = .ok (.iadd, 1) := by decide +kernel
theorem dL_law_277 : decode cL_law 277 = .ok (.iaload, 1) := by decide +kernel
theorem dL_law_278 : decode cL_law 278 = .ok (.aload_n 0, 1) := by decide +kernel
theorem dL_law_279 : decode cL_law 279 = .ok (.iload_n 3, 1) := by decide +kernel
theorem dL_law_280 : decode cL_law 280 = .ok (.iconst 2, 1) := by decide +kernel
theorem dL_law_281 : decode cL_law 281 = .ok (.iadd, 1) := by decide +kernel
theorem dL_law_282 : decode cL_law 282 = .ok (.iaload, 1) := by decide +kernel
theorem dL_law_283 : decode cL_law 283 = .ok (.invokevirtual 23, 3) := by decide +kernel
theorem dL_law_286 : decode cL_law 286 = .ok (.aload_n 2, 1) := by decide +kernel
theorem dL_law_287 : decode cL_law 287 = .ok (.aload_n 0, 1) := by decide +kernel
theorem dL_law_288 : decode cL_law 288 = .ok (.iload_n 3, 1) := by decide +kernel
theorem dL_law_289 : decode cL_law 289 = .ok (.iconst 1, 1) := by decide +kernel
theorem dL_law_290 : decode cL_law 290 = .ok (.iadd, 1) := by decide +kernel
theorem dL_law_291 : decode cL_law 291 = .ok (.iaload, 1) := by decide +kernel
theorem dL_law_292 : decode cL_law 292 = .ok (.aload_n 0, 1) := by decide +kernel
theorem dL_law_293 : decode cL_law 293 = .ok (.iload_n 3, 1) := by decide +kernel
theorem dL_law_294 : decode cL_law 294 = .ok (.iconst 2, 1) := by decide +kernel
theorem dL_law_295 : decode cL_law 295 = .ok (.iadd, 1) := by decide +kernel
theorem dL_law_296 : decode cL_law 296 = .ok (.iaload, 1) := by decide +kernel
theorem dL_law_297 : decode cL_law 297 = .ok (.invokevirtual 26, 3) := by decide +kernel
theorem dL_law_300 : decode cL_law 300 = .ok (.if_icmp .eq 1028, 3) := by decide +kernel
theorem dL_law_303 : decode cL_law 303 = .ok (.iconst 0, 1) := by decide +kernel
theorem dL_law_304 : decode cL_law 304 = .ok (.ireturn, 1) := by decide +kernel
theorem dL_law_305 : decode cL_law 305 = .ok (.aload_n 1, 1) := by decide +kernel
theorem dL_law_306 : decode cL_law 306 = .ok (.aload_n 0, 1) := by decide +kernel
theorem dL_law_307 : decode cL_law 307 = .ok (.iload_n 3, 1) := by decide +kernel
theorem dL_law_308 : decode cL_law 308 = .ok (.iconst 1, 1) := by decide +kernel
theorem dL_law_309 : decode cL_law 309 = .ok (.iadd, 1) := by decide +kernel
theorem dL_law_310 : decode cL_law 310 = .ok (.iaload, 1) := by decide +kernel
theorem dL_law_311 : decode cL_law 311 = .ok (.aload_n 0, 1) := by decide +kernel
theorem dL_law_312 : decode cL_law 312 = .ok (.iload_n 3, 1) := by decide +kernel
theorem dL_law_313 : decode cL_law 313 = .ok (.iconst 2, 1) := by decide +kernel
theorem dL_law_314 : decode cL_law 314 = .ok (.iadd, 1) := by decide +kernel
theorem dL_law_315 : decode cL_law 315 = .ok (.iaload, 1) := by decide +kernel
theorem dL_law_316 : decode cL_law 316 = .ok (.invokevirtual 27, 3) := by decide +kernel
theorem dL_law_319 : decode cL_law 319 = .ok (.aload_n 2, 1) := by decide +kernel
theorem dL_law_320 : decode cL_law 320 = .ok (.aload_n 0, 1) := by decide +kernel
theorem dL_law_321 : decode cL_law 321 = .ok (.iload_n 3, 1) := by decide +kernel
theorem dL_law_322 : decode cL_law 322 = .ok (.iconst 1, 1) := by decide +kernel
theorem dL_law_323 : decode cL_law 323 = .ok (.iadd, 1) := by decide +kernel
theorem dL_law_324 : decode cL_law 324 = .ok (.iaload, 1) := by decide +kernel
theorem dL_law_325 : decode cL_law 325 = .ok (.aload_n 0, 1) := by decide +kernel
theorem dL_law_326 : decode cL_law 326 = .ok (.iload_n 3, 1) := by decide +kernel
theorem dL_law_327 : decode cL_law 327 = .ok (.iconst 2, 1) := by decide +kernel
theorem dL_law_328 : decode cL_law 328 = .ok (.iadd, 1) := by decide +kernel
theorem dL_law_329 : decode cL_law 329 = .ok (.iaload, 1) := by decide +kernel
theorem dL_law_330 : decode cL_law 330 = .ok (.invokevirtual 30, 3) := by decide +kernel
theorem dL_law_333 : decode cL_law 333 = .ok (.if_icmp .eq 995, 3) := by decide +kernel
theorem dL_law_336 : decode cL_law 336 = .ok (.iconst 0, 1) := by decide +kernel
theorem dL_law_337 : decode cL_law 337 = .ok (.ireturn, 1) := by decide +kernel
theorem dL_law_338 : decode cL_law 338 = .ok (.aload_n 1, 1) := by decide +kernel
theorem dL_law_339 : decode cL_law 339 = .ok (.aload_n 0, 1) := by decide +kernel
theorem dL_law_340 : decode cL_law 340 = .ok (.iload_n 3, 1) := by decide +kernel
theorem dL_law_341 : decode cL_law 341 = .ok (.iconst 1, 1) := by decide +kernel
theorem dL_law_342 : decode cL_law 342 = .ok (.iadd, 1) := by decide +kernel
theorem dL_law_343 : decode cL_law 343 = .ok (.iaload, 1) := by decide +kernel
theorem dL_law_344 : decode cL_law 344 = .ok (.aload_n 0, 1) := by decide +kernel
theorem dL_law_345 : decode cL_law 345 = .ok (.iload_n 3, 1) := by decide +kernel
theorem dL_law_346 : decode cL_law 346 = .ok (.iconst 2, 1) := by decide +kernel
theorem dL_law_347 : decode cL_law 347 = .ok (.iadd, 1) := by decide +kernel
theorem dL_law_348 : decode cL_law 348 = .ok (.iaload, 1) := by decide +kernel
theorem dL_law_349 : decode cL_law 349 = .ok (.aload_n 0, 1) := by decide +kernel
theorem dL_law_350 : decode cL_law 350 = .ok (.iload_n 3, 1) := by decide +kernel
theorem dL_law_351 : decode cL_law 351 = .ok (.iconst 3, 1) := by decide +kernel
theorem dL_law_352 : decode cL_law 352 = .ok (.iadd, 1) := by decide +kernel
theorem dL_law_353 : decode cL_law 353 = .ok (.iaload, 1) := by decide +kernel
theorem dL_law_354 : decode cL_law 354 = .ok (.invokevirtual 31, 3) := by decide +kernel
theorem dL_law_357 : decode cL_law 357 = .ok (.aload_n 2, 1) := by decide +kernel
theorem dL_law_358 : decode cL_law 358 = .ok (.aload_n 0, 1) := by decide +kernel
theorem dL_law_359 : decode cL_law 359 = .ok (.iload_n 3, 1) := by decide +kernel
theorem dL_law_360 : decode cL_law 360 = .ok (.iconst 1, 1) := by decide +kernel
theorem dL_law_361 : decode cL_law 361 = .ok (.iadd, 1) := by decide +kernel
theorem dL_law_362 : decode cL_law 362 = .ok (.iaload, 1) := by decide +kernel
theorem dL_law_363 : decode cL_law 363 = .ok (.aload_n 0, 1) := by decide +kernel
theorem dL_law_364 : decode cL_law 364 = .ok (.iload_n 3, 1) := by decide +kernel
theorem dL_law_365 : decode cL_law 365 = .ok (.iconst 2, 1) := by decide +kernel
theorem dL_law_366 : decode cL_law 366 = .ok (.iadd, 1) := by decide +kernel
theorem dL_law_367 : decode cL_law 367 = .ok (.iaload, 1) := by decide +kernel
theorem dL_law_368 : decode cL_law 368 = .ok (.aload_n 0, 1) := by decide +kernel
theorem dL_law_369 : decode cL_law 369 = .ok (.iload_n 3, 1) := by decide +kernel
theorem dL_law_370 : decode cL_law 370 = .ok (.iconst 3, 1) := by decide +kernel
theorem dL_law_371 : decode cL_law 371 = .ok (.iadd, 1) := by decide +kernel
theorem dL_law_372 : decode cL_law 372 = .ok (.iaload, 1) := by decide +kernel
theorem dL_law_373 : decode cL_law 373 = .ok (.invokevirtual 34, 3) := by decide +kernel
theorem dL_law_376 : decode cL_law 376 = .ok (.if_icmp .eq 952, 3) := by decide +kernel
theorem dL_law_379 : decode cL_law 379 = .ok (.iconst 0, 1) := by decide +kernel
theorem dL_law_380 : decode cL_law 380 = .ok (.ireturn, 1) := by decide +kernel
theorem dL_law_381 : decode cL_law 381 = .ok (.aload_n 1, 1) := by decide +kernel
theorem dL_law_382 : decode cL_law 382 = .ok (.aload_n 0, 1) := by decide +kernel
theorem dL_law_383 : decode cL_law 383 = .ok (.iload_n 3, 1) := by decide +kernel
theorem dL_law_384 : decode cL_law 384 = .ok (.iconst 1, 1) := by decide +kernel
theorem dL_law_385 : decode cL_law 385 = .ok (.iadd, 1) := by decide +kernel
theorem dL_law_386 : decode cL_law 386 = .ok (.iaload, 1) := by decide +kernel
theorem dL_law_387 : decode cL_law 387 = .ok (.aload_n 0, 1) := by decide +kernel
theorem dL_law_388 : decode cL_law 388 = .ok (.iload_n 3, 1) := by decide +kernel
theorem dL_law_389 : decode cL_law 389 = .ok (.iconst 2, 1) := by decide +kernel
theorem dL_law_390 : decode cL_law 390 = .ok (.iadd, 1) := by decide +kernel
theorem dL_law_391 : decode cL_law 391 = .ok (.iaload, 1) := by decide +kernel
theorem dL_law_392 : decode cL_law 392 = .ok (.aload_n 0, 1) := by decide +kernel
theorem dL_law_393 : decode cL_law 393 = .ok (.iload_n 3, 1) := by decide +kernel
theorem dL_law_394 : decode cL_law 394 = .ok (.iconst 3, 1) := by decide +kernel
theorem dL_law_395 : decode cL_law 395 = .ok (.iadd, 1) := by decide +kernel
theorem dL_law_396 : decode cL_law 396 = .ok (.iaload, 1) := by decide +kernel
theorem dL_law_397 : decode cL_law 397 = .ok (.invokevirtual 35, 3) := by decide +kernel
theorem dL_law_400 : decode cL_law 400 = .ok (.aload_n 2, 1) := by decide +kernel
theorem dL_law_401 : decode cL_law 401 = .ok (.aload_n 0, 1) := by decide +kernel
theorem dL_law_402 : decode cL_law 402 = .ok (.iload_n 3, 1) := by decide +kernel
theorem dL_law_403 : decode cL_law 403 = .ok (.iconst 1, 1) := by decide +kernel
theorem dL_law_404 : decode cL_law 404 = .ok (.iadd, 1) := by decide +kernel
theorem dL_law_405 : decode cL_law 405 = .ok (.iaload, 1) := by decide +kernel
theorem dL_law_406 : decode cL_law 406 = .ok (.aload_n 0, 1) := by decide +kernel
theorem dL_law_407 : decode cL_law 407 = .ok (.iload_n 3, 1) := by decide +kernel
theorem dL_law_408 : decode cL_law 408 = .ok (.iconst 2, 1) := by decide +kernel
theorem dL_law_409 : decode cL_law 409 = .ok (.iadd, 1) := by decide +kernel
theorem dL_law_410 : decode cL_law 410 = .ok (.iaload, 1) := by decide +kernel
theorem dL_law_411 : decode cL_law 411 = .ok (.aload_n 0, 1) := by decide +kernel
theorem dL_law_412 : decode cL_law 412 = .ok (.iload_n 3, 1) := by decide +kernel
theorem dL_law_413 : decode cL_law 413 = .ok (.iconst 3, 1) := by decide +kernel
theorem dL_law_414 : decode cL_law 414 = .ok (.iadd, 1) := by decide +kernel
theorem dL_law_415 : decode cL_law 415 = .ok (.iaload, 1) := by decide +kernel
theorem dL_law_416 : decode cL_law 416 = .ok (.invokevirtual 38, 3) := by decide +kernel
theorem dL_law_419 : decode cL_law 419 = .ok (.if_icmp .eq 909, 3) := by decide +kernel
theorem dL_law_422 : decode cL_law 422 = .ok (.iconst 0, 1) := by decide +kernel
theorem dL_law_423 : decode cL_law 423 = .ok (.ireturn, 1) := by decide +kernel
theorem dL_law_424 : decode cL_law 424 = .ok (.aload_n 1, 1) := by decide +kernel
theorem dL_law_425 : decode cL_law 425 = .ok (.aload_n 0, 1) := by decide +kernel
theorem dL_law_426 : decode cL_law 426 = .ok (.iload_n 3, 1) := by decide +kernel
theorem dL_law_427 : decode cL_law 427 = .ok (.iconst 1, 1) := by decide +kernel
theorem dL_law_428 : decode cL_law 428 = .ok (.iadd, 1) := by decide +kernel
theorem dL_law_429 : decode cL_law 429 = .ok (.iaload, 1) := by decide +kernel
theorem dL_law_430 : decode cL_law 430 = .ok (.aload_n 0, 1) := by decide +kernel
theorem dL_law_431 : decode cL_law 431 = .ok (.iload_n 3, 1) := by decide +kernel
theorem dL_law_432 : decode cL_law 432 = .ok (.iconst 2, 1) := by decide +kernel
theorem dL_law_433 : decode cL_law 433 = .ok (.iadd, 1) := by decide +kernel
theorem dL_law_434 : decode cL_law 434 = .ok (.iaload, 1) := by decide +kernel
theorem dL_law_435 : decode cL_law 435 = .ok (.invokevirtual 39, 3) := by decide +kernel
theorem dL_law_438 : decode cL_law 438 = .ok (.aload_n 2, 1) := by decide +kernel
theorem dL_law_439 : decode cL_law 439 = .ok (.aload_n 0, 1) := by decide +kernel
theorem dL_law_440 : decode cL_law 440 = .ok (.iload_n 3, 1) := by decide +kernel
theorem dL_law_441 : decode cL_law 441 = .ok (.iconst 1, 1) := by decide +kernel
theorem dL_law_442 : decode cL_law 442 = .ok (.iadd, 1) := by decide +kernel
theorem dL_law_443 : decode cL_law 443 = .ok (.iaload, 1) := by decide +kernel
theorem dL_law_444 : decode cL_law 444 = .ok (.aload_n 0, 1) := by decide +kernel
theorem dL_law_445 : decode cL_law 445 = .ok (.iload_n 3, 1) := by decide +kernel
theorem dL_law_446 : decode cL_law 446 = .ok (.iconst 2, 1) := by decide +kernel
theorem dL_law_447 : decode cL_law 447 = .ok (.iadd, 1) := by decide +kernel
theorem dL_law_448 : decode cL_law 448 = .ok (.iaload, 1) := by decide +kernel
theorem dL_law_449 : decode cL_law 449 = .ok (.invokevirtual 42, 3) := by decide +kernel
theorem dL_law_452 : decode cL_law 452 = .ok (.if_icmp .eq 876, 3) := by decide +kernel
theorem dL_law_455 : decode cL_law 455 = .ok (.iconst 0, 1) := by decide +kernel
theorem dL_law_456 : decode cL_law 456 = .ok (.ireturn, 1) := by decide +kernel
theorem dL_law_457 : decode cL_law 457 = .ok (.aload_n 1, 1) := by decide +kernel
theorem dL_law_458 : decode cL_law 458 = .ok (.aload_n 0, 1) := by decide +kernel
theorem dL_law_459 : decode cL_law 459 = .ok (.iload_n 3, 1) := by decide +kernel
theorem dL_law_460 : decode cL_law 460 = .ok (.iconst 1, 1) := by decide +kernel
theorem dL_law_461 : decode cL_law 461 = .ok (.iadd, 1) := by decide +kernel
theorem dL_law_462 : decode cL_law 462 = .ok (.iaload, 1) := by decide +kernel
theorem dL_law_463 : decode cL_law 463 = .ok (.aload_n 0, 1) := by decide +kernel
theorem dL_law_464 : decode cL_law 464 = .ok (.iload_n 3, 1) := by decide +kernel
theorem dL_law_465 : decode cL_law 465 = .ok (.iconst 2, 1) := by decide +kernel
theorem dL_law_466 : decode cL_law 466 = .ok (.iadd, 1) := by decide +kernel
theorem dL_law_467 : decode cL_law 467 = .ok (.iaload, 1) := by decide +kernel
theorem dL_law_468 : decode cL_law 468 = .ok (.invokevirtual 43, 3) := by decide +kernel
theorem dL_law_471 : decode cL_law 471 = .ok (.aload_n 2, 1) := by decide +kernel
theorem dL_law_472 : decode cL_law 472 = .ok (.aload_n 0, 1) := by decide +kernel
theorem dL_law_473 : decode cL_law 473 = .ok (.iload_n 3, 1) := by decide +kernel
theorem dL_law_474 : decode cL_law 474 = .ok (.iconst 1, 1) := by decide +kernel
theorem dL_law_475 : decode cL_law 475 = .ok (.iadd, 1) := by decide +kernel
theorem dL_law_476 : decode cL_law 476 = .ok (.iaload, 1) := by decide +kernel
theorem dL_law_477 : decode cL_law 477 = .ok (.aload_n 0, 1) := by decide +kernel
theorem dL_law_478 : decode cL_law 478 = .ok (.iload_n 3, 1) := by decide +kernel
theorem dL_law_479 : decode cL_law 479 = .ok (.iconst 2, 1) := by decide +kernel
theorem dL_law_480 : decode cL_law 480 = .ok (.iadd, 1) := by decide +kernel
theorem dL_law_481 : decode cL_law 481 = .ok (.iaload, 1) := by decide +kernel
theorem dL_law_482 : decode cL_law 482 = .ok (.invokevirtual 46, 3) := by decide +kernel
theorem dL_law_485 : decode cL_law 485 = .ok (.if_icmp .eq 843, 3) := by decide +kernel
theorem dL_law_488 : decode cL_law 488 = .ok (.iconst 0, 1) := by decide +kernel
theorem dL_law_489 : decode cL_law 489 = .ok (.ireturn, 1) := by decide +kernel
theorem dL_law_490 : decode cL_law 490 = .ok (.aload_n 1, 1) := by decide +kernel
theorem dL_law_491 : decode cL_law 491 = .ok (.aload_n 0, 1) := by decide +kernel
theorem dL_law_492 : decode cL_law 492 = .ok (.iload_n 3, 1) := by decide +kernel
theorem dL_law_493 : decode cL_law 493 = .ok (.iconst 1, 1) := by decide +kernel
theorem dL_law_494 : decode cL_law 494 = .ok (.iadd, 1) := by decide +kernel
theorem dL_law_495 : decode cL_law 495 = .ok (.iaload, 1) := by decide +kernel
theorem dL_law_496 : decode cL_law 496 = .ok (.invokevirtual 47, 3) := by decide +kernel
theorem dL_law_499 : decode cL_law 499 = .ok (.aload_n 2, 1) := by decide +kernel
theorem dL_law_500 : decode cL_law 500 = .ok (.aload_n 0, 1) := by decide +kernel
theorem dL_law_501 : decode cL_law 501 = .ok (.iload_n 3, 1) := by decide +kernel
theorem dL_law_502 : decode cL_law 502 = .ok (.iconst 1, 1) := by decide +kernel
theorem dL_law_503 : decode cL_law 503 = .ok (.iadd, 1) := by decide +kernel
theorem dL_law_504 : decode cL_law 504 = .ok (.iaload, 1) := by decide +kernel
theorem dL_law_505 : decode cL_law 505 = .ok (.invokevirtual 51, 3) := by decide +kernel
theorem dL_law_508 : decode cL_law 508 = .ok (.if_icmp .eq 820, 3) := by decide +kernel
theorem dL_law_511 : decode cL_law 511 = .ok (.iconst 0, 1) := by decide +kernel
theorem dL_law_512 : decode cL_law 512 = .ok (.ireturn, 1) := by decide +kernel
theorem dL_law_513 : decode cL_law 513 = .ok (.aload_n 1, 1) := by decide +kernel
theorem dL_law_514 : decode cL_law 514 = .ok (.aload_n 0, 1) := by decide +kernel
theorem dL_law_515 : decode cL_law 515 = .ok (.iload_n 3, 1) := by decide +kernel
theorem dL_law_516 : decode cL_law 516 = .ok (.iconst 1, 1) := by decide +kernel
theorem dL_law_517 : decode cL_law 517 = .ok (.iadd, 1) := by decide +kernel
theorem dL_law_518 : decode cL_law 518 = .ok (.iaload, 1) := by decide +kernel
theorem dL_law_519 : decode cL_law 519 = .ok (.invokevirtual 52, 3) := by decide +kernel
theorem dL_law_522 : decode cL_law 522 = .ok (.aload_n 2, 1) := by decide +kernel
theorem dL_law_523 : decode cL_law 523 = .ok (.aload_n 0, 1) := by decide +kernel
theorem dL_law_524 : decode cL_law 524 = .ok (.iload_n 3, 1) := by decide +kernel
theorem dL_law_525 : decode cL_law 525 = .ok (.iconst 1, 1) := by decide +kernel
theorem dL_law_526 : decode cL_law 526 = .ok (.iadd, 1) := by decide +kernel
theorem dL_law_527 : decode cL_law 527 = .ok (.iaload, 1) := by decide +kernel
theorem dL_law_528 : decode cL_law 528 = .ok (.invokevirtual 55, 3) := by decide +kernel
theorem dL_law_531 : decode cL_law 531 = .ok (.if_icmp .eq 797, 3) := by decide +kernel
theorem dL_law_534 : decode cL_law 534 = .ok (.iconst 0, 1) := by decide +kernel
theorem dL_law_535 : decode cL_law 535 = .ok (.ireturn, 1) := by decide +kernel
theorem dL_law_536 : decode cL_law 536 = .ok (.aload_n 1, 1) := by decide +kernel
theorem dL_law_537 : decode cL_law 537 = .ok (.aload_n 0, 1) := by decide +kernel
theorem dL_law_538 : decode cL_law 538 = .ok (.iload_n 3, 1) := by decide +kernel
theorem dL_law_539 : decode cL_law 539 = .ok (.iconst 1, 1) := by decide +kernel
theorem dL_law_540 : decode cL_law 540 = .ok (.iadd, 1) := by decide +kernel
theorem dL_law_541 : decode cL_law 541 = .ok (.iaload, 1) := by decide +kernel
theorem dL_law_542 : decode cL_law 542 = .ok (.invokevirtual 56, 3) := by decide +kernel
theorem dL_law_545 : decode cL_law 545 = .ok (.aload_n 2, 1) := by decide +kernel
theorem dL_law_546 : decode cL_law 546 = .ok (.aload_n 0, 1) := by decide +kernel
theorem dL_law_547 : decode cL_law 547 = .ok (.iload_n 3, 1) := by decide +kernel
theorem dL_law_548 : decode cL_law 548 = .ok (.iconst 1, 1) := by decide +kernel
theorem dL_law_549 : decode cL_law 549 = .ok (.iadd, 1) := by decide +kernel
theorem dL_law_550 : decode cL_law 550 = .ok (.iaload, 1) := by decide +kernel
theorem dL_law_551 : decode cL_law 551 = .ok (.invokevirtual 59, 3) := by decide +kernel
theorem dL_law_554 : decode cL_law 554 = .ok (.if_icmp .eq 774, 3) := by decide +kernel
theorem dL_law_557 : decode cL_law 557 = .ok (.iconst 0, 1) := by decide +kernel
theorem dL_law_558 : decode cL_law 558 = .ok (.ireturn, 1) := by decide +kernel
theorem dL_law_559 : decode cL_law 559 = .ok (.aload_n 1, 1) := by decide +kernel
theorem dL_law_560 : decode cL_law 560 = .ok (.aload_n 0, 1) := by decide +kernel
theorem dL_law_561 : decode cL_law 561 = .ok (.iload_n 3, 1) := by decide +kernel
theorem dL_law_562 : decode cL_law 562 = .ok (.iconst 1, 1) := by decide +kernel
theorem dL_law_563 : decode cL_law 563 = .ok (.iadd, 1) := by decide +kernel
theorem dL_law_564 : decode cL_law 564 = .ok (.iaload, 1) := by decide +kernel
theorem dL_law_565 : decode cL_law 565 = .ok (.invokevirtual 60, 3) := by decide +kernel
theorem dL_law_568 : decode cL_law 568 = .ok (.aload_n 2, 1) := by decide +kernel
theorem dL_law_569 : decode cL_law 569 = .ok (.aload_n 0, 1) := by decide +kernel
theorem dL_law_570 : decode cL_law 570 = .ok (.iload_n 3, 1) := by decide +kernel
theorem dL_law_571 : decode cL_law 571 = .ok (.iconst 1, 1) := by decide +kernel
theorem dL_law_572 : decode cL_law 572 = .ok (.iadd, 1) := by decide +kernel
theorem dL_law_573 : decode cL_law 573 = .ok (.iaload, 1) := by decide +kernel
theorem dL_law_574 : decode cL_law 574 = .ok (.invokevirtual 63, 3) := by decide +kernel
theorem dL_law_577 : decode cL_law 577 = .ok (.if_icmp .eq 751, 3) := by decide +kernel
theorem dL_law_580 : decode cL_law 580 = .ok (.iconst 0, 1) := by decide +kernel
theorem dL_law_581 : decode cL_law 581 = .ok (.ireturn, 1) := by decide +kernel
theorem dL_law_582 : decode cL_law 582 = .ok (.aload_n 1, 1) := by decide +kernel
theorem dL_law_583 : decode cL_law 583 = .ok (.aload_n 0, 1) := by decide +kernel
theorem dL_law_584 : decode cL_law 584 = .ok (.iload_n 3, 1) := by decide +kernel
theorem dL_law_585 : decode cL_law 585 = .ok (.iconst 1, 1) := by decide +kernel
theorem dL_law_586 : decode cL_law 586 = .ok (.iadd, 1) := by decide +kernel
theorem dL_law_587 : decode cL_law 587 = .ok (.iaload, 1) := by decide +kernel
theorem dL_law_588 : decode cL_law 588 = .ok (.aload_n 0, 1) := by decide +kernel
theorem dL_law_589 : decode cL_law 589 = .ok (.iload_n 3, 1) := by decide +kernel
theorem dL_law_590 : decode cL_law 590 = .ok (.iconst 2, 1) := by decide +kernel
theorem dL_law_591 : decode cL_law 591 = .ok (.iadd, 1) := by decide +kernel
theorem dL_law_592 : decode cL_law 592 = .ok (.iaload, 1) := by decide +kernel
theorem dL_law_593 : decode cL_law 593 = .ok (.aload_n 0, 1) := by decide +kernel
theorem dL_law_594 : decode cL_law 594 = .ok (.iload_n 3, 1) := by decide +kernel
theorem dL_law_595 : decode cL_law 595 = .ok (.iconst 3, 1) := by decide +kernel
theorem dL_law_596 : decode cL_law 596 = .ok (.iadd, 1) := by decide +kernel
theorem dL_law_597 : decode cL_law 597 = .ok (.iaload, 1) := by decide +kernel
theorem dL_law_598 : decode cL_law 598 = .ok (.invokevirtual 64, 3) := by decide +kernel
theorem dL_law_601 : decode cL_law 601 = .ok (.aload_n 2, 1) := by decide +kernel
theorem dL_law_602 : decode cL_law 602 = .ok (.aload_n 0, 1) := by decide +kernel
theorem dL_law_603 : decode cL_law 603 = .ok (.iload_n 3, 1) := by decide +kernel
theorem dL_law_604 : decode cL_law 604 = .ok (.iconst 1, 1) := by decide +kernel
theorem dL_law_605 : decode cL_law 605 = .ok (.iadd, 1) := by decide +kernel
theorem dL_law_606 : decode cL_law 606 = .ok (.iaload, 1) := by decide +kernel
theorem dL_law_607 : decode cL_law 607 = .ok (.aload_n 0, 1) := by decide +kernel
theorem dL_law_608 : decode cL_law 608 = .ok (.iload_n 3, 1) := by decide +kernel
theorem dL_law_609 : decode cL_law 609 = .ok (.iconst 2, 1) := by decide +kernel
theorem dL_law_610 : decode cL_law 610 = .ok (.iadd, 1) := by decide +kernel
theorem dL_law_611 : decode cL_law 611 = .ok (.iaload, 1) := by decide +kernel
theorem dL_law_612 : decode cL_law 612 = .ok (.aload_n 0, 1) := by decide +kernel
theorem dL_law_613 : decode cL_law 613 = .ok (.iload_n 3, 1) := by decide +kernel
theorem dL_law_614 : decode cL_law 614 = .ok (.iconst 3, 1) := by decide +kernel
theorem dL_law_615 : decode cL_law 615 = .ok (.iadd, 1) := by decide +kernel
theorem dL_law_616 : decode cL_law 616 = .ok (.iaload, 1) := by decide +kernel
theorem dL_law_617 : decode cL_law 617 = .ok (.invokevirtual 67, 3) := by decide +kernel
theorem dL_law_620 : decode cL_law 620 = .ok (.if_icmp .eq 708, 3) := by decide +kernel
theorem dL_law_623 : decode cL_law 623 = .ok (.iconst 0, 1) := by decide +kernel
theorem dL_law_624 : decode cL_law 624 = .ok (.ireturn, 1) := by decide +kernel
theorem dL_law_625 : decode cL_law 625 = .ok (.aload_n 1, 1) := by decide +kernel
theorem dL_law_626 : decode cL_law 626 = .ok (.aload_n 0, 1) := by decide +kernel
theorem dL_law_627 : decode cL_law 627 = .ok (.iload_n 3, 1) := by decide +kernel
theorem dL_law_628 : decode cL_law 628 = .ok (.iconst 1, 1) := by decide +kernel
theorem dL_law_629 : decode cL_law 629 = .ok (.iadd, 1) := by decide +kernel
theorem dL_law_630 : decode cL_law 630 = .ok (.iaload, 1) := by decide +kernel
theorem dL_law_631 : decode cL_law 631 = .ok (.aload_n 0, 1) := by decide +kernel
theorem dL_law_632 : decode cL_law 632 = .ok (.iload_n 3, 1) := by decide +kernel
theorem dL_law_633 : decode cL_law 633 = .ok (.iconst 2, 1) := by decide +kernel
theorem dL_law_634 : decode cL_law 634 = .ok (.iadd, 1) := by decide +kernel
theorem dL_law_635 : decode cL_law 635 = .ok (.iaload, 1) := by decide +kernel
theorem dL_law_636 : decode cL_law 636 = .ok (.aload_n 0, 1) := by decide +kernel
theorem dL_law_637 : decode cL_law 637 = .ok (.iload_n 3, 1) := by decide +kernel
theorem dL_law_638 : decode cL_law 638 = .ok (.iconst 3, 1) := by decide +kernel
theorem dL_law_639 : decode cL_law 639 = .ok (.iadd, 1) := by decide +kernel
theorem dL_law_640 : decode cL_law 640 = .ok (.iaload, 1) := by decide +kernel
theorem dL_law_641 : decode cL_law 641 = .ok (.invokevirtual 68, 3) := by decide +kernel
theorem dL_law_644 : decode cL_law 644 = .ok (.aload_n 2, 1) := by decide +kernel
theorem dL_law_645 : decode cL_law 645 = .ok (.aload_n 0, 1) := by decide +kernel
theorem dL_law_646 : decode cL_law 646 = .ok (.iload_n 3, 1) := by decide +kernel
theorem dL_law_647 : decode cL_law 647 = .ok (.iconst 1, 1) := by decide +kernel
theorem dL_law_648 : decode cL_law 648 = .ok (.iadd, 1) := by decide +kernel
theorem dL_law_649 : decode cL_law 649 = .ok (.iaload, 1) := by decide +kernel
theorem dL_law_650 : decode cL_law 650 = .ok (.aload_n 0, 1) := by decide +kernel
theorem dL_law_651 : decode cL_law 651 = .ok (.iload_n 3, 1) := by decide +kernel
theorem dL_law_652 : decode cL_law 652 = .ok (.iconst 2, 1) := by decide +kernel
theorem dL_law_653 : decode cL_law 653 = .ok (.iadd, 1) := by decide +kernel
theorem dL_law_654 : decode cL_law 654 = .ok (.iaload, 1) := by decide +kernel
theorem dL_law_655 : decode cL_law 655 = .ok (.aload_n 0, 1) := by decide +kernel
theorem dL_law_656 : decode cL_law 656 = .ok (.iload_n 3, 1) := by decide +kernel
theorem dL_law_657 : decode cL_law 657 = .ok (.iconst 3, 1) := by decide +kernel
theorem dL_law_658 : decode cL_law 658 = .ok (.iadd, 1) := by decide +kernel
theorem dL_law_659 : decode cL_law 659 = .ok (.iaload, 1) := by decide +kernel
theorem dL_law_660 : decode cL_law 660 = .ok (.invokevirtual 71, 3) := by decide +kernel
theorem dL_law_663 : decode cL_law 663 = .ok (.if_icmp .eq 665, 3) := by decide +kernel
theorem dL_law_666 : decode cL_law 666 = .ok (.iconst 0, 1) := by decide +kernel
theorem dL_law_667 : decode cL_law 667 = .ok (.ireturn, 1) := by decide +kernel
theorem dL_law_668 : decode cL_law 668 = .ok (.aload_n 1, 1) := by decide +kernel
theorem dL_law_669 : decode cL_law 669 = .ok (.aload_n 0, 1) := by decide +kernel
theorem dL_law_670 : decode cL_law 670 = .ok (.iload_n 3, 1) := by decide +kernel
theorem dL_law_671 : decode cL_law 671 = .ok (.iconst 1, 1) := by decide +kernel
theorem dL_law_672 : decode cL_law 672 = .ok (.iadd, 1) := by decide +kernel
theorem dL_law_673 : decode cL_law 673 = .ok (.iaload, 1) := by decide +kernel
theorem dL_law_674 : decode cL_law 674 = .ok (.invokevirtual 72, 3) := by decide +kernel
theorem dL_law_677 : decode cL_law 677 = .ok (.aload_n 2, 1) := by decide +kernel
theorem dL_law_678 : decode cL_law 678 = .ok (.aload_n 0, 1) := by decide +kernel
theorem dL_law_679 : decode cL_law 679 = .ok (.iload_n 3, 1) := by decide +kernel
theorem dL_law_680 : decode cL_law 680 = .ok (.iconst 1, 1) := by decide +kernel
theorem dL_law_681 : decode cL_law 681 = .ok (.iadd, 1) := by decide +kernel
theorem dL_law_682 : decode cL_law 682 = .ok (.iaload, 1) := by decide +kernel
theorem dL_law_683 : decode cL_law 683 = .ok (.invokevirtual 75, 3) := by decide +kernel
theorem dL_law_686 : decode cL_law 686 = .ok (.if_icmp .eq 642, 3) := by decide +kernel
theorem dL_law_689 : decode cL_law 689 = .ok (.iconst 0, 1) := by decide +kernel
theorem dL_law_690 : decode cL_law 690 = .ok (.ireturn, 1) := by decide +kernel
theorem dL_law_691 : decode cL_law 691 = .ok (.aload_n 1, 1) := by decide +kernel
theorem dL_law_692 : decode cL_law 692 = .ok (.aload_n 0, 1) := by decide +kernel
theorem dL_law_693 : decode cL_law 693 = .ok (.iload_n 3, 1) := by decide +kernel
theorem dL_law_694 : decode cL_law 694 = .ok (.iconst 1, 1) := by decide +kernel
theorem dL_law_695 : decode cL_law 695 = .ok (.iadd, 1) := by decide +kernel
theorem dL_law_696 : decode cL_law 696 = .ok (.iaload, 1) := by decide +kernel
theorem dL_law_697 : decode cL_law 697 = .ok (.aload_n 0, 1) := by decide +kernel
theorem dL_law_698 : decode cL_law 698 = .ok (.iload_n 3, 1) := by decide +kernel
theorem dL_law_699 : decode cL_law 699 = .ok (.iconst 2, 1) := by decide +kernel
theorem dL_law_700 : decode cL_law 700 = .ok (.iadd, 1) := by decide +kernel
theorem dL_law_701 : decode cL_law 701 = .ok (.iaload, 1) := by decide +kernel
theorem dL_law_702 : decode cL_law 702 = .ok (.invokevirtual 76, 3) := by decide +kernel
theorem dL_law_705 : decode cL_law 705 = .ok (.aload_n 2, 1) := by decide +kernel
theorem dL_law_706 : decode cL_law 706 = .ok (.aload_n 0, 1) := by decide +kernel
theorem dL_law_707 : decode cL_law 707 = .ok (.iload_n 3, 1) := by decide +kernel
theorem dL_law_708 : decode cL_law 708 = .ok (.iconst 1, 1) := by decide +kernel
theorem dL_law_709 : decode cL_law 709 = .ok (.iadd, 1) := by decide +kernel
theorem dL_law_710 : decode cL_law 710 = .ok (.iaload, 1) := by decide +kernel
theorem dL_law_711 : decode cL_law 711 = .ok (.aload_n 0, 1) := by decide +kernel
theorem dL_law_712 : decode cL_law 712 = .ok (.iload_n 3, 1) := by decide +kernel
theorem dL_law_713 : decode cL_law 713 = .ok (.iconst 2, 1) := by decide +kernel
theorem dL_law_714 : decode cL_law 714 = .ok (.iadd, 1) := by decide +kernel
theorem dL_law_715 : decode cL_law 715 = .ok (.iaload, 1) := by decide +kernel
theorem dL_law_716 : decode cL_law 716 = .ok (.invokevirtual 79, 3) := by decide +kernel
theorem dL_law_719 : decode cL_law 719 = .ok (.if_icmp .eq 609, 3) := by decide +kernel
theorem dL_law_722 : decode cL_law 722 = .ok (.iconst 0, 1) := by decide +kernel
theorem dL_law_723 : decode cL_law 723 = .ok (.ireturn, 1) := by decide +kernel
theorem dL_law_724 : decode cL_law 724 = .ok (.aload_n 1, 1) := by decide +kernel
theorem dL_law_725 : decode cL_law 725 = .ok (.invokevirtual 80, 3) := by decide +kernel
theorem dL_law_728 : decode cL_law 728 = .ok (.aload_n 2, 1) := by decide +kernel
theorem dL_law_729 : decode cL_law 729 = .ok (.invokevirtual 84, 3) := by decide +kernel
theorem dL_law_732 : decode cL_law 732 = .ok (.if_icmp .eq 596, 3) := by decide +kernel
theorem dL_law_735 : decode cL_law 735 = .ok (.iconst 0, 1) := by decide +kernel
theorem dL_law_736 : decode cL_law 736 = .ok (.ireturn, 1) := by decide +kernel
theorem dL_law_737 : decode cL_law 737 = .ok (.aload_n 1, 1) := by decide +kernel
theorem dL_law_738 : decode cL_law 738 = .ok (.aload_n 0, 1) := by decide +kernel
theorem dL_law_739 : decode cL_law 739 = .ok (.iload_n 3, 1) := by decide +kernel
theorem dL_law_740 : decode cL_law 740 = .ok (.iconst 1, 1) := by decide +kernel
theorem dL_law_741 : decode cL_law 741 = .ok (.iadd, 1) := by decide +kernel
theorem dL_law_742 : decode cL_law 742 = .ok (.iaload, 1) := by decide +kernel
theorem dL_law_743 : decode cL_law 743 = .ok (.invokevirtual 85, 3) := by decide +kernel
theorem dL_law_746 : decode cL_law 746 = .ok (.aload_n 2, 1) := by decide +kernel
theorem dL_law_747 : decode cL_law 747 = .ok (.aload_n 0, 1) := by decide +kernel
theorem dL_law_748 : decode cL_law 748 = .ok (.iload_n 3, 1) := by decide +kernel
theorem dL_law_749 : decode cL_law 749 = .ok (.iconst 1, 1) := by decide +kernel
theorem dL_law_750 : decode cL_law 750 = .ok (.iadd, 1) := by decide +kernel
theorem dL_law_751 : decode cL_law 751 = .ok (.iaload, 1) := by decide +kernel
theorem dL_law_752 : decode cL_law 752 = .ok (.invokevirtual 88, 3) := by decide +kernel
theorem dL_law_755 : decode cL_law 755 = .ok (.if_icmp .eq 573, 3) := by decide +kernel
theorem dL_law_758 : decode cL_law 758 = .ok (.iconst 0, 1) := by decide +kernel
theorem dL_law_759 : decode cL_law 759 = .ok (.ireturn, 1) := by decide +kernel
theorem dL_law_760 : decode cL_law 760 = .ok (.aload_n 1, 1) := by decide +kernel
theorem dL_law_761 : decode cL_law 761 = .ok (.aload_n 0, 1) := by decide +kernel
theorem dL_law_762 : decode cL_law 762 = .ok (.iload_n 3, 1) := by decide +kernel
theorem dL_law_763 : decode cL_law 763 = .ok (.iconst 1, 1) := by decide +kernel
theorem dL_law_764 : decode cL_law 764 = .ok (.iadd, 1) := by decide +kernel
theorem dL_law_765 : decode cL_law 765 = .ok (.iaload, 1) := by decide +kernel
theorem dL_law_766 : decode cL_law 766 = .ok (.invokevirtual 89, 3) := by decide +kernel
theorem dL_law_769 : decode cL_law 769 = .ok (.aload_n 2, 1) := by decide +kernel
theorem dL_law_770 : decode cL_law 770 = .ok (.aload_n 0, 1) := by decide +kernel
theorem dL_law_771 : decode cL_law 771 = .ok (.iload_n 3, 1) := by decide +kernel
theorem dL_law_772 : decode cL_law 772 = .ok (.iconst 1, 1) := by decide +kernel
theorem dL_law_773 : decode cL_law 773 = .ok (.iadd, 1) := by decide +kernel
theorem dL_law_774 : decode cL_law 774 = .ok (.iaload, 1) := by decide +kernel
theorem dL_law_775 : decode cL_law 775 = .ok (.invokevirtual 92, 3) := by decide +kernel
theorem dL_law_778 : decode cL_law 778 = .ok (.if_icmp .eq 550, 3) := by decide +kernel
theorem dL_law_781 : decode cL_law 781 = .ok (.iconst 0, 1) := by decide +kernel
theorem dL_law_782 : decode cL_law 782 = .ok (.ireturn, 1) := by decide +kernel
theorem dL_law_783 : decode cL_law 783 = .ok (.aload_n 1, 1) := by decide +kernel
theorem dL_law_784 : decode cL_law 784 = .ok (.aload_n 0, 1) := by decide +kernel
theorem dL_law_785 : decode cL_law 785 = .ok (.iload_n 3, 1) := by decide +kernel
theorem dL_law_786 : decode cL_law 786 = .ok (.iconst 1, 1) := by decide +kernel
theorem dL_law_787 : decode cL_law 787 = .ok (.iadd, 1) := by decide +kernel
theorem dL_law_788 : decode cL_law 788 = .ok (.iaload, 1) := by decide +kernel
theorem dL_law_789 : decode cL_law 789 = .ok (.aload_n 0, 1) := by decide +kernel
theorem dL_law_790 : decode cL_law 790 = .ok (.iload_n 3, 1) := by decide +kernel
theorem dL_law_791 : decode cL_law 791 = .ok (.iconst 2, 1) := by decide +kernel
theorem dL_law_792 : decode cL_law 792 = .ok (.iadd, 1) := by decide +kernel
theorem dL_law_793 : decode cL_law 793 = .ok (.iaload, 1) := by decide +kernel
theorem dL_law_794 : decode cL_law 794 = .ok (.aload_n 0, 1) := by decide +kernel
theorem dL_law_795 : decode cL_law 795 = .ok (.iload_n 3, 1) := by decide +kernel
theorem dL_law_796 : decode cL_law 796 = .ok (.iconst 3, 1) := by decide +kernel
theorem dL_law_797 : decode cL_law 797 = .ok (.iadd, 1) := by decide +kernel
theorem dL_law_798 : decode cL_law 798 = .ok (.iaload, 1) := by decide +kernel
theorem dL_law_799 : decode cL_law 799 = .ok (.invokevirtual 93, 3) := by decide +kernel
theorem dL_law_802 : decode cL_law 802 = .ok (.aload_n 2, 1) := by decide +kernel
theorem dL_law_803 : decode cL_law 803 = .ok (.aload_n 0, 1) := by decide +kernel
theorem dL_law_804 : decode cL_law 804 = .ok (.iload_n 3, 1) := by decide +kernel
theorem dL_law_805 : decode cL_law 805 = .ok (.iconst 1, 1) := by decide +kernel
theorem dL_law_806 : decode cL_law 806 = .ok (.iadd, 1) := by decide +kernel
theorem dL_law_807 : decode cL_law 807 = .ok (.iaload, 1) := by decide +kernel
theorem dL_law_808 : decode cL_law 808 = .ok (.aload_n 0, 1) := by decide +kernel
theorem dL_law_809 : decode cL_law 809 = .ok (.iload_n 3, 1) := by decide +kernel
theorem dL_law_810 : decode cL_law 810 = .ok (.iconst 2, 1) := by decide +kernel
theorem dL_law_811 : decode cL_law 811 = .ok (.iadd, 1) := by decide +kernel
theorem dL_law_812 : decode cL_law 812 = .ok (.iaload, 1) := by decide +kernel
theorem dL_law_813 : decode cL_law 813 = .ok (.aload_n 0, 1) := by decide +kernel
theorem dL_law_814 : decode cL_law 814 = .ok (.iload_n 3, 1) := by decide +kernel
theorem dL_law_815 : decode cL_law 815 = .ok (.iconst 3, 1) := by decide +kernel
theorem dL_law_816 : decode cL_law 816 = .ok (.iadd, 1) := by decide +kernel
theorem dL_law_817 : decode cL_law 817 = .ok (.iaload, 1) := by decide +kernel
theorem dL_law_818 : decode cL_law 818 = .ok (.invokevirtual 96, 3) := by decide +kernel
theorem dL_law_821 : decode cL_law 821 = .ok (.if_icmp .eq 507, 3) := by decide +kernel
theorem dL_law_824 : decode cL_law 824 = .ok (.iconst 0, 1) := by decide +kernel
theorem dL_law_825 : decode cL_law 825 = .ok (.ireturn, 1) := by decide +kernel
theorem dL_law_826 : decode cL_law 826 = .ok (.aload_n 1, 1) := by decide +kernel
theorem dL_law_827 : decode cL_law 827 = .ok (.aload_n 0, 1) := by decide +kernel
theorem dL_law_828 : decode cL_law 828 = .ok (.iload_n 3, 1) := by decide +kernel
theorem dL_law_829 : decode cL_law 829 = .ok (.iconst 1, 1) := by decide +kernel
theorem dL_law_830 : decode cL_law 830 = .ok (.iadd, 1) := by decide +kernel
theorem dL_law_831 : decode cL_law 831 = .ok (.iaload, 1) := by decide +kernel
theorem dL_law_832 : decode cL_law 832 = .ok (.aload_n 0, 1) := by decide +kernel
theorem dL_law_833 : decode cL_law 833 = .ok (.iload_n 3, 1) := by decide +kernel
theorem dL_law_834 : decode cL_law 834 = .ok (.iconst 2, 1) := by decide +kernel
theorem dL_law_835 : decode cL_law 835 = .ok (.iadd, 1) := by decide +kernel
theorem dL_law_836 : decode cL_law 836 = .ok (.iaload, 1) := by decide +kernel
theorem dL_law_837 : decode cL_law 837 = .ok (.invokevirtual 97, 3) := by decide +kernel
theorem dL_law_840 : decode cL_law 840 = .ok (.aload_n 2, 1) := by decide +kernel
theorem dL_law_841 : decode cL_law 841 = .ok (.aload_n 0, 1) := by decide +kernel
theorem dL_law_842 : decode cL_law 842 = .ok (.iload_n 3, 1) := by decide +kernel
theorem dL_law_843 : decode cL_law 843 = .ok (.iconst 1, 1) := by decide +kernel
theorem dL_law_844 : decode cL_law 844 = .ok (.iadd, 1) := by decide +kernel
theorem dL_law_845 : decode cL_law 845 = .ok (.iaload, 1) := by decide +kernel
theorem dL_law_846 : decode cL_law 846 = .ok (.aload_n 0, 1) := by decide +kernel
theorem dL_law_847 : decode cL_law 847 = .ok (.iload_n 3, 1) := by decide +kernel
theorem dL_law_848 : decode cL_law 848 = .ok (.iconst 2, 1) := by decide +kernel
theorem dL_law_849 : decode cL_law 849 = .ok (.iadd, 1) := by decide +kernel
theorem dL_law_850 : decode cL_law 850 = .ok (.iaload, 1) := by decide +kernel
theorem dL_law_851 : decode cL_law 851 = .ok (.invokevirtual 100, 3) := by decide +kernel
theorem dL_law_854 : decode cL_law 854 = .ok (.if_icmp .eq 474, 3) := by decide +kernel
theorem dL_law_857 : decode cL_law 857 = .ok (.iconst 0, 1) := by decide +kernel
theorem dL_law_858 : decode cL_law 858 = .ok (.ireturn, 1) := by decide +kernel
theorem dL_law_859 : decode cL_law 859 = .ok (.aload_n 1, 1) := by decide +kernel
theorem dL_law_860 : decode cL_law 860 = .ok (.aload_n 0, 1) := by decide +kernel
theorem dL_law_861 : decode cL_law 861 = .ok (.iload_n 3, 1) := by decide +kernel
theorem dL_law_862 : decode cL_law 862 = .ok (.iconst 1, 1) := by decide +kernel
theorem dL_law_863 : decode cL_law 863 = .ok (.iadd, 1) := by decide +kernel
theorem dL_law_864 : decode cL_law 864 = .ok (.iaload, 1) := by decide +kernel
theorem dL_law_865 : decode cL_law 865 = .ok (.invokevirtual 101, 3) := by decide +kernel
theorem dL_law_868 : decode cL_law 868 = .ok (.aload_n 2, 1) := by decide +kernel
theorem dL_law_869 : decode cL_law 869 = .ok (.aload_n 0, 1) := by decide +kernel
theorem dL_law_870 : decode cL_law 870 = .ok (.iload_n 3, 1) := by decide +kernel
theorem dL_law_871 : decode cL_law 871 = .ok (.iconst 1, 1) := by decide +kernel
theorem dL_law_872 : decode cL_law 872 = .ok (.iadd, 1) := by decide +kernel
theorem dL_law_873 : decode cL_law 873 = .ok (.iaload, 1) := by decide +kernel
theorem dL_law_874 : decode cL_law 874 = .ok (.invokevirtual 104, 3) := by decide +kernel
theorem dL_law_877 : decode cL_law 877 = .ok (.if_icmp .eq 451, 3) := by decide +kernel
theorem dL_law_880 : decode cL_law 880 = .ok (.iconst 0, 1) := by decide +kernel
theorem dL_law_881 : decode cL_law 881 = .ok (.ireturn, 1) := by decide +kernel
theorem dL_law_882 : decode cL_law 882 = .ok (.aload_n 1, 1) := by decide +kernel
theorem dL_law_883 : decode cL_law 883 = .ok (.aload_n 0, 1) := by decide +kernel
theorem dL_law_884 : decode cL_law 884 = .ok (.iload_n 3, 1) := by decide +kernel
theorem dL_law_885 : decode cL_law 885 = .ok (.iconst 1, 1) := by decide +kernel
theorem dL_law_886 : decode cL_law 886 = .ok (.iadd, 1) := by decide +kernel
theorem dL_law_887 : decode cL_law 887 = .ok (.iaload, 1) := by decide +kernel
theorem dL_law_888 : decode cL_law 888 = .ok (.invokevirtual 105, 3) := by decide +kernel
theorem dL_law_891 : decode cL_law 891 = .ok (.aload_n 2, 1) := by decide +kernel
theorem dL_law_892 : decode cL_law 892 = .ok (.aload_n 0, 1) := by decide +kernel
theorem dL_law_893 : decode cL_law 893 = .ok (.iload_n 3, 1) := by decide +kernel
theorem dL_law_894 : decode cL_law 894 = .ok (.iconst 1, 1) := by decide +kernel
theorem dL_law_895 : decode cL_law 895 = .ok (.iadd, 1) := by decide +kernel
theorem dL_law_896 : decode cL_law 896 = .ok (.iaload, 1) := by decide +kernel
theorem dL_law_897 : decode cL_law 897 = .ok (.invokevirtual 108, 3) := by decide +kernel
theorem dL_law_900 : decode cL_law 900 = .ok (.if_icmp .eq 428, 3) := by decide +kernel
theorem dL_law_903 : decode cL_law 903 = .ok (.iconst 0, 1) := by decide +kernel
theorem dL_law_904 : decode cL_law 904 = .ok (.ireturn, 1) := by decide +kernel
theorem dL_law_905 : decode cL_law 905 = .ok (.aload_n 1, 1) := by decide +kernel
theorem dL_law_906 : decode cL_law 906 = .ok (.aload_n 0, 1) := by decide +kernel
theorem dL_law_907 : decode cL_law 907 = .ok (.iload_n 3, 1) := by decide +kernel
theorem dL_law_908 : decode cL_law 908 = .ok (.iconst 1, 1) := by decide +kernel
theorem dL_law_909 : decode cL_law 909 = .ok (.iadd, 1) := by decide +kernel
theorem dL_law_910 : decode cL_law 910 = .ok (.iaload, 1) := by decide +kernel
theorem dL_law_911 : decode cL_law 911 = .ok (.aload_n 0, 1) := by decide +kernel
theorem dL_law_912 : decode cL_law 912 = .ok (.iload_n 3, 1) := by decide +kernel
theorem dL_law_913 : decode cL_law 913 = .ok (.iconst 2, 1) := by decide +kernel
theorem dL_law_914 : decode cL_law 914 = .ok (.iadd, 1) := by decide +kernel
theorem dL_law_915 : decode cL_law 915 = .ok (.iaload, 1) := by decide +kernel
theorem dL_law_916 : decode cL_law 916 = .ok (.invokevirtual 109, 3) := by decide +kernel
theorem dL_law_919 : decode cL_law 919 = .ok (.aload_n 2, 1) := by decide +kernel
theorem dL_law_920 : decode cL_law 920 = .ok (.aload_n 0, 1) := by decide +kernel
theorem dL_law_921 : decode cL_law 921 = .ok (.iload_n 3, 1) := by decide +kernel
theorem dL_law_922 : decode cL_law 922 = .ok (.iconst 1, 1) := by decide +kernel
theorem dL_law_923 : decode cL_law 923 = .ok (.iadd, 1) := by decide +kernel
theorem dL_law_924 : decode cL_law 924 = .ok (.iaload, 1) := by decide +kernel
theorem dL_law_925 : decode cL_law 925 = .ok (.aload_n 0, 1) := by decide +kernel
theorem dL_law_926 : decode cL_law 926 = .ok (.iload_n 3, 1) := by decide +kernel
theorem dL_law_927 : decode cL_law 927 = .ok (.iconst 2, 1) := by decide +kernel
theorem dL_law_928 : decode cL_law 928 = .ok (.iadd, 1) := by decide +kernel
theorem dL_law_929 : decode cL_law 929 = .ok (.iaload, 1) := by decide +kernel
theorem dL_law_930 : decode cL_law 930 = .ok (.invokevirtual 112, 3) := by decide +kernel
theorem dL_law_933 : decode cL_law 933 = .ok (.if_icmp .eq 395, 3) := by decide +kernel
theorem dL_law_936 : decode cL_law 936 = .ok (.iconst 0, 1) := by decide +kernel
theorem dL_law_937 : decode cL_law 937 = .ok (.ireturn, 1) := by decide +kernel
theorem dL_law_938 : decode cL_law 938 = .ok (.aload_n 1, 1) := by decide +kernel
theorem dL_law_939 : decode cL_law 939 = .ok (.invokevirtual 113, 3) := by decide +kernel
theorem dL_law_942 : decode cL_law 942 = .ok (.aload_n 2, 1) := by decide +kernel
theorem dL_law_943 : decode cL_law 943 = .ok (.invokevirtual 116, 3) := by decide +kernel
theorem dL_law_946 : decode cL_law 946 = .ok (.if_icmp .eq 382, 3) := by decide +kernel
theorem dL_law_949 : decode cL_law 949 = .ok (.iconst 0, 1) := by decide +kernel
theorem dL_law_950 : decode cL_law 950 = .ok (.ireturn, 1) := by decide +kernel
theorem dL_law_951 : decode cL_law 951 = .ok (.aload_n 1, 1) := by decide +kernel
theorem dL_law_952 : decode cL_law 952 = .ok (.invokevirtual 117, 3) := by decide +kernel
theorem dL_law_955 : decode cL_law 955 = .ok (.aload_n 2, 1) := by decide +kernel
theorem dL_law_956 : decode cL_law 956 = .ok (.invokevirtual 120, 3) := by decide +kernel
theorem dL_law_959 : decode cL_law 959 = .ok (.if_icmp .eq 369, 3) := by decide +kernel
theorem dL_law_962 : decode cL_law 962 = .ok (.iconst 0, 1) := by decide +kernel
theorem dL_law_963 : decode cL_law 963 = .ok (.ireturn, 1) := by decide +kernel
theorem dL_law_964 : decode cL_law 964 = .ok (.aload_n 1, 1) := by decide +kernel
theorem dL_law_965 : decode cL_law 965 = .ok (.aload_n 0, 1) := by decide +kernel
theorem dL_law_966 : decode cL_law 966 = .ok (.iload_n 3, 1) := by decide +kernel
theorem dL_law_967 : decode cL_law 967 = .ok (.iconst 1, 1) := by decide +kernel
theorem dL_law_968 : decode cL_law 968 = .ok (.iadd, 1) := by decide +kernel
theorem dL_law_969 : decode cL_law 969 = .ok (.iaload, 1) := by decide +kernel
theorem dL_law_970 : decode cL_law 970 = .ok (.aload_n 0, 1) := by decide +kernel
theorem dL_law_971 : decode cL_law 971 = .ok (.iload_n 3, 1) := by decide +kernel
theorem dL_law_972 : decode cL_law 972 = .ok (.iconst 2, 1) := by decide +kernel
theorem dL_law_973 : decode cL_law 973 = .ok (.iadd, 1) := by decide +kernel
theorem dL_law_974 : decode cL_law 974 = .ok (.iaload, 1) := by decide +kernel
theorem dL_law_975 : decode cL_law 975 = .ok (.aload_n 0, 1) := by decide +kernel
theorem dL_law_976 : decode cL_law 976 = .ok (.iload_n 3, 1) := by decide +kernel
theorem dL_law_977 : decode cL_law 977 = .ok (.iconst 3, 1) := by decide +kernel
theorem dL_law_978 : decode cL_law 978 = .ok (.iadd, 1) := by decide +kernel
theorem dL_law_979 : decode cL_law 979 = .ok (.iaload, 1) := by decide +kernel
theorem dL_law_980 : decode cL_law 980 = .ok (.invokevirtual 121, 3) := by decide +kernel
theorem dL_law_983 : decode cL_law 983 = .ok (.aload_n 2, 1) := by decide +kernel
theorem dL_law_984 : decode cL_law 984 = .ok (.aload_n 0, 1) := by decide +kernel
theorem dL_law_985 : decode cL_law 985 = .ok (.iload_n 3, 1) := by decide +kernel
theorem dL_law_986 : decode cL_law 986 = .ok (.iconst 1, 1) := by decide +kernel
theorem dL_law_987 : decode cL_law 987 = .ok (.iadd, 1) := by decide +kernel
theorem dL_law_988 : decode cL_law 988 = .ok (.iaload, 1) := by decide +kernel
theorem dL_law_989 : decode cL_law 989 = .ok (.aload_n 0, 1) := by decide +kernel
theorem dL_law_990 : decode cL_law 990 = .ok (.iload_n 3, 1) := by decide +kernel
theorem dL_law_991 : decode cL_law 991 = .ok (.iconst 2, 1) := by decide +kernel
theorem dL_law_992 : decode cL_law 992 = .ok (.iadd, 1) := by decide +kernel
theorem dL_law_993 : decode cL_law 993 = .ok (.iaload, 1) := by decide +kernel
theorem dL_law_994 : decode cL_law 994 = .ok (.aload_n 0, 1) := by decide +kernel
theorem dL_law_995 : decode cL_law 995 = .ok (.iload_n 3, 1) := by decide +kernel
theorem dL_law_996 : decode cL_law 996 = .ok (.iconst 3, 1) := by decide +kernel
theorem dL_law_997 : decode cL_law 997 = .ok (.iadd, 1) := by decide +kernel
theorem dL_law_998 : decode cL_law 998 = .ok (.iaload, 1) := by decide +kernel
theorem dL_law_999 : decode cL_law 999 = .ok (.invokevirtual 124, 3) := by decide +kernel
theorem dL_law_1002 : decode cL_law 1002 = .ok (.if_icmp .eq 326, 3) := by decide +kernel
theorem dL_law_1005 : decode cL_law 1005 = .ok (.iconst 0, 1) := by decide +kernel
theorem dL_law_1006 : decode cL_law 1006 = .ok (.ireturn, 1) := by decide +kernel
theorem dL_law_1007 : decode cL_law 1007 = .ok (.aload_n 1, 1) := by decide +kernel
theorem dL_law_1008 : decode cL_law 1008 = .ok (.aload_n 0, 1) := by decide +kernel
theorem dL_law_1009 : decode cL_law 1009 = .ok (.iload_n 3, 1) := by decide +kernel
theorem dL_law_1010 : decode cL_law 1010 = .ok (.iconst 1, 1) := by decide +kernel
theorem dL_law_1011 : decode cL_law 1011 = .ok (.iadd, 1) := by decide +kernel
theorem dL_law_1012 : decode cL_law 1012 = .ok (.iaload, 1) := by decide +kernel
theorem dL_law_1013 : decode cL_law 1013 = .ok (.aload_n 0, 1) := by decide +kernel
theorem dL_law_1014 : decode cL_law 1014 = .ok (.iload_n 3, 1) := by decide +kernel
theorem dL_law_1015 : decode cL_law 1015 = .ok (.iconst 2, 1) := by decide +kernel
theorem dL_law_1016 : decode cL_law 1016 = .ok (.iadd, 1) := by decide +kernel
theorem dL_law_1017 : decode cL_law 1017 = .ok (.iaload, 1) := by decide +kernel
theorem dL_law_1018 : decode cL_law 1018 = .ok (.aload_n 0, 1) := by decide +kernel
theorem dL_law_1019 : decode cL_law 1019 = .ok (.iload_n 3, 1) := by decide +kernel
theorem dL_law_1020 : decode cL_law 1020 = .ok (.iconst 3, 1) := by decide +kernel
theorem dL_law_1021 : decode cL_law 1021 = .ok (.iadd, 1) := by decide +kernel
theorem dL_law_1022 : decode cL_law 1022 = .ok (.iaload, 1) := by decide +kernel
theorem dL_law_1023 : decode cL_law 1023 = .ok (.i2l, 1) := by decide +kernel
theorem dL_law_1024 : decode cL_law 1024 = .ok (.bipush 32, 2) := by decide +kernel
theorem dL_law_1026 : decode cL_law 1026 = .ok (.lshl, 1) := by decide +kernel
theorem dL_law_1027 : decode cL_law 1027 = .ok (.aload_n 0, 1) := by decide +kernel
theorem dL_law_1028 : decode cL_law 1028 = .ok (.iload_n 3, 1) := by decide +kernel
theorem dL_law_1029 : decode cL_law 1029 = .ok (.iconst 4, 1) := by decide +kernel
theorem dL_law_1030 : decode cL_law 1030 = .ok (.iadd, 1) := by decide +kernel
theorem dL_law_1031 : decode cL_law 1031 = .ok (.iaload, 1) := by decide +kernel
theorem dL_law_1032 : decode cL_law 1032 = .ok (.i2l, 1) := by decide +kernel
theorem dL_law_1033 : decode cL_law 1033 = .ok (.ldc2_w 125, 3) := by decide +kernel
theorem dL_law_1036 : decode cL_law 1036 = .ok (.land, 1) := by decide +kernel
theorem dL_law_1037 : decode cL_law 1037 = .ok (.lor, 1) := by decide +kernel
theorem dL_law_1038 : decode cL_law 1038 = .ok (.invokevirtual 127, 3) := by decide +kernel
theorem dL_law_1041 : decode cL_law 1041 = .ok (.aload_n 2, 1) := by decide +kernel
theorem dL_law_1042 : decode cL_law 1042 = .ok (.aload_n 0, 1) := by decide +kernel
theorem dL_law_1043 : decode cL_law 1043 = .ok (.iload_n 3, 1) := by decide +kernel
theorem dL_law_1044 : decode cL_law 1044 = .ok (.iconst 1, 1) := by decide +kernel
theorem dL_law_1045 : decode cL_law 1045 = .ok (.iadd, 1) := by decide +kernel
theorem dL_law_1046 : decode cL_law 1046 = .ok (.iaload, 1) := by decide +kernel
theorem dL_law_1047 : decode cL_law 1047 = .ok (.aload_n 0, 1) := by decide +kernel
theorem dL_law_1048 : decode cL_law 1048 = .ok (.iload_n 3, 1) := by decide +kernel
theorem dL_law_1049 : decode cL_law 1049 = .ok (.iconst 2, 1) := by decide +kernel
theorem dL_law_1050 : decode cL_law 1050 = .ok (.iadd, 1) := by decide +kernel
theorem dL_law_1051 : decode cL_law 1051 = .ok (.iaload, 1) := by decide +kernel
theorem dL_law_1052 : decode cL_law 1052 = .ok (.aload_n 0, 1) := by decide +kernel
theorem dL_law_1053 : decode cL_law 1053 = .ok (.iload_n 3, 1) := by decide +kernel
theorem dL_law_1054 : decode cL_law 1054 = .ok (.iconst 3, 1) := by decide +kernel
theorem dL_law_1055 : decode cL_law 1055 = .ok (.iadd, 1) := by decide +kernel
theorem dL_law_1056 : decode cL_law 1056 = .ok (.iaload, 1) := by decide +kernel
theorem dL_law_1057 : decode cL_law 1057 = .ok (.i2l, 1) := by decide +kernel
theorem dL_law_1058 : decode cL_law 1058 = .ok (.bipush 32, 2) := by decide +kernel
theorem dL_law_1060 : decode cL_law 1060 = .ok (.lshl, 1) := by decide +kernel
theorem dL_law_1061 : decode cL_law 1061 = .ok (.aload_n 0, 1) := by decide +kernel
theorem dL_law_1062 : decode cL_law 1062 = .ok (.iload_n 3, 1) := by decide +kernel
theorem dL_law_1063 : decode cL_law 1063 = .ok (.iconst 4, 1) := by decide +kernel
theorem dL_law_1064 : decode cL_law 1064 = .ok (.iadd, 1) := by decide +kernel
theorem dL_law_1065 : decode cL_law 1065 = .ok (.iaload, 1) := by decide +kernel
theorem dL_law_1066 : decode cL_law 1066 = .ok (.i2l, 1) := by decide +kernel
theorem dL_law_1067 : decode cL_law 1067 = .ok (.ldc2_w 125, 3) := by decide +kernel
theorem dL_law_1070 : decode cL_law 1070 = .ok (.land, 1) := by decide +kernel
theorem dL_law_1071 : decode cL_law 1071 = .ok (.lor, 1) := by decide +kernel
theorem dL_law_1072 : decode cL_law 1072 = .ok (.invokevirtual 131, 3) := by decide +kernel
theorem dL_law_1075 : decode cL_law 1075 = .ok (.lcmp, 1) := by decide +kernel
theorem dL_law_1076 : decode cL_law 1076 = .ok (.ifCond .eq 252, 3) := by decide +kernel
theorem dL_law_1079 : decode cL_law 1079 = .ok (.iconst 0, 1) := by decide +kernel
theorem dL_law_1080 : decode cL_law 1080 = .ok (.ireturn, 1) := by decide +kernel
theorem dL_law_1081 : decode cL_law 1081 = .ok (.aload_n 1, 1) := by decide +kernel
theorem dL_law_1082 : decode cL_law 1082 = .ok (.aload_n 0, 1) := by decide +kernel
theorem dL_law_1083 : decode cL_law 1083 = .ok (.iload_n 3, 1) := by decide +kernel
theorem dL_law_1084 : decode cL_law 1084 = .ok (.iconst 1, 1) := by decide +kernel
theorem dL_law_1085 : decode cL_law 1085 = .ok (.iadd, 1) := by decide +kernel
theorem dL_law_1086 : decode cL_law 1086 = .ok (.iaload, 1) := by decide +kernel
theorem dL_law_1087 : decode cL_law 1087 = .ok (.aload_n 0, 1) := by decide +kernel
theorem dL_law_1088 : decode cL_law 1088 = .ok (.iload_n 3, 1) := by decide +kernel
theorem dL_law_1089 : decode cL_law 1089 = .ok (.iconst 2, 1) := by decide +kernel
theorem dL_law_1090 : decode cL_law 1090 = .ok (.iadd, 1) := by decide +kernel
theorem dL_law_1091 : decode cL_law 1091 = .ok (.iaload, 1) := by decide +kernel
theorem dL_law_1092 : decode cL_law 1092 = .ok (.aload_n 0, 1) := by decide +kernel
theorem dL_law_1093 : decode cL_law 1093 = .ok (.iload_n 3, 1) := by decide +kernel
theorem dL_law_1094 : decode cL_law 1094 = .ok (.iconst 3, 1) := by decide +kernel
theorem dL_law_1095 : decode cL_law 1095 = .ok (.iadd, 1) := by decide +kernel
theorem dL_law_1096 : decode cL_law 1096 = .ok (.iaload, 1) := by decide +kernel
theorem dL_law_1097 : decode cL_law 1097 = .ok (.aload_n 0, 1) := by decide +kernel
theorem dL_law_1098 : decode cL_law 1098 = .ok (.iload_n 3, 1) := by decide +kernel
theorem dL_law_1099 : decode cL_law 1099 = .ok (.iconst 4, 1) := by decide +kernel
theorem dL_law_1100 : decode cL_law 1100 = .ok (.iadd, 1) := by decide +kernel
theorem dL_law_1101 : decode cL_law 1101 = .ok (.iaload, 1) := by decide +kernel
theorem dL_law_1102 : decode cL_law 1102 = .ok (.aload_n 0, 1) := by decide +kernel
theorem dL_law_1103 : decode cL_law 1103 = .ok (.iload_n 3, 1) := by decide +kernel
theorem dL_law_1104 : decode cL_law 1104 = .ok (.iconst 5, 1) := by decide +kernel
theorem dL_law_1105 : decode cL_law 1105 = .ok (.iadd, 1) := by decide +kernel
theorem dL_law_1106 : decode cL_law 1106 = .ok (.iaload, 1) := by decide +kernel
theorem dL_law_1107 : decode cL_law 1107 = .ok (.invokevirtual 132, 3) := by decide +kernel
theorem dL_law_1110 : decode cL_law 1110 = .ok (.aload_n 2, 1) := by decide +kernel
theorem dL_law_1111 : decode cL_law 1111 = .ok (.aload_n 0, 1) := by decide +kernel
theorem dL_law_1112 : decode cL_law 1112 = .ok (.iload_n 3, 1) := by decide +kernel
theorem dL_law_1113 : decode cL_law 1113 = .ok (.iconst 1, 1) := by decide +kernel
theorem dL_law_1114 : decode cL_law 1114 = .ok (.iadd, 1) := by decide +kernel
theorem dL_law_1115 : decode cL_law 1115 = .ok (.iaload, 1) := by decide +kernel
theorem dL_law_1116 : decode cL_law 1116 = .ok (.aload_n 0, 1) := by decide +kernel
theorem dL_law_1117 : decode cL_law 1117 = .ok (.iload_n 3, 1) := by decide +kernel
theorem dL_law_1118 : decode cL_law 1118 = .ok (.iconst 2, 1) := by decide +kernel
theorem dL_law_1119 : decode cL_law 1119 = .ok (.iadd, 1) := by decide +kernel
theorem dL_law_1120 : decode cL_law 1120 = .ok (.iaload, 1) := by decide +kernel
theorem dL_law_1121 : decode cL_law 1121 = .ok (.aload_n 0, 1) := by decide +kernel
theorem dL_law_1122 : decode cL_law 1122 = .ok (.iload_n 3, 1) := by decide +kernel
theorem dL_law_1123 : decode cL_law 1123 = .ok (.iconst 3, 1) := by decide +kernel
theorem dL_law_1124 : decode cL_law 1124 = .ok (.iadd, 1) := by decide +kernel
theorem dL_law_1125 : decode cL_law 1125 = .ok (.iaload, 1) := by decide +kernel
theorem dL_law_1126 : decode cL_law 1126 = .ok (.aload_n 0, 1) := by decide +kernel
theorem dL_law_1127 : decode cL_law 1127 = .ok (.iload_n 3, 1) := by decide +kernel
theorem dL_law_1128 : decode cL_law 1128 = .ok (.iconst 4, 1) := by decide +kernel
theorem dL_law_1129 : decode cL_law 1129 = .ok (.iadd, 1) := by decide +kernel
theorem dL_law_1130 : decode cL_law 1130 = .ok (.iaload, 1) := by decide +kernel
theorem dL_law_1131 : decode cL_law 1131 = .ok (.aload_n 0, 1) := by decide +kernel
theorem dL_law_1132 : decode cL_law 1132 = .ok (.iload_n 3, 1) := by decide +kernel
theorem dL_law_1133 : decode cL_law 1133 = .ok (.iconst 5, 1) := by decide +kernel
theorem dL_law_1134 : decode cL_law 1134 = .ok (.iadd, 1) := by decide +kernel
theorem dL_law_1135 : decode cL_law 1135 = .ok (.iaload, 1) := by decide +kernel
theorem dL_law_1136 : decode cL_law 1136 = .ok (.invokevirtual 136, 3) := by decide +kernel
theorem dL_law_1139 : decode cL_law 1139 = .ok (.if_icmp .eq 189, 3) := by decide +kernel
theorem dL_law_1142 : decode cL_law 1142 = .ok (.iconst 0, 1) := by decide +kernel
theorem dL_law_1143 : decode cL_law 1143 = .ok (.ireturn, 1) := by decide +kernel
theorem dL_law_1144 : decode cL_law 1144 = .ok (.aload_n 1, 1) := by decide +kernel
theorem dL_law_1145 : decode cL_law 1145 = .ok (.aload_n 0, 1) := by decide +kernel
theorem dL_law_1146 : decode cL_law 1146 = .ok (.iload_n 3, 1) := by decide +kernel
theorem dL_law_1147 : decode cL_law 1147 = .ok (.iconst 1, 1) := by decide +kernel
theorem dL_law_1148 : decode cL_law 1148 = .ok (.iadd, 1) := by decide +kernel
theorem dL_law_1149 : decode cL_law 1149 = .ok (.iaload, 1) := by decide +kernel
theorem dL_law_1150 : decode cL_law 1150 = .ok (.invokevirtual 137, 3) := by decide +kernel
theorem dL_law_1153 : decode cL_law 1153 = .ok (.aload_n 2, 1) := by decide +kernel
theorem dL_law_1154 : decode cL_law 1154 = .ok (.aload_n 0, 1) := by decide +kernel
theorem dL_law_1155 : decode cL_law 1155 = .ok (.iload_n 3, 1) := by decide +kernel
theorem dL_law_1156 : decode cL_law 1156 = .ok (.iconst 1, 1) := by decide +kernel
theorem dL_law_1157 : decode cL_law 1157 = .ok (.iadd, 1) := by decide +kernel
theorem dL_law_1158 : decode cL_law 1158 = .ok (.iaload, 1) := by decide +kernel
theorem dL_law_1159 : decode cL_law 1159 = .ok (.invokevirtual 140, 3) := by decide +kernel
theorem dL_law_1162 : decode cL_law 1162 = .ok (.if_icmp .eq 166, 3) := by decide +kernel
theorem dL_law_1165 : decode cL_law 1165 = .ok (.iconst 0, 1) := by decide +kernel
theorem dL_law_1166 : decode cL_law 1166 = .ok (.ireturn, 1) := by decide +kernel
theorem dL_law_1167 : decode cL_law 1167 = .ok (.aload_n 1, 1) := by decide +kernel
theorem dL_law_1168 : decode cL_law 1168 = .ok (.aload_n 0, 1) := by decide +kernel
theorem dL_law_1169 : decode cL_law 1169 = .ok (.iload_n 3, 1) := by decide +kernel
theorem dL_law_1170 : decode cL_law 1170 = .ok (.iconst 1, 1) := by decide +kernel
theorem dL_law_1171 : decode cL_law 1171 = .ok (.iadd, 1) := by decide +kernel
theorem dL_law_1172 : decode cL_law 1172 = .ok (.iaload, 1) := by decide +kernel
theorem dL_law_1173 : decode cL_law 1173 = .ok (.aload_n 0, 1) := by decide +kernel
theorem dL_law_1174 : decode cL_law 1174 = .ok (.iload_n 3, 1) := by decide +kernel
theorem dL_law_1175 : decode cL_law 1175 = .ok (.iconst 2, 1) := by decide +kernel
theorem dL_law_1176 : decode cL_law 1176 = .ok (.iadd, 1) := by decide +kernel
theorem dL_law_1177 : decode cL_law 1177 = .ok (.iaload, 1) := by decide +kernel
theorem dL_law_1178 : decode cL_law 1178 = .ok (.invokevirtual 141, 3) := by decide +kernel
theorem dL_law_1181 : decode cL_law 1181 = .ok (.aload_n 2, 1) := by decide +kernel
theorem dL_law_1182 : decode cL_law 1182 = .ok (.aload_n 0, 1) := by decide +kernel
theorem dL_law_1183 : decode cL_law 1183 = .ok (.iload_n 3, 1) := by decide +kernel
theorem dL_law_1184 : decode cL_law 1184 = .ok (.iconst 1, 1) := by decide +kernel
theorem dL_law_1185 : decode cL_law 1185 = .ok (.iadd, 1) := by decide +kernel
theorem dL_law_1186 : decode cL_law 1186 = .ok (.iaload, 1) := by decide +kernel
theorem dL_law_1187 : decode cL_law 1187 = .ok (.aload_n 0, 1) := by decide +kernel
theorem dL_law_1188 : decode cL_law 1188 = .ok (.iload_n 3, 1) := by decide +kernel
theorem dL_law_1189 : decode cL_law 1189 = .ok (.iconst 2, 1) := by decide +kernel
theorem dL_law_1190 : decode cL_law 1190 = .ok (.iadd, 1) := by decide +kernel
theorem dL_law_1191 : decode cL_law 1191 = .ok (.iaload, 1) := by decide +kernel
theorem dL_law_1192 : decode cL_law 1192 = .ok (.invokevirtual 144, 3) := by decide +kernel
theorem dL_law_1195 : decode cL_law 1195 = .ok (.if_icmp .eq 133, 3) := by decide +kernel
theorem dL_law_1198 : decode cL_law 1198 = .ok (.iconst 0, 1) := by decide +kernel
theorem dL_law_1199 : decode cL_law 1199 = .ok (.ireturn, 1) := by decide +kernel
theorem dL_law_1200 : decode cL_law 1200 = .ok (.aload_n 1, 1) := by decide +kernel
theorem dL_law_1201 : decode cL_law 1201 = .ok (.aload_n 0, 1) := by decide +kernel
theorem dL_law_1202 : decode cL_law 1202 = .ok (.iload_n 3, 1) := by decide +kernel
theorem dL_law_1203 : decode cL_law 1203 = .ok (.iconst 1, 1) := by decide +kernel
theorem dL_law_1204 : decode cL_law 1204 = .ok (.iadd, 1) := by decide +kernel
theorem dL_law_1205 : decode cL_law 1205 = .ok (.iaload, 1) := by decide +kernel
theorem dL_law_1206 : decode cL_law 1206 = .ok (.aload_n 0, 1) := by decide +kernel
theorem dL_law_1207 : decode cL_law 1207 = .ok (.iload_n 3, 1) := by decide +kernel
theorem dL_law_1208 : decode cL_law 1208 = .ok (.iconst 2, 1) := by decide +kernel
theorem dL_law_1209 : decode cL_law 1209 = .ok (.iadd, 1) := by decide +kernel
theorem dL_law_1210 : decode cL_law 1210 = .ok (.iaload, 1) := by decide +kernel
theorem dL_law_1211 : decode cL_law 1211 = .ok (.aload_n 0, 1) := by decide +kernel
theorem dL_law_1212 : decode cL_law 1212 = .ok (.iload_n 3, 1) := by decide +kernel
theorem dL_law_1213 : decode cL_law 1213 = .ok (.iconst 3, 1) := by decide +kernel
theorem dL_law_1214 : decode cL_law 1214 = .ok (.iadd, 1) := by decide +kernel
theorem dL_law_1215 : decode cL_law 1215 = .ok (.iaload, 1) := by decide +kernel
theorem dL_law_1216 : decode cL_law 1216 = .ok (.invokevirtual 145, 3) := by decide +kernel
theorem dL_law_1219 : decode cL_law 1219 = .ok (.aload_n 2, 1) := by decide +kernel
theorem dL_law_1220 : decode cL_law 1220 = .ok (.aload_n 0, 1) := by decide +kernel
theorem dL_law_1221 : decode cL_law 1221 = .ok (.iload_n 3, 1) := by decide +kernel
theorem dL_law_1222 : decode cL_law 1222 = .ok (.iconst 1, 1) := by decide +kernel
theorem dL_law_1223 : decode cL_law 1223 = .ok (.iadd, 1) := by decide +kernel
theorem dL_law_1224 : decode cL_law 1224 = .ok (.iaload, 1) := by decide +kernel
theorem dL_law_1225 : decode cL_law 1225 = .ok (.aload_n 0, 1) := by decide +kernel
theorem dL_law_1226 : decode cL_law 1226 = .ok (.iload_n 3, 1) := by decide +kernel
theorem dL_law_1227 : decode cL_law 1227 = .ok (.iconst 2, 1) := by decide +kernel
theorem dL_law_1228 : decode cL_law 1228 = .ok (.iadd, 1) := by decide +kernel
theorem dL_law_1229 : decode cL_law 1229 = .ok (.iaload, 1) := by decide +kernel
theorem dL_law_1230 : decode cL_law 1230 = .ok (.aload_n 0, 1) := by decide +kernel
theorem dL_law_1231 : decode cL_law 1231 = .ok (.iload_n 3, 1) := by decide +kernel
theorem dL_law_1232 : decode cL_law 1232 = .ok (.iconst 3, 1) := by decide +kernel
theorem dL_law_1233 : decode cL_law 1233 = .ok (.iadd, 1) := by decide +kernel
theorem dL_law_1234 : decode cL_law 1234 = .ok (.iaload, 1) := by decide +kernel
theorem dL_law_1235 : decode cL_law 1235 = .ok (.invokevirtual 148, 3) := by decide +kernel
theorem dL_law_1238 : decode cL_law 1238 = .ok (.if_icmp .eq 90, 3) := by decide +kernel
theorem dL_law_1241 : decode cL_law 1241 = .ok (.iconst 0, 1) := by decide +kernel
theorem dL_law_1242 : decode cL_law 1242 = .ok (.ireturn, 1) := by decide +kernel
theorem dL_law_1243 : decode cL_law 1243 = .ok (.aload_n 1, 1) := by decide +kernel
theorem dL_law_1244 : decode cL_law 1244 = .ok (.invokevirtual 149, 3) := by decide +kernel
theorem dL_law_1247 : decode cL_law 1247 = .ok (.aload_n 2, 1) := by decide +kernel
theorem dL_law_1248 : decode cL_law 1248 = .ok (.invokevirtual 152, 3) := by decide +kernel
theorem dL_law_1251 : decode cL_law 1251 = .ok (.if_icmp .eq 77, 3) := by decide +kernel
theorem dL_law_1254 : decode cL_law 1254 = .ok (.iconst 0, 1) := by decide +kernel
theorem dL_law_1255 : decode cL_law 1255 = .ok (.ireturn, 1) := by decide +kernel
theorem dL_law_1256 : decode cL_law 1256 = .ok (.aload_n 1, 1) := by decide +kernel
theorem dL_law_1257 : decode cL_law 1257 = .ok (.invokevirtual 153, 3) := by decide +kernel
theorem dL_law_1260 : decode cL_law 1260 = .ok (.aload_n 2, 1) := by decide +kernel
theorem dL_law_1261 : decode cL_law 1261 = .ok (.invokevirtual 156, 3) := by decide +kernel
theorem dL_law_1264 : decode cL_law 1264 = .ok (.if_icmp .eq 64, 3) := by decide +kernel
theorem dL_law_1267 : decode cL_law 1267 = .ok (.iconst 0, 1) := by decide +kernel
theorem dL_law_1268 : decode cL_law 1268 = .ok (.ireturn, 1) := by decide +kernel
theorem dL_law_1269 : decode cL_law 1269 = .ok (.aload_n 1, 1) := by decide +kernel
theorem dL_law_1270 : decode cL_law 1270 = .ok (.invokevirtual 157, 3) := by decide +kernel
theorem dL_law_1273 : decode cL_law 1273 = .ok (.aload_n 2, 1) := by decide +kernel
theorem dL_law_1274 : decode cL_law 1274 = .ok (.invokevirtual 160, 3) := by decide +kernel
theorem dL_law_1277 : decode cL_law 1277 = .ok (.if_icmp .eq 51, 3) := by decide +kernel
theorem dL_law_1280 : decode cL_law 1280 = .ok (.iconst 0, 1) := by decide +kernel
theorem dL_law_1281 : decode cL_law 1281 = .ok (.ireturn, 1) := by decide +kernel
theorem dL_law_1282 : decode cL_law 1282 = .ok (.aload_n 1, 1) := by decide +kernel
theorem dL_law_1283 : decode cL_law 1283 = .ok (.aload_n 0, 1) := by decide +kernel
theorem dL_law_1284 : decode cL_law 1284 = .ok (.iload_n 3, 1) := by decide +kernel
theorem dL_law_1285 : decode cL_law 1285 = .ok (.iconst 1, 1) := by decide +kernel
theorem dL_law_1286 : decode cL_law 1286 = .ok (.iadd, 1) := by decide +kernel
theorem dL_law_1287 : decode cL_law 1287 = .ok (.iaload, 1) := by decide +kernel
theorem dL_law_1288 : decode cL_law 1288 = .ok (.invokevirtual 161, 3) := by decide +kernel
theorem dL_law_1291 : decode cL_law 1291 = .ok (.aload_n 2, 1) := by decide +kernel
theorem dL_law_1292 : decode cL_law 1292 = .ok (.aload_n 0, 1) := by decide +kernel
theorem dL_law_1293 : decode cL_law 1293 = .ok (.iload_n 3, 1) := by decide +kernel
theorem dL_law_1294 : decode cL_law 1294 = .ok (.iconst 1, 1) := by decide +kernel
theorem dL_law_1295 : decode cL_law 1295 = .ok (.iadd, 1) := by decide +kernel
theorem dL_law_1296 : decode cL_law 1296 = .ok (.iaload, 1) := by decide +kernel
theorem dL_law_1297 : decode cL_law 1297 = .ok (.invokevirtual 164, 3) := by decide +kernel
theorem dL_law_1300 : decode cL_law 1300 = .ok (.if_icmp .eq 28, 3) := by decide +kernel
theorem dL_law_1303 : decode cL_law 1303 = .ok (.iconst 0, 1) := by decide +kernel
theorem dL_law_1304 : decode cL_law 1304 = .ok (.ireturn, 1) := by decide +kernel
theorem dL_law_1305 : decode cL_law 1305 = .ok (.aload_n 1, 1) := by decide +kernel
theorem dL_law_1306 : decode cL_law 1306 = .ok (.aload_n 0, 1) := by decide +kernel
theorem dL_law_1307 : decode cL_law 1307 = .ok (.iload_n 3, 1) := by decide +kernel
theorem dL_law_1308 : decode cL_law 1308 = .ok (.iconst 1, 1) := by decide +kernel
theorem dL_law_1309 : decode cL_law 1309 = .ok (.iadd, 1) := by decide +kernel
theorem dL_law_1310 : decode cL_law 1310 = .ok (.iaload, 1) := by decide +kernel
theorem dL_law_1311 : decode cL_law 1311 = .ok (.invokevirtual 165, 3) := by decide +kernel
theorem dL_law_1314 : decode cL_law 1314 = .ok (.aload_n 2, 1) := by decide +kernel
theorem dL_law_1315 : decode cL_law 1315 = .ok (.aload_n 0, 1) := by decide +kernel
theorem dL_law_1316 : decode cL_law 1316 = .ok (.iload_n 3, 1) := by decide +kernel
theorem dL_law_1317 : decode cL_law 1317 = .ok (.iconst 1, 1) := by decide +kernel
theorem dL_law_1318 : decode cL_law 1318 = .ok (.iadd, 1) := by decide +kernel
theorem dL_law_1319 : decode cL_law 1319 = .ok (.iaload, 1) := by decide +kernel
theorem dL_law_1320 : decode cL_law 1320 = .ok (.invokevirtual 168, 3) := by decide +kernel
theorem dL_law_1323 : decode cL_law 1323 = .ok (.if_icmp .eq 5, 3) := by decide +kernel
theorem dL_law_1326 : decode cL_law 1326 = .ok (.iconst 0, 1) := by decide +kernel
theorem dL_law_1327 : decode cL_law 1327 = .ok (.ireturn, 1) := by decide +kernel
theorem dL_law_1328 : decode cL_law 1328 = .ok (.iinc 3 6, 3) := by decide +kernel
theorem dL_law_1331 : decode cL_law 1331 = .ok (.goto (-1313), 3) := by decide +kernel
theorem dL_law_1334 : decode cL_law 1334 = .ok (.iconst 1, 1) := by decide +kernel
theorem dL_law_1335 : decode cL_law 1335 = .ok (.ireturn, 1) := by decide +kernel
end
section
/-- the tables' words that every call keeps -/
def TB : List Cond := lw_tbl.filter goodWord
theorem tb_in {w : Cond} (i : Nat) (h : lw_tbl[i]? = some w) (g : goodWord w = true) : w ∈ TB := List.mem_filter.mpr ⟨List.mem_of_getElem? h, g⟩
theorem tb_t {w : Cond} (i : Nat) (h : tables_1[i]? = some w) (g : goodWord w = true) : w ∈ TB := List.mem_filter.mpr ⟨List.mem_append_right _ (List.mem_of_getElem? h), g⟩
theorem tb_gi {ws : List Cond} (h : ∀ w ∈ ws, w ∈ TB) : GoodIn TB ws := fun w hw => ⟨h w hw, good_of_word (List.mem_filter.mp (h w hw)).2⟩
theorem tb_app {a b : List Cond} (ha : ∀ w ∈ a, w ∈ TB) (hb : ∀ w ∈ b, w ∈ TB) : ∀ w ∈ a ++ b, w ∈ TB := fun w h => (List.mem_append.mp h).elim (ha w) (hb w)
theorem tb_cons {c : Cond} {a : List Cond} (hc : c ∈ TB) (ha : ∀ w ∈ a, w ∈ TB) : ∀ w ∈ c :: a, w ∈ TB := fun w h => (List.mem_cons.mp h).elim (fun e => e ▸ hc) (ha w)
theorem tb_nil : ∀ w ∈ ([] : List Cond), w ∈ TB := fun _ h => absurd h List.not_mem_nil
/-! ===== my own layer: J, a walk over cells, locals and stack alone ===== -/
def abvL : List Int32 := [-1, 0, 0, 0, 1, 2]
def namL : List Int32 := [116, 104, 105, 110, 103, 0, 0, 98, 111, 97, 116, 0, 0, 0, 106, 101, 114, 115, 101, 121, 0, 113, 117, 97, 114, 114, 101, 108, 98, 114, 105, 100, 103, 101, 0, 108, 101, 116, 116, 101, 114, 0, 98, 121, 0, 0, 0, 0, 0, 100, 117, 115, 116, 0, 0, 0, 115, 107, 105, 108, 108, 0, 0, 122, 101, 97, 108, 0, 0, 0]
/-- the ten literals: thing boat jersey quarrel bridge letter skill zeal by dust -/
def lenS : List Nat := [5, 4, 6, 7, 6, 6, 5, 4, 2, 4]
def bytS : List (List Int32) := [[116, 104, 105, 110, 103], [98, 111, 97, 116], [106, 101, 114, 115, 101, 121], [113, 117, 97, 114, 114, 101, 108], [98, 114, 105, 100, 103, 101], [108, 101, 116, 116, 101, 114], [115, 107, 105, 108, 108], [122, 101, 97, 108], [98, 121], [100, 117, 115, 116]]
/-- the array classes in use -/
def gT (ca : Nat → ClassId) : List (ClassId × FieldType) := [(ca 0, .int), (ca 1, .long), (ca 2, .byte), (ca 3, .object "UnfinishedFair$Kind"), (ca 4, .object "UnfinishedFair$Sheet")]
/-- where each literal stands: owner, entry, text, place -/
def litS : List (String × Nat × String × Nat) := [("UnfinishedFair", 9, "thing", 0), ("UnfinishedFair", 16, "boat", 1), ("UnfinishedFair", 21, "jersey", 2), ("UnfinishedFair", 26, "quarrel", 3), ("UnfinishedFair", 31, "bridge", 4), ("UnfinishedFair", 36, "letter", 5), ("UnfinishedFair$Tape", 47, "skill", 6), ("UnfinishedFair$Tape", 63, "zeal", 7), ("UnfinishedFair$Tape", 76, "by", 8), ("UnfinishedFair$Tape", 78, "dust", 9)]
def nestS : List (String × Nat × MethodName × String) := [("UnfinishedFair", 73, ⟨"UnfinishedFair$Sheet", "<init>", "()V"⟩, "UnfinishedFair"), ("UnfinishedFair$Common", 122, ⟨"UnfinishedFair", "sum", "([II)I"⟩, "UnfinishedFair")]
/-- what stands outside the cells in use and never changes -/
def gS (sd : Nat → Nat) (A : Nat → Prop) (U : State) (H : Heap) : Prop :=
  va_Z "UnfinishedFair" "ABOVE" "[I" (.ref (sd 0)) A U H ∧ va_T .int (sd 0) 6 (fun j => .int (abvL.getD j 0)) A U H ∧
  va_Z "UnfinishedFairModel" "NAMES" "[I" (.ref (sd 1)) A U H ∧ va_T .int (sd 1) 70 (fun j => .int (namL.getD j 0)) A U H ∧
  va_Z "java/lang/String" "COMPACT_STRINGS" "Z" (.int 1) A U H ∧ va_Zq "jdk/internal/util/Preconditions" "SIOOBE_FORMATTER" "Ljava/util/function/BiFunction;" A U H ∧
  vk_S 10 lenS bytS (fun i => sd (2 + i)) (fun i => sd (12 + i)) A U H ∧
  (∀ q ∈ litS, vk_R q.1 q.2.1 q.2.2.1 (sd (2 + q.2.2.2)) U) ∧ (∀ q ∈ nestS, va_Nw (.methodLinkNest q.1 q.2.1 q.2.2.1 q.2.2.2) U) ∧ va_AO "UnfinishedFair$Kind" U ∧ va_AO "UnfinishedFair$Sheet" U
theorem gS_warm {sd : Nat → Nat} {A : Nat → Prop} {s U : State} {H : Heap} (hW : s.WarmedH U.vm) (h : gS sd A s H) : gS sd A U H := by
  obtain ⟨a, b, c, d, e, f, g, i, j, k, n⟩ := h
  exact ⟨a.moved hW.alike, b.moved hW.alike, c.moved hW.alike, d.moved hW.alike, e.moved hW.alike, f.moved hW.alike, g.moved hW.alike, fun q hq => (i q hq).warm hW, fun q hq => (j q hq).warmM hW, k.moved hW.alike, n.moved hW.alike⟩
theorem gS_same {sd : Nat → Nat} {A : Nat → Prop} {s U : State} {H : Heap} (hW : U.vm = s.vm) (h : gS sd A s H) : gS sd A U H := by
  obtain ⟨a, b, c, d, e, f, g, i, j, k, n⟩ := h
  have hA : s.vm.Alike U.vm := by rw [hW]; exact Vm.Alike.refl _
  exact ⟨a.moved hA, b.moved hA, c.moved hA, d.moved hA, e.moved hA, f.moved hA, g.moved hA, fun q hq => (i q hq).same hW, fun q hq => va_Nw.same rfl hW.symm (j q hq), k.moved hA, n.moved hA⟩
theorem gS_kept {sd : Nat → Nat} {A : Nat → Prop} {U : State} {H H1 : Heap} (h : gS sd A U H) (hq : ∀ a : Nat, a < H.size → ¬ A a → H1[a]? = H[a]?) : gS sd A U H1 := by
  obtain ⟨a, b, c, d, e, f, g, i, j, k, n⟩ := h
  exact ⟨a.kept hq, b.kept hq, c.kept hq, d.kept hq, e.kept hq, f.kept hq, g.kept hq, i, j, k, n⟩
theorem gS_narrow {sd : Nat → Nat} {A B : Nat → Prop} {U : State} {H : Heap} (h : gS sd A U H) (hq : ∀ q, B q → A q) : gS sd B U H := by
  obtain ⟨a, b, c, d, e, f, g, i, j, k, n⟩ := h
  exact ⟨a.narrow hq, b.narrow hq, c.narrow hq, d.narrow hq, e.narrow hq, f.narrow hq, g.narrow hq, i, j, k, n⟩
/-- the fixed things of a walk: program, environment, room, start, method, arguments, frames below, the method's own rows, the aim, the cells that may change -/
abbrev Kx := Program × Env × Room × State × MethodId × Array Value × List Frame × Method × Code × (State → Prop) × (Nat → Prop) × (Nat → Prop)
/-- from pc, with cells ws, locals lv, stack st, the walk comes to its aim -/
def J (l : Launch) (D : va_G) : Kx → Nat → Nat → Nat → Nat → va_W → List (Nat × Value) → List Value → Prop
  | (p, e, R, s, m, args, below, meth, c, Q, A, B), nL, cells, slots, pc, ws, lv, st => ∀ (H : Heap) (locs : List Loc) (ls : Array Slot), va_P D vwCl ws H → va_D B ws → va_S A s.heap H locs → lv_has ls nL lv → W p l e R s m args below meth c H locs cells slots Q (F0 m pc ls st)
/-- what is known of the fixed things -/
def Cx (D : va_G) (ca : Nat → ClassId) (sd : Nat → Nat) (cc : ByteArray) (own : String) (ret : Option FieldType) (R0 : Room) : Kx → Nat → Prop
  | (p, e, R, s, m, args, below, meth, c, Q, A, B), nL => p.tables.exec = Jvm.exec ∧ c.code = cc ∧ meth.sig.returnType = ret ∧ c.maxLocals = nL ∧ s.vm.findClass own = some m.cls ∧ (∀ w ∈ TB, w.before args s = true) ∧ meth.locks = false ∧ R = R0 ∧ va_K D vwCl (gT ca) s ∧ gS sd A s s.heap ∧ ∀ q, s.heap.size ≤ q → A q
/-- what the aim is: a contract's end -/
def Rx (Qc : (Nat → Prop) → Array Value → State → Outcome → State → Prop) (mc ms : Nat) : Kx → Prop
  | (p, e, R, s, m, args, below, meth, c, Q, A, B) => Q = MQ below (Qc A) args s mc ms A
/-- a constructor's frame -/
def Ix : Kx → Prop
  | (p, e, R, s, m, args, below, meth, c, Q, A, B) => meth.name = "<init>"
/-- the walk may write its cells -/
def Wx : Kx → Prop
  | (p, e, R, s, m, args, below, meth, c, Q, A, B) => B = A
/-- a contract: over these arguments and cells wc, of which it may write wa (all, or none) -/
def Cn (l : Launch) (D : va_G) (ca : Nat → ClassId) (sd : Nat → Nat) (y : MethodName) (cc : ByteArray) (maxL : Nat) (ret : Option FieldType) (rm : Room) (av : List Value) (wc wa : va_W) (mc ms : Nat) (Qc : (Nat → Prop) → Array Value → State → Outcome → State → Prop) : Prop :=
  ∀ sz : Nat, Met l y (.code y cc maxL ret :: TB) rm (va_Pc av (fun U => U.heap.size = sz ∧ va_P D vwCl wc U.heap ∧ va_D (fun _ => True) wc ∧ va_K D vwCl (gT ca) U ∧ gS sd (va_A wa sz) U U.heap)) (Qc (va_A wa sz)) mc ms (va_A wa sz)
/-- a contract's end: an int, nothing, a long, a reference -/
def Ri (D : va_G) {S : Type} (post : Int32 → S → Prop) (wB : S → va_W) : (Nat → Prop) → Array Value → State → Outcome → State → Prop := fun A => va_Qi post (fun u t => va_P D vwCl (wB u) t.heap ∧ va_D A (wB u)) A
def Rv (D : va_G) {S : Type} (post : S → Prop) (wB : S → va_W) : (Nat → Prop) → Array Value → State → Outcome → State → Prop := fun A => va_Qv post (fun u t => va_P D vwCl (wB u) t.heap ∧ va_D A (wB u)) A
def Rl (D : va_G) {S : Type} (post : Int64 → S → Prop) (wB : S → va_W) : (Nat → Prop) → Array Value → State → Outcome → State → Prop := fun A => va_Ql post (fun u t => va_P D vwCl (wB u) t.heap ∧ va_D A (wB u)) A
def Rr (D : va_G) {S : Type} (post : S → Prop) (ra : S → Nat) (wB : S → va_W) : (Nat → Prop) → Array Value → State → Outcome → State → Prop := fun A => va_Qr post (fun u a t => a = ra u ∧ va_P D vwCl (wB u) t.heap ∧ va_D A (wB u)) A
theorem va_P_nil {D : va_G} {cl : List vw_C} {H : Heap} : va_P D cl [] H := fun k q h => by simp at h
theorem va_D_nil {A : Nat → Prop} : va_D A [] := ⟨fun i j p q h => by simp at h, fun k q h => by simp at h⟩
section Jr
variable {l : Launch} {D : va_G} {ca : Nat → ClassId} {sd : Nat → Nat} {cc : ByteArray} {own : String} {ret : Option FieldType} {R0 : Room} {k : Kx} {nL cells slots pc : Nat} {ws : va_W} {lv : List (Nat × Value)} {st : List Value}

theorem j_iconst (C : Cx D ca sd cc own ret R0 k nL) {n : Int} (v : Int32) (d : decode cc pc = .ok (.iconst n, 1)) (hv : Int32.ofInt n = v) (h : J l D k nL cells slots (pc + 1) (ws) (lv) (.int v :: st)) : J l D k nL cells slots (pc) (ws) (lv) (st) := by
  obtain ⟨p, e, R, s, m, args, below, meth, c, Q, A, B⟩ := k
  obtain ⟨hx, hb, hr, hml, hown, hts, hlocks, hR0, hK, hG, hA⟩ := C
  intro H locs ls hP hD hS hl
  exact lv_iconst hx hb d hv (h H locs ls hP hD hS hl)
theorem j_bipush (C : Cx D ca sd cc own ret R0 k nL) {n : Int} (v : Int32) (d : decode cc pc = .ok (.bipush n, 2)) (hv : (Int8.ofInt n).toInt32 = v) (h : J l D k nL cells slots (pc + 2) (ws) (lv) (.int v :: st)) : J l D k nL cells slots (pc) (ws) (lv) (st) := by
  obtain ⟨p, e, R, s, m, args, below, meth, c, Q, A, B⟩ := k
  obtain ⟨hx, hb, hr, hml, hown, hts, hlocks, hR0, hK, hG, hA⟩ := C
  intro H locs ls hP hD hS hl
  exact lv_bipush hx hb d hv (h H locs ls hP hD hS hl)
theorem j_sipush (C : Cx D ca sd cc own ret R0 k nL) {n : Int} (v : Int32) (d : decode cc pc = .ok (.sipush n, 3)) (hv : (Int16.ofInt n).toInt32 = v) (h : J l D k nL cells slots (pc + 3) (ws) (lv) (.int v :: st)) : J l D k nL cells slots (pc) (ws) (lv) (st) := by
  obtain ⟨p, e, R, s, m, args, below, meth, c, Q, A, B⟩ := k
  obtain ⟨hx, hb, hr, hml, hown, hts, hlocks, hR0, hK, hG, hA⟩ := C
  intro H locs ls hP hD hS hl
  exact lv_sipush hx hb d hv (h H locs ls hP hD hS hl)
theorem j_lconst (C : Cx D ca sd cc own ret R0 k nL) {n : Fin 2} (v : Int64) (d : decode cc pc = .ok (.lconst n, 1)) (hv : Int64.ofNat (n : Nat) = v) (h : J l D k nL cells slots (pc + 1) (ws) (lv) (.long v :: st)) : J l D k nL cells slots (pc) (ws) (lv) (st) := by
  obtain ⟨p, e, R, s, m, args, below, meth, c, Q, A, B⟩ := k
  obtain ⟨hx, hb, hr, hml, hown, hts, hlocks, hR0, hK, hG, hA⟩ := C
  intro H locs ls hP hD hS hl
  exact lv_lconst hx hb d hv (h H locs ls hP hD hS hl)
theorem j_ldc (C : Cx D ca sd cc own ret R0 k nL) {i : Nat} {v : Int32} (d : decode cc pc = .ok (.ldc i, 2)) (hv : Jvm.Cond.constant own i v ∈ TB) (h : J l D k nL cells slots (pc + 2) (ws) (lv) (.int v :: st)) : J l D k nL cells slots (pc) (ws) (lv) (st) := by
  obtain ⟨p, e, R, s, m, args, below, meth, c, Q, A, B⟩ := k
  obtain ⟨hx, hb, hr, hml, hown, hts, hlocks, hR0, hK, hG, hA⟩ := C
  intro H locs ls hP hD hS hl
  exact lv_ldc hx hb hown (hts _ hv) d (h H locs ls hP hD hS hl)
theorem j_ldc_w (C : Cx D ca sd cc own ret R0 k nL) {i : Nat} {v : Int32} (d : decode cc pc = .ok (.ldc_w i, 3)) (hv : Jvm.Cond.constant own i v ∈ TB) (h : J l D k nL cells slots (pc + 3) (ws) (lv) (.int v :: st)) : J l D k nL cells slots (pc) (ws) (lv) (st) := by
  obtain ⟨p, e, R, s, m, args, below, meth, c, Q, A, B⟩ := k
  obtain ⟨hx, hb, hr, hml, hown, hts, hlocks, hR0, hK, hG, hA⟩ := C
  intro H locs ls hP hD hS hl
  exact lv_ldcw hx hb hown (hts _ hv) d (h H locs ls hP hD hS hl)
theorem j_ldc2 (C : Cx D ca sd cc own ret R0 k nL) {i : Nat} {v : Int64} (d : decode cc pc = .ok (.ldc2_w i, 3)) (hv : Jvm.Cond.constantLong own i v ∈ TB) (h : J l D k nL cells slots (pc + 3) (ws) (lv) (.long v :: st)) : J l D k nL cells slots (pc) (ws) (lv) (st) := by
  obtain ⟨p, e, R, s, m, args, below, meth, c, Q, A, B⟩ := k
  obtain ⟨hx, hb, hr, hml, hown, hts, hlocks, hR0, hK, hG, hA⟩ := C
  intro H locs ls hP hD hS hl
  exact lv_ldc2 hx hb hown (hts _ hv) d (h H locs ls hP hD hS hl)
theorem j_iload_n (C : Cx D ca sd cc own ret R0 k nL) {kk : Fin 4} {x : Int32} (j : Nat) (d : decode cc pc = .ok (.iload_n kk, 1)) (hv : lv[j]? = some ((kk : Nat), .int x)) (h : J l D k nL cells slots (pc + 1) (ws) (lv) (.int x :: st)) : J l D k nL cells slots (pc) (ws) (lv) (st) := by
  obtain ⟨p, e, R, s, m, args, below, meth, c, Q, A, B⟩ := k
  obtain ⟨hx, hb, hr, hml, hown, hts, hlocks, hR0, hK, hG, hA⟩ := C
  intro H locs ls hP hD hS hl
  exact lv_iload_n hx hb d rfl (lv_at hl j hv) (h H locs ls hP hD hS hl)
theorem j_iload (C : Cx D ca sd cc own ret R0 k nL) {i : Nat} {x : Int32} (j : Nat) (d : decode cc pc = .ok (.iload i, 2)) (hv : lv[j]? = some (i, .int x)) (h : J l D k nL cells slots (pc + 2) (ws) (lv) (.int x :: st)) : J l D k nL cells slots (pc) (ws) (lv) (st) := by
  obtain ⟨p, e, R, s, m, args, below, meth, c, Q, A, B⟩ := k
  obtain ⟨hx, hb, hr, hml, hown, hts, hlocks, hR0, hK, hG, hA⟩ := C
  intro H locs ls hP hD hS hl
  exact lv_iload hx hb d (lv_at hl j hv) (h H locs ls hP hD hS hl)
theorem j_lload_n (C : Cx D ca sd cc own ret R0 k nL) {kk : Fin 4} {x : Int64} (j : Nat) (d : decode cc pc = .ok (.lload_n kk, 1)) (hv : lv[j]? = some ((kk : Nat), .long x)) (h : J l D k nL cells slots (pc + 1) (ws) (lv) (.long x :: st)) : J l D k nL cells slots (pc) (ws) (lv) (st) := by
  obtain ⟨p, e, R, s, m, args, below, meth, c, Q, A, B⟩ := k
  obtain ⟨hx, hb, hr, hml, hown, hts, hlocks, hR0, hK, hG, hA⟩ := C
  intro H locs ls hP hD hS hl
  exact lv_lload_n hx hb d rfl (lv_at hl j hv) (h H locs ls hP hD hS hl)
theorem j_lload (C : Cx D ca sd cc own ret R0 k nL) {i : Nat} {x : Int64} (j : Nat) (d : decode cc pc = .ok (.lload i, 2)) (hv : lv[j]? = some (i, .long x)) (h : J l D k nL cells slots (pc + 2) (ws) (lv) (.long x :: st)) : J l D k nL cells slots (pc) (ws) (lv) (st) := by
  obtain ⟨p, e, R, s, m, args, below, meth, c, Q, A, B⟩ := k
  obtain ⟨hx, hb, hr, hml, hown, hts, hlocks, hR0, hK, hG, hA⟩ := C
  intro H locs ls hP hD hS hl
  exact lv_lload hx hb d (lv_at hl j hv) (h H locs ls hP hD hS hl)
theorem j_aload_n (C : Cx D ca sd cc own ret R0 k nL) {kk : Fin 4} {x : Nat} (j : Nat) (d : decode cc pc = .ok (.aload_n kk, 1)) (hv : lv[j]? = some ((kk : Nat), .ref x)) (h : J l D k nL cells slots (pc + 1) (ws) (lv) (.ref x :: st)) : J l D k nL cells slots (pc) (ws) (lv) (st) := by
  obtain ⟨p, e, R, s, m, args, below, meth, c, Q, A, B⟩ := k
  obtain ⟨hx, hb, hr, hml, hown, hts, hlocks, hR0, hK, hG, hA⟩ := C
  intro H locs ls hP hD hS hl
  exact lv_aload_n hx hb d rfl (lv_at hl j hv) (h H locs ls hP hD hS hl)
theorem j_aload (C : Cx D ca sd cc own ret R0 k nL) {i : Nat} {x : Nat} (j : Nat) (d : decode cc pc = .ok (.aload i, 2)) (hv : lv[j]? = some (i, .ref x)) (h : J l D k nL cells slots (pc + 2) (ws) (lv) (.ref x :: st)) : J l D k nL cells slots (pc) (ws) (lv) (st) := by
  obtain ⟨p, e, R, s, m, args, below, meth, c, Q, A, B⟩ := k
  obtain ⟨hx, hb, hr, hml, hown, hts, hlocks, hR0, hK, hG, hA⟩ := C
  intro H locs ls hP hD hS hl
  exact lv_aload hx hb d (lv_at hl j hv) (h H locs ls hP hD hS hl)
theorem j_istore_n (C : Cx D ca sd cc own ret R0 k nL) {kk : Fin 4} {x : Int32} (lv' : List (Nat × Value)) (d : decode cc pc = .ok (.istore_n kk, 1)) (hn : (kk : Nat) < nL) (hl' : ((kk : Nat), Value.int x) :: lv.filter (fun q => !(q.1 == (kk : Nat)) && !(q.1 + 1 == (kk : Nat) && q.2.category == 2)) = lv') (h : J l D k nL cells slots (pc + 1) (ws) (lv') (st)) : J l D k nL cells slots (pc) (ws) (lv) (.int x :: st) := by
  obtain ⟨p, e, R, s, m, args, below, meth, c, Q, A, B⟩ := k
  obtain ⟨hx, hb, hr, hml, hown, hts, hlocks, hR0, hK, hG, hA⟩ := C
  intro H locs ls hP hD hS hl
  exact lv_istore_n hx hb d rfl hl hn hl' (fun ls hl => h H locs ls hP hD hS hl)
theorem j_istore (C : Cx D ca sd cc own ret R0 k nL) {i : Nat} {x : Int32} (lv' : List (Nat × Value)) (d : decode cc pc = .ok (.istore i, 2)) (hn : i < nL) (hl' : (i, Value.int x) :: lv.filter (fun q => !(q.1 == i) && !(q.1 + 1 == i && q.2.category == 2)) = lv') (h : J l D k nL cells slots (pc + 2) (ws) (lv') (st)) : J l D k nL cells slots (pc) (ws) (lv) (.int x :: st) := by
  obtain ⟨p, e, R, s, m, args, below, meth, c, Q, A, B⟩ := k
  obtain ⟨hx, hb, hr, hml, hown, hts, hlocks, hR0, hK, hG, hA⟩ := C
  intro H locs ls hP hD hS hl
  exact lv_istore hx hb d hl hn hl' (fun ls hl => h H locs ls hP hD hS hl)
theorem j_astore_n (C : Cx D ca sd cc own ret R0 k nL) {kk : Fin 4} {x : Nat} (lv' : List (Nat × Value)) (d : decode cc pc = .ok (.astore_n kk, 1)) (hn : (kk : Nat) < nL) (hl' : ((kk : Nat), Value.ref x) :: lv.filter (fun q => !(q.1 == (kk : Nat)) && !(q.1 + 1 == (kk : Nat) && q.2.category == 2)) = lv') (h : J l D k nL cells slots (pc + 1) (ws) (lv') (st)) : J l D k nL cells slots (pc) (ws) (lv) (.ref x :: st) := by
  obtain ⟨p, e, R, s, m, args, below, meth, c, Q, A, B⟩ := k
  obtain ⟨hx, hb, hr, hml, hown, hts, hlocks, hR0, hK, hG, hA⟩ := C
  intro H locs ls hP hD hS hl
  exact lv_astore_n hx hb d rfl hl hn hl' (fun ls hl => h H locs ls hP hD hS hl)
theorem j_astore (C : Cx D ca sd cc own ret R0 k nL) {i : Nat} {x : Nat} (lv' : List (Nat × Value)) (d : decode cc pc = .ok (.astore i, 2)) (hn : i < nL) (hl' : (i, Value.ref x) :: lv.filter (fun q => !(q.1 == i) && !(q.1 + 1 == i && q.2.category == 2)) = lv') (h : J l D k nL cells slots (pc + 2) (ws) (lv') (st)) : J l D k nL cells slots (pc) (ws) (lv) (.ref x :: st) := by
  obtain ⟨p, e, R, s, m, args, below, meth, c, Q, A, B⟩ := k
  obtain ⟨hx, hb, hr, hml, hown, hts, hlocks, hR0, hK, hG, hA⟩ := C
  intro H locs ls hP hD hS hl
  exact lv_astore hx hb d hl hn hl' (fun ls hl => h H locs ls hP hD hS hl)
theorem j_lstore (C : Cx D ca sd cc own ret R0 k nL) {i : Nat} {x : Int64} (lv' : List (Nat × Value)) (d : decode cc pc = .ok (.lstore i, 2)) (hn : i + 1 < nL) (hl' : (i, Value.long x) :: lv.filter (fun q => !(q.1 == i) && (!(q.1 == i + 1) && !(q.1 + 1 == i && q.2.category == 2))) = lv') (h : J l D k nL cells slots (pc + 2) (ws) (lv') (st)) : J l D k nL cells slots (pc) (ws) (lv) (.long x :: st) := by
  obtain ⟨p, e, R, s, m, args, below, meth, c, Q, A, B⟩ := k
  obtain ⟨hx, hb, hr, hml, hown, hts, hlocks, hR0, hK, hG, hA⟩ := C
  intro H locs ls hP hD hS hl
  exact lv_lstore hx hb d hl hn hl' (fun ls hl => h H locs ls hP hD hS hl)
theorem j_iinc (C : Cx D ca sd cc own ret R0 k nL) {i : Nat} {n : Int} {x : Int32} (j : Nat) (v : Int32) (lv' : List (Nat × Value)) (d : decode cc pc = .ok (.iinc i n, 3)) (hk : lv[j]? = some (i, .int x)) (hv : x + Int32.ofInt n = v) (hn : i < nL) (hl' : (i, Value.int v) :: lv.filter (fun q => !(q.1 == i) && !(q.1 + 1 == i && q.2.category == 2)) = lv') (h : J l D k nL cells slots (pc + 3) (ws) (lv') (st)) : J l D k nL cells slots (pc) (ws) (lv) (st) := by
  obtain ⟨p, e, R, s, m, args, below, meth, c, Q, A, B⟩ := k
  obtain ⟨hx, hb, hr, hml, hown, hts, hlocks, hR0, hK, hG, hA⟩ := C
  intro H locs ls hP hD hS hl
  exact lv_iinc hx hb d hl hk hv hn hl' (fun ls hl => h H locs ls hP hD hS hl)
theorem j_iadd (C : Cx D ca sd cc own ret R0 k nL) {x y : Int32} (d : decode cc pc = .ok (.iadd, 1))  (h : J l D k nL cells slots (pc + 1) (ws) (lv) (.int (x + y) :: st)) : J l D k nL cells slots (pc) (ws) (lv) (.int y :: .int x :: st) := by
  obtain ⟨p, e, R, s, m, args, below, meth, c, Q, A, B⟩ := k
  obtain ⟨hx, hb, hr, hml, hown, hts, hlocks, hR0, hK, hG, hA⟩ := C
  intro H locs ls hP hD hS hl
  exact lv_iadd hx hb d (h H locs ls hP hD hS hl)
theorem j_isub (C : Cx D ca sd cc own ret R0 k nL) {x y : Int32} (d : decode cc pc = .ok (.isub, 1))  (h : J l D k nL cells slots (pc + 1) (ws) (lv) (.int (x - y) :: st)) : J l D k nL cells slots (pc) (ws) (lv) (.int y :: .int x :: st) := by
  obtain ⟨p, e, R, s, m, args, below, meth, c, Q, A, B⟩ := k
  obtain ⟨hx, hb, hr, hml, hown, hts, hlocks, hR0, hK, hG, hA⟩ := C
  intro H locs ls hP hD hS hl
  exact lv_isub hx hb d (h H locs ls hP hD hS hl)
theorem j_imul (C : Cx D ca sd cc own ret R0 k nL) {x y : Int32} (d : decode cc pc = .ok (.imul, 1))  (h : J l D k nL cells slots (pc + 1) (ws) (lv) (.int (x * y) :: st)) : J l D k nL cells slots (pc) (ws) (lv) (.int y :: .int x :: st) := by
  obtain ⟨p, e, R, s, m, args, below, meth, c, Q, A, B⟩ := k
  obtain ⟨hx, hb, hr, hml, hown, hts, hlocks, hR0, hK, hG, hA⟩ := C
  intro H locs ls hP hD hS hl
  exact lv_imul hx hb d (h H locs ls hP hD hS hl)
theorem j_iand (C : Cx D ca sd cc own ret R0 k nL) {x y : Int32} (d : decode cc pc = .ok (.iand, 1))  (h : J l D k nL cells slots (pc + 1) (ws) (lv) (.int (x &&& y) :: st)) : J l D k nL cells slots (pc) (ws) (lv) (.int y :: .int x :: st) := by
  obtain ⟨p, e, R, s, m, args, below, meth, c, Q, A, B⟩ := k
  obtain ⟨hx, hb, hr, hml, hown, hts, hlocks, hR0, hK, hG, hA⟩ := C
  intro H locs ls hP hD hS hl
  exact lv_iand hx hb d (h H locs ls hP hD hS hl)
theorem j_ior (C : Cx D ca sd cc own ret R0 k nL) {x y : Int32} (d : decode cc pc = .ok (.ior, 1))  (h : J l D k nL cells slots (pc + 1) (ws) (lv) (.int (x ||| y) :: st)) : J l D k nL cells slots (pc) (ws) (lv) (.int y :: .int x :: st) := by
  obtain ⟨p, e, R, s, m, args, below, meth, c, Q, A, B⟩ := k
  obtain ⟨hx, hb, hr, hml, hown, hts, hlocks, hR0, hK, hG, hA⟩ := C
  intro H locs ls hP hD hS hl
  exact lv_ior hx hb d (h H locs ls hP hD hS hl)
theorem j_ixor (C : Cx D ca sd cc own ret R0 k nL) {x y : Int32} (d : decode cc pc = .ok (.ixor, 1))  (h : J l D k nL cells slots (pc + 1) (ws) (lv) (.int (x ^^^ y) :: st)) : J l D k nL cells slots (pc) (ws) (lv) (.int y :: .int x :: st) := by
  obtain ⟨p, e, R, s, m, args, below, meth, c, Q, A, B⟩ := k
  obtain ⟨hx, hb, hr, hml, hown, hts, hlocks, hR0, hK, hG, hA⟩ := C
  intro H locs ls hP hD hS hl
  exact lv_ixor hx hb d (h H locs ls hP hD hS hl)
theorem j_ishl (C : Cx D ca sd cc own ret R0 k nL) {x y : Int32} (d : decode cc pc = .ok (.ishl, 1))  (h : J l D k nL cells slots (pc + 1) (ws) (lv) (.int (x <<< (y &&& 31)) :: st)) : J l D k nL cells slots (pc) (ws) (lv) (.int y :: .int x :: st) := by
  obtain ⟨p, e, R, s, m, args, below, meth, c, Q, A, B⟩ := k
  obtain ⟨hx, hb, hr, hml, hown, hts, hlocks, hR0, hK, hG, hA⟩ := C
  intro H locs ls hP hD hS hl
  exact lv_ishl hx hb d (h H locs ls hP hD hS hl)
theorem j_ishr (C : Cx D ca sd cc own ret R0 k nL) {x y : Int32} (d : decode cc pc = .ok (.ishr, 1))  (h : J l D k nL cells slots (pc + 1) (ws) (lv) (.int (x >>> (y &&& 31)) :: st)) : J l D k nL cells slots (pc) (ws) (lv) (.int y :: .int x :: st) := by
  obtain ⟨p, e, R, s, m, args, below, meth, c, Q, A, B⟩ := k
  obtain ⟨hx, hb, hr, hml, hown, hts, hlocks, hR0, hK, hG, hA⟩ := C
  intro H locs ls hP hD hS hl
  exact lv_ishr hx hb d (h H locs ls hP hD hS hl)
theorem j_iushr (C : Cx D ca sd cc own ret R0 k nL) {x y : Int32} (d : decode cc pc = .ok (.iushr, 1))  (h : J l D k nL cells slots (pc + 1) (ws) (lv) (.int ((x.toUInt32 >>> (y.toUInt32 &&& Int32.toUInt32 31)).toInt32) :: st)) : J l D k nL cells slots (pc) (ws) (lv) (.int y :: .int x :: st) := by
  obtain ⟨p, e, R, s, m, args, below, meth, c, Q, A, B⟩ := k
  obtain ⟨hx, hb, hr, hml, hown, hts, hlocks, hR0, hK, hG, hA⟩ := C
  intro H locs ls hP hD hS hl
  exact lv_iushr hx hb d rfl (h H locs ls hP hD hS hl)
theorem j_idiv (C : Cx D ca sd cc own ret R0 k nL) {x y : Int32} (d : decode cc pc = .ok (.idiv, 1)) (hne : ¬ y = 0) (h : J l D k nL cells slots (pc + 1) (ws) (lv) (.int (x / y) :: st)) : J l D k nL cells slots (pc) (ws) (lv) (.int y :: .int x :: st) := by
  obtain ⟨p, e, R, s, m, args, below, meth, c, Q, A, B⟩ := k
  obtain ⟨hx, hb, hr, hml, hown, hts, hlocks, hR0, hK, hG, hA⟩ := C
  intro H locs ls hP hD hS hl
  exact lv_idiv hx hb d hne (h H locs ls hP hD hS hl)
theorem j_irem (C : Cx D ca sd cc own ret R0 k nL) {x y : Int32} (d : decode cc pc = .ok (.irem, 1)) (hne : ¬ y = 0) (h : J l D k nL cells slots (pc + 1) (ws) (lv) (.int (x - x / y * y) :: st)) : J l D k nL cells slots (pc) (ws) (lv) (.int y :: .int x :: st) := by
  obtain ⟨p, e, R, s, m, args, below, meth, c, Q, A, B⟩ := k
  obtain ⟨hx, hb, hr, hml, hown, hts, hlocks, hR0, hK, hG, hA⟩ := C
  intro H locs ls hP hD hS hl
  exact lv_irem hx hb d hne (h H locs ls hP hD hS hl)
theorem j_land (C : Cx D ca sd cc own ret R0 k nL) {x y : Int64} (d : decode cc pc = .ok (.land, 1))  (h : J l D k nL cells slots (pc + 1) (ws) (lv) (.long (x &&& y) :: st)) : J l D k nL cells slots (pc) (ws) (lv) (.long y :: .long x :: st) := by
  obtain ⟨p, e, R, s, m, args, below, meth, c, Q, A, B⟩ := k
  obtain ⟨hx, hb, hr, hml, hown, hts, hlocks, hR0, hK, hG, hA⟩ := C
  intro H locs ls hP hD hS hl
  exact lv_land hx hb d (h H locs ls hP hD hS hl)
theorem j_lor (C : Cx D ca sd cc own ret R0 k nL) {x y : Int64} (d : decode cc pc = .ok (.lor, 1))  (h : J l D k nL cells slots (pc + 1) (ws) (lv) (.long (x ||| y) :: st)) : J l D k nL cells slots (pc) (ws) (lv) (.long y :: .long x :: st) := by
  obtain ⟨p, e, R, s, m, args, below, meth, c, Q, A, B⟩ := k
  obtain ⟨hx, hb, hr, hml, hown, hts, hlocks, hR0, hK, hG, hA⟩ := C
  intro H locs ls hP hD hS hl
  exact lv_lor hx hb d (h H locs ls hP hD hS hl)
theorem j_lshl (C : Cx D ca sd cc own ret R0 k nL) {x : Int64} {y : Int32} (d : decode cc pc = .ok (.lshl, 1))  (h : J l D k nL cells slots (pc + 1) (ws) (lv) (.long (x <<< (y.toInt64 &&& 63)) :: st)) : J l D k nL cells slots (pc) (ws) (lv) (.int y :: .long x :: st) := by
  obtain ⟨p, e, R, s, m, args, below, meth, c, Q, A, B⟩ := k
  obtain ⟨hx, hb, hr, hml, hown, hts, hlocks, hR0, hK, hG, hA⟩ := C
  intro H locs ls hP hD hS hl
  exact lv_lshl hx hb d rfl (h H locs ls hP hD hS hl)
theorem j_i2l (C : Cx D ca sd cc own ret R0 k nL) {x : Int32} (d : decode cc pc = .ok (.i2l, 1))  (h : J l D k nL cells slots (pc + 1) (ws) (lv) (.long x.toInt64 :: st)) : J l D k nL cells slots (pc) (ws) (lv) (.int x :: st) := by
  obtain ⟨p, e, R, s, m, args, below, meth, c, Q, A, B⟩ := k
  obtain ⟨hx, hb, hr, hml, hown, hts, hlocks, hR0, hK, hG, hA⟩ := C
  intro H locs ls hP hD hS hl
  exact lv_i2l hx hb d rfl (h H locs ls hP hD hS hl)
theorem j_l2i (C : Cx D ca sd cc own ret R0 k nL) {x : Int64} (d : decode cc pc = .ok (.l2i, 1))  (h : J l D k nL cells slots (pc + 1) (ws) (lv) (.int x.toInt32 :: st)) : J l D k nL cells slots (pc) (ws) (lv) (.long x :: st) := by
  obtain ⟨p, e, R, s, m, args, below, meth, c, Q, A, B⟩ := k
  obtain ⟨hx, hb, hr, hml, hown, hts, hlocks, hR0, hK, hG, hA⟩ := C
  intro H locs ls hP hD hS hl
  exact lv_l2i hx hb d rfl (h H locs ls hP hD hS hl)
theorem j_i2b (C : Cx D ca sd cc own ret R0 k nL) {x : Int32} (d : decode cc pc = .ok (.i2b, 1))  (h : J l D k nL cells slots (pc + 1) (ws) (lv) (.int x.toInt8.toInt32 :: st)) : J l D k nL cells slots (pc) (ws) (lv) (.int x :: st) := by
  obtain ⟨p, e, R, s, m, args, below, meth, c, Q, A, B⟩ := k
  obtain ⟨hx, hb, hr, hml, hown, hts, hlocks, hR0, hK, hG, hA⟩ := C
  intro H locs ls hP hD hS hl
  exact lv_i2b hx hb d rfl (h H locs ls hP hD hS hl)
theorem j_i2s (C : Cx D ca sd cc own ret R0 k nL) {x : Int32} (d : decode cc pc = .ok (.i2s, 1))  (h : J l D k nL cells slots (pc + 1) (ws) (lv) (.int x.toInt16.toInt32 :: st)) : J l D k nL cells slots (pc) (ws) (lv) (.int x :: st) := by
  obtain ⟨p, e, R, s, m, args, below, meth, c, Q, A, B⟩ := k
  obtain ⟨hx, hb, hr, hml, hown, hts, hlocks, hR0, hK, hG, hA⟩ := C
  intro H locs ls hP hD hS hl
  exact lv_i2s hx hb d rfl (h H locs ls hP hD hS hl)
theorem j_i2c (C : Cx D ca sd cc own ret R0 k nL) {x : Int32} (d : decode cc pc = .ok (.i2c, 1))  (h : J l D k nL cells slots (pc + 1) (ws) (lv) (.int (x.toUInt32 % 65536).toInt32 :: st)) : J l D k nL cells slots (pc) (ws) (lv) (.int x :: st) := by
  obtain ⟨p, e, R, s, m, args, below, meth, c, Q, A, B⟩ := k
  obtain ⟨hx, hb, hr, hml, hown, hts, hlocks, hR0, hK, hG, hA⟩ := C
  intro H locs ls hP hD hS hl
  exact lv_i2c hx hb d rfl (h H locs ls hP hD hS hl)
theorem j_lcmp (C : Cx D ca sd cc own ret R0 k nL) {x y : Int64} (d : decode cc pc = .ok (.lcmp, 1))  (h : J l D k nL cells slots (pc + 1) (ws) (lv) (.int (lg_cmp x y) :: st)) : J l D k nL cells slots (pc) (ws) (lv) (.long y :: .long x :: st) := by
  obtain ⟨p, e, R, s, m, args, below, meth, c, Q, A, B⟩ := k
  obtain ⟨hx, hb, hr, hml, hown, hts, hlocks, hR0, hK, hG, hA⟩ := C
  intro H locs ls hP hD hS hl
  exact W.lcmp hx hb d (h H locs ls hP hD hS hl)
theorem j_dup (C : Cx D ca sd cc own ret R0 k nL) {a : Value} (d : decode cc pc = .ok (.dup, 1)) (ha : a.category = 1) (h : J l D k nL cells slots (pc + 1) (ws) (lv) (a :: a :: st)) : J l D k nL cells slots (pc) (ws) (lv) (a :: st) := by
  obtain ⟨p, e, R, s, m, args, below, meth, c, Q, A, B⟩ := k
  obtain ⟨hx, hb, hr, hml, hown, hts, hlocks, hR0, hK, hG, hA⟩ := C
  intro H locs ls hP hD hS hl
  exact lv_dup hx hb d ha (h H locs ls hP hD hS hl)
theorem j_dup2 (C : Cx D ca sd cc own ret R0 k nL) {a b : Value} (d : decode cc pc = .ok (.dup2, 1)) (ha : a.category = 1) (hb2 : b.category = 1) (h : J l D k nL cells slots (pc + 1) (ws) (lv) (a :: b :: a :: b :: st)) : J l D k nL cells slots (pc) (ws) (lv) (a :: b :: st) := by
  obtain ⟨p, e, R, s, m, args, below, meth, c, Q, A, B⟩ := k
  obtain ⟨hx, hb, hr, hml, hown, hts, hlocks, hR0, hK, hG, hA⟩ := C
  intro H locs ls hP hD hS hl
  exact lv_dup2_11 hx hb d ha hb2 (h H locs ls hP hD hS hl)
theorem j_pop (C : Cx D ca sd cc own ret R0 k nL) {a : Value} (d : decode cc pc = .ok (.pop, 1)) (ha : a.category = 1) (h : J l D k nL cells slots (pc + 1) (ws) (lv) (st)) : J l D k nL cells slots (pc) (ws) (lv) (a :: st) := by
  obtain ⟨p, e, R, s, m, args, below, meth, c, Q, A, B⟩ := k
  obtain ⟨hx, hb, hr, hml, hown, hts, hlocks, hR0, hK, hG, hA⟩ := C
  intro H locs ls hP hD hS hl
  exact lv_pop hx hb d ha (h H locs ls hP hD hS hl)
theorem j_if_eq (C : Cx D ca sd cc own ret R0 k nL) {x : Int32} {off : Int} (tgt : Nat) (d : decode cc pc = .ok (.ifCond .eq off, 3)) (ht : (pc : Int) + off = (tgt : Int)) (kt : x = 0 → J l D k nL cells slots (tgt) (ws) (lv) (st)) (kf : ¬ x = 0 → J l D k nL cells slots (pc + 3) (ws) (lv) (st)) : J l D k nL cells slots (pc) (ws) (lv) (.int x :: st) := by
  obtain ⟨p, e, R, s, m, args, below, meth, c, Q, A, B⟩ := k
  obtain ⟨hx, hb, hr, hml, hown, hts, hlocks, hR0, hK, hG, hA⟩ := C
  intro H locs ls hP hD hS hl
  exact lv_if_eq hx hb d ht (fun z => kt z H locs ls hP hD hS hl) (fun z => kf z H locs ls hP hD hS hl)
theorem j_icmp_eq (C : Cx D ca sd cc own ret R0 k nL) {x y : Int32} {off : Int} (tgt : Nat) (d : decode cc pc = .ok (.if_icmp .eq off, 3)) (ht : (pc : Int) + off = (tgt : Int)) (kt : x = y → J l D k nL cells slots (tgt) (ws) (lv) (st)) (kf : ¬ x = y → J l D k nL cells slots (pc + 3) (ws) (lv) (st)) : J l D k nL cells slots (pc) (ws) (lv) (.int y :: .int x :: st) := by
  obtain ⟨p, e, R, s, m, args, below, meth, c, Q, A, B⟩ := k
  obtain ⟨hx, hb, hr, hml, hown, hts, hlocks, hR0, hK, hG, hA⟩ := C
  intro H locs ls hP hD hS hl
  exact lv_icmp_eq hx hb d ht (fun z => kt z H locs ls hP hD hS hl) (fun z => kf z H locs ls hP hD hS hl)
theorem j_if_ne (C : Cx D ca sd cc own ret R0 k nL) {x : Int32} {off : Int} (tgt : Nat) (d : decode cc pc = .ok (.ifCond .ne off, 3)) (ht : (pc : Int) + off = (tgt : Int)) (kt : ¬ x = 0 → J l D k nL cells slots (tgt) (ws) (lv) (st)) (kf : x = 0 → J l D k nL cells slots (pc + 3) (ws) (lv) (st)) : J l D k nL cells slots (pc) (ws) (lv) (.int x :: st) := by
  obtain ⟨p, e, R, s, m, args, below, meth, c, Q, A, B⟩ := k
  obtain ⟨hx, hb, hr, hml, hown, hts, hlocks, hR0, hK, hG, hA⟩ := C
  intro H locs ls hP hD hS hl
  exact lv_if_ne hx hb d ht (fun z => kt z H locs ls hP hD hS hl) (fun z => kf z H locs ls hP hD hS hl)
theorem j_icmp_ne (C : Cx D ca sd cc own ret R0 k nL) {x y : Int32} {off : Int} (tgt : Nat) (d : decode cc pc = .ok (.if_icmp .ne off, 3)) (ht : (pc : Int) + off = (tgt : Int)) (kt : ¬ x = y → J l D k nL cells slots (tgt) (ws) (lv) (st)) (kf : x = y → J l D k nL cells slots (pc + 3) (ws) (lv) (st)) : J l D k nL cells slots (pc) (ws) (lv) (.int y :: .int x :: st) := by
  obtain ⟨p, e, R, s, m, args, below, meth, c, Q, A, B⟩ := k
  obtain ⟨hx, hb, hr, hml, hown, hts, hlocks, hR0, hK, hG, hA⟩ := C
  intro H locs ls hP hD hS hl
  exact lv_icmp_ne hx hb d ht (fun z => kt z H locs ls hP hD hS hl) (fun z => kf z H locs ls hP hD hS hl)
theorem j_if_lt (C : Cx D ca sd cc own ret R0 k nL) {x : Int32} {off : Int} (tgt : Nat) (d : decode cc pc = .ok (.ifCond .lt off, 3)) (ht : (pc : Int) + off = (tgt : Int)) (kt : x < 0 → J l D k nL cells slots (tgt) (ws) (lv) (st)) (kf : ¬ x < 0 → J l D k nL cells slots (pc + 3) (ws) (lv) (st)) : J l D k nL cells slots (pc) (ws) (lv) (.int x :: st) := by
  obtain ⟨p, e, R, s, m, args, below, meth, c, Q, A, B⟩ := k
  obtain ⟨hx, hb, hr, hml, hown, hts, hlocks, hR0, hK, hG, hA⟩ := C
  intro H locs ls hP hD hS hl
  exact lv_if_lt hx hb d ht (fun z => kt z H locs ls hP hD hS hl) (fun z => kf z H locs ls hP hD hS hl)
theorem j_icmp_lt (C : Cx D ca sd cc own ret R0 k nL) {x y : Int32} {off : Int} (tgt : Nat) (d : decode cc pc = .ok (.if_icmp .lt off, 3)) (ht : (pc : Int) + off = (tgt : Int)) (kt : x < y → J l D k nL cells slots (tgt) (ws) (lv) (st)) (kf : ¬ x < y → J l D k nL cells slots (pc + 3) (ws) (lv) (st)) : J l D k nL cells slots (pc) (ws) (lv) (.int y :: .int x :: st) := by
  obtain ⟨p, e, R, s, m, args, below, meth, c, Q, A, B⟩ := k
  obtain ⟨hx, hb, hr, hml, hown, hts, hlocks, hR0, hK, hG, hA⟩ := C
  intro H locs ls hP hD hS hl
  exact lv_icmp_lt hx hb d ht (fun z => kt z H locs ls hP hD hS hl) (fun z => kf z H locs ls hP hD hS hl)
theorem j_if_ge (C : Cx D ca sd cc own ret R0 k nL) {x : Int32} {off : Int} (tgt : Nat) (d : decode cc pc = .ok (.ifCond .ge off, 3)) (ht : (pc : Int) + off = (tgt : Int)) (kt : 0 ≤ x → J l D k nL cells slots (tgt) (ws) (lv) (st)) (kf : ¬ 0 ≤ x → J l D k nL cells slots (pc + 3) (ws) (lv) (st)) : J l D k nL cells slots (pc) (ws) (lv) (.int x :: st) := by
  obtain ⟨p, e, R, s, m, args, below, meth, c, Q, A, B⟩ := k
  obtain ⟨hx, hb, hr, hml, hown, hts, hlocks, hR0, hK, hG, hA⟩ := C
  intro H locs ls hP hD hS hl
  exact lv_if_ge hx hb d ht (fun z => kt z H locs ls hP hD hS hl) (fun z => kf z H locs ls hP hD hS hl)
theorem j_icmp_ge (C : Cx D ca sd cc own ret R0 k nL) {x y : Int32} {off : Int} (tgt : Nat) (d : decode cc pc = .ok (.if_icmp .ge off, 3)) (ht : (pc : Int) + off = (tgt : Int)) (kt : y ≤ x → J l D k nL cells slots (tgt) (ws) (lv) (st)) (kf : ¬ y ≤ x → J l D k nL cells slots (pc + 3) (ws) (lv) (st)) : J l D k nL cells slots (pc) (ws) (lv) (.int y :: .int x :: st) := by
  obtain ⟨p, e, R, s, m, args, below, meth, c, Q, A, B⟩ := k
  obtain ⟨hx, hb, hr, hml, hown, hts, hlocks, hR0, hK, hG, hA⟩ := C
  intro H locs ls hP hD hS hl
  exact lv_icmp_ge hx hb d ht (fun z => kt z H locs ls hP hD hS hl) (fun z => kf z H locs ls hP hD hS hl)
theorem j_if_gt (C : Cx D ca sd cc own ret R0 k nL) {x : Int32} {off : Int} (tgt : Nat) (d : decode cc pc = .ok (.ifCond .gt off, 3)) (ht : (pc : Int) + off = (tgt : Int)) (kt : 0 < x → J l D k nL cells slots (tgt) (ws) (lv) (st)) (kf : ¬ 0 < x → J l D k nL cells slots (pc + 3) (ws) (lv) (st)) : J l D k nL cells slots (pc) (ws) (lv) (.int x :: st) := by
  obtain ⟨p, e, R, s, m, args, below, meth, c, Q, A, B⟩ := k
  obtain ⟨hx, hb, hr, hml, hown, hts, hlocks, hR0, hK, hG, hA⟩ := C
  intro H locs ls hP hD hS hl
  exact lv_if_gt hx hb d ht (fun z => kt z H locs ls hP hD hS hl) (fun z => kf z H locs ls hP hD hS hl)
theorem j_icmp_gt (C : Cx D ca sd cc own ret R0 k nL) {x y : Int32} {off : Int} (tgt : Nat) (d : decode cc pc = .ok (.if_icmp .gt off, 3)) (ht : (pc : Int) + off = (tgt : Int)) (kt : y < x → J l D k nL cells slots (tgt) (ws) (lv) (st)) (kf : ¬ y < x → J l D k nL cells slots (pc + 3) (ws) (lv) (st)) : J l D k nL cells slots (pc) (ws) (lv) (.int y :: .int x :: st) := by
  obtain ⟨p, e, R, s, m, args, below, meth, c, Q, A, B⟩ := k
  obtain ⟨hx, hb, hr, hml, hown, hts, hlocks, hR0, hK, hG, hA⟩ := C
  intro H locs ls hP hD hS hl
  exact lv_icmp_gt hx hb d ht (fun z => kt z H locs ls hP hD hS hl) (fun z => kf z H locs ls hP hD hS hl)
theorem j_if_le (C : Cx D ca sd cc own ret R0 k nL) {x : Int32} {off : Int} (tgt : Nat) (d : decode cc pc = .ok (.ifCond .le off, 3)) (ht : (pc : Int) + off = (tgt : Int)) (kt : x ≤ 0 → J l D k nL cells slots (tgt) (ws) (lv) (st)) (kf : ¬ x ≤ 0 → J l D k nL cells slots (pc + 3) (ws) (lv) (st)) : J l D k nL cells slots (pc) (ws) (lv) (.int x :: st) := by
  obtain ⟨p, e, R, s, m, args, below, meth, c, Q, A, B⟩ := k
  obtain ⟨hx, hb, hr, hml, hown, hts, hlocks, hR0, hK, hG, hA⟩ := C
  intro H locs ls hP hD hS hl
  exact lv_if_le hx hb d ht (fun z => kt z H locs ls hP hD hS hl) (fun z => kf z H locs ls hP hD hS hl)
theorem j_icmp_le (C : Cx D ca sd cc own ret R0 k nL) {x y : Int32} {off : Int} (tgt : Nat) (d : decode cc pc = .ok (.if_icmp .le off, 3)) (ht : (pc : Int) + off = (tgt : Int)) (kt : x ≤ y → J l D k nL cells slots (tgt) (ws) (lv) (st)) (kf : ¬ x ≤ y → J l D k nL cells slots (pc + 3) (ws) (lv) (st)) : J l D k nL cells slots (pc) (ws) (lv) (.int y :: .int x :: st) := by
  obtain ⟨p, e, R, s, m, args, below, meth, c, Q, A, B⟩ := k
  obtain ⟨hx, hb, hr, hml, hown, hts, hlocks, hR0, hK, hG, hA⟩ := C
  intro H locs ls hP hD hS hl
  exact lv_icmp_le hx hb d ht (fun z => kt z H locs ls hP hD hS hl) (fun z => kf z H locs ls hP hD hS hl)
theorem j_goto (C : Cx D ca sd cc own ret R0 k nL) {off : Int} (tgt : Nat) (d : decode cc pc = .ok (.goto off, 3)) (ht : (pc : Int) + off = (tgt : Int)) (h : J l D k nL cells slots (tgt) (ws) (lv) (st)) : J l D k nL cells slots (pc) (ws) (lv) (st) := by
  obtain ⟨p, e, R, s, m, args, below, meth, c, Q, A, B⟩ := k
  obtain ⟨hx, hb, hr, hml, hown, hts, hlocks, hR0, hK, hG, hA⟩ := C
  intro H locs ls hP hD hS hl
  exact lv_goto hx hb d ht (h H locs ls hP hD hS hl)
theorem j_tabIn (C : Cx D ca sd cc own ret R0 k nL) {dflt lo hi off : Int} {offs : Array Int} {len : Nat} {x : Int32} (v : Int32) (tgt : Nat) (d : decode cc pc = .ok (.tableswitch dflt lo hi offs, len)) (hv : x = v) (h1 : ¬ v.toInt < lo) (h2 : ¬ hi < v.toInt) (ho : offs[(v.toInt - lo).toNat]? = some off) (ht : (pc : Int) + off = (tgt : Int)) (h : J l D k nL cells slots (tgt) (ws) (lv) (st)) : J l D k nL cells slots (pc) (ws) (lv) (.int x :: st) := by
  subst hv
  obtain ⟨p, e, R, s, m, args, below, meth, c, Q, A, B⟩ := k
  obtain ⟨hx, hb, hr, hml, hown, hts, hlocks, hR0, hK, hG, hA⟩ := C
  intro H locs ls hP hD hS hl
  exact lv_tableIn hx hb d h1 h2 ho ht (h H locs ls hP hD hS hl)
theorem j_tabOut (C : Cx D ca sd cc own ret R0 k nL) {dflt lo hi : Int} {offs : Array Int} {len : Nat} {x : Int32} (tgt : Nat) (d : decode cc pc = .ok (.tableswitch dflt lo hi offs, len)) (hv : x.toInt < lo ∨ hi < x.toInt) (ht : (pc : Int) + dflt = (tgt : Int)) (h : J l D k nL cells slots (tgt) (ws) (lv) (st)) : J l D k nL cells slots (pc) (ws) (lv) (.int x :: st) := by
  obtain ⟨p, e, R, s, m, args, below, meth, c, Q, A, B⟩ := k
  obtain ⟨hx, hb, hr, hml, hown, hts, hlocks, hR0, hK, hG, hA⟩ := C
  intro H locs ls hP hD hS hl
  exact lv_tableOut hx hb d hv ht (h H locs ls hP hD hS hl)
theorem j_look (C : Cx D ca sd cc own ret R0 k nL) {dflt off : Int} {ps : Array (Int × Int)} {len : Nat} {x : Int32} (tgt : Nat) (d : decode cc pc = .ok (.lookupswitch dflt ps, len)) (hp : (ps.toList.zip (ps.toList.drop 1)).all (fun (a, next) => a.1 < next.1) = true) (ho : Op.lookupswitch.offset ps.toList dflt x.toInt = off) (ht : (pc : Int) + off = (tgt : Int)) (h : J l D k nL cells slots (tgt) (ws) (lv) (st)) : J l D k nL cells slots (pc) (ws) (lv) (.int x :: st) := by
  obtain ⟨p, e, R, s, m, args, below, meth, c, Q, A, B⟩ := k
  obtain ⟨hx, hb, hr, hml, hown, hts, hlocks, hR0, hK, hG, hA⟩ := C
  intro H locs ls hP hD hS hl
  exact lv_lookup hx hb d hp ho ht (h H locs ls hP hD hS hl)
/-- a field's link: owner and entry; class number and slot -/
def FL (own : String) (index ci kf : Nat) : Prop := ∃ (C : String) (T : u_T) (N : Nat), vwCl[ci]? = some (C, T, N) ∧ kf < N ∧ (∀ w ∈ u_ws C T N, w ∈ TB) ∧ Cond.fieldLink own index (T kf).1 (T kf).2.1 (T kf).2.2.1 ∈ TB
/-- the same, to write: not final, its type -/
def FW (own : String) (index ci kf : Nat) (fin : Bool) (ty : FieldType) : Prop := ∃ (C : String) (T : u_T) (N : Nat) (ty0 : Nat → FieldType), vwCl[ci]? = some (C, T, N) ∧ kf < N ∧ (∀ w ∈ u_ws C T N, w ∈ TB) ∧ Cond.fieldLink own index (T kf).1 (T kf).2.1 (T kf).2.2.1 ∈ TB ∧ (∀ k, k < N → parseFieldDescriptor (T k).2.2.1 = some (ty0 k)) ∧ (∀ a, a < N → ∀ b, b < N → a ≠ b → (T a).2.1 ≠ (T b).2.1) ∧ (T kf).2.2.2 = fin ∧ parseFieldDescriptor (T kf).2.2.1 = some ty ∧ (fin = true → (T kf).1 = own)
theorem j_get (C : Cx D ca sd cc own ret R0 k nL) {index ci kf a : Nat} {fs : List Value} {v : Value} (fl : FL own index ci kf) (q0 : Nat) (d : decode cc pc = .ok (.getfield index, 3)) (he : ws[q0]? = some (a, .inr (ci, fs))) (hv : fs[kf]? = some v) (h : J l D k nL cells slots (pc + 3) (ws) (lv) (v :: st)) : J l D k nL cells slots (pc) (ws) (lv) (.ref a :: st) := by
  obtain ⟨C1, T, N, hc, hk, hin, hlk⟩ := fl
  obtain ⟨p, e, R, s, m, args, below, meth, c, Q, A, B⟩ := k
  obtain ⟨hx, hb, hr, hml, hown, hts, hlocks, hR0, hK, hG, hA⟩ := C
  intro H locs ls hP hD hS hl
  exact va_get hx hb hts hin hown hK hP q0 he hc kf hk (hts _ hlk) (fun _ h9 => h9) hv d (h H locs ls hP hD hS hl)
theorem j_put (C : Cx D ca sd cc own ret R0 k nL) (hB : Wx k) {index ci kf a : Nat} {ty : FieldType} {fs : List Value} {v : Value} (fl : FW own index ci kf false ty) (q0 : Nat) (ws' : va_W) (d : decode cc pc = .ok (.putfield index, 3)) (he : ws[q0]? = some (a, .inr (ci, fs))) (hn : narrow ty v = v) (hfit : fits ty v = true) (hlen : kf < fs.length) (hw : ws.set q0 (a, .inr (ci, fs.set kf v)) = ws') (h : J l D k nL cells slots (pc + 3) (ws') (lv) (st)) : J l D k nL cells slots (pc) (ws) (lv) (v :: .ref a :: st) := by
  obtain ⟨C1, T, N, ty0, hc, hk, hin, hlk, hty, hnm, hfin, hd, -⟩ := fl
  subst hw
  obtain ⟨p, e, R, s, m, args, below, meth, c, Q, A, B⟩ := k
  obtain ⟨hx, hb, hr, hml, hown, hts, hlocks, hR0, hK, hG, hA⟩ := C
  obtain rfl := hB
  intro H locs ls hP hD hS hl
  exact va_put hx hb hts hin ty0 hty hnm hown hK hP hD hS q0 he hc kf hk (hts _ hlk) (fun _ h9 => h9) hfin hd hn hfit hlen d (fun H locs hP hD hS => h H locs ls hP hD hS hl)
theorem j_putF (C : Cx D ca sd cc own ret R0 k nL) (hB : Wx k) (hI : Ix k) {index ci kf a : Nat} {ty : FieldType} {fs : List Value} {v : Value} (fl : FW own index ci kf true ty) (q0 : Nat) (ws' : va_W) (d : decode cc pc = .ok (.putfield index, 3)) (he : ws[q0]? = some (a, .inr (ci, fs))) (hn : narrow ty v = v) (hfit : fits ty v = true) (hlen : kf < fs.length) (hw : ws.set q0 (a, .inr (ci, fs.set kf v)) = ws') (h : J l D k nL cells slots (pc + 3) (ws') (lv) (st)) : J l D k nL cells slots (pc) (ws) (lv) (v :: .ref a :: st) := by
  obtain ⟨C1, T, N, ty0, hc, hk, hin, hlk, hty, hnm, hfin, hd, ho⟩ := fl
  subst hw
  obtain ⟨p, e, R, s, m, args, below, meth, c, Q, A, B⟩ := k
  obtain ⟨hx, hb, hr, hml, hown, hts, hlocks, hR0, hK, hG, hA⟩ := C
  obtain rfl := hB
  intro H locs ls hP hD hS hl
  exact va_putF hx hb hts hin ty0 hty hnm hown hK hP hD hS q0 he hc kf hk (hts _ hlk) (fun _ h9 => h9) hfin hI (ho rfl) hd hn hfit hlen d (fun H locs hP hD hS => h H locs ls hP hD hS hl)
theorem j_iald (C : Cx D ca sd cc own ret R0 k nL) {a n : Nat} {f : Nat → Int32} {i : Int32} (q0 : Nat) (d : decode cc pc = .ok (.iaload, 1)) (ha : ws[q0]? = some (a, .inl (ca 0, n, .inl f))) (hin : vp_in i n) (h : J l D k nL cells slots (pc + 1) (ws) (lv) (.int (f i.toNatClampNeg) :: st)) : J l D k nL cells slots (pc) (ws) (lv) (.int i :: .ref a :: st) := by
  obtain ⟨p, e, R, s, m, args, below, meth, c, Q, A, B⟩ := k
  obtain ⟨hx, hb, hr, hml, hown, hts, hlocks, hR0, hK, hG, hA⟩ := C
  intro H locs ls hP hD hS hl
  exact va_iald hx hb hK hP q0 0 ha rfl hin d (h H locs ls hP hD hS hl)
theorem j_lald (C : Cx D ca sd cc own ret R0 k nL) {a n : Nat} {f : Nat → Int64} {i : Int32} (q0 : Nat) (d : decode cc pc = .ok (.laload, 1)) (ha : ws[q0]? = some (a, .inl (ca 1, n, .inr (.inl f)))) (hin : vp_in i n) (h : J l D k nL cells slots (pc + 1) (ws) (lv) (.long (f i.toNatClampNeg) :: st)) : J l D k nL cells slots (pc) (ws) (lv) (.int i :: .ref a :: st) := by
  obtain ⟨p, e, R, s, m, args, below, meth, c, Q, A, B⟩ := k
  obtain ⟨hx, hb, hr, hml, hown, hts, hlocks, hR0, hK, hG, hA⟩ := C
  intro H locs ls hP hD hS hl
  exact va_lald hx hb hK hP q0 1 ha rfl hin d (h H locs ls hP hD hS hl)
theorem j_bald (C : Cx D ca sd cc own ret R0 k nL) {a n : Nat} {f : Nat → Int32} {i : Int32} (q0 : Nat) (d : decode cc pc = .ok (.baload, 1)) (ha : ws[q0]? = some (a, .inl (ca 2, n, .inl f))) (hin : vp_in i n) (h : J l D k nL cells slots (pc + 1) (ws) (lv) (.int (f i.toNatClampNeg) :: st)) : J l D k nL cells slots (pc) (ws) (lv) (.int i :: .ref a :: st) := by
  obtain ⟨p, e, R, s, m, args, below, meth, c, Q, A, B⟩ := k
  obtain ⟨hx, hb, hr, hml, hown, hts, hlocks, hR0, hK, hG, hA⟩ := C
  intro H locs ls hP hD hS hl
  exact va_bald hx hb hK hP q0 2 ha rfl hin d (h H locs ls hP hD hS hl)
theorem j_aald (C : Cx D ca sd cc own ret R0 k nL) {a b n ct : Nat} {E : String} {f : Nat → Option Nat} {i : Int32} (q0 : Nat) (d : decode cc pc = .ok (.aaload, 1)) (ha : ws[q0]? = some (a, .inl (ca ct, n, .inr (.inr (.inr (.inr f)))))) (ht : (gT ca)[ct]? = some (ca ct, .object E)) (hin : vp_in i n) (hv : f i.toNatClampNeg = some b) (h : J l D k nL cells slots (pc + 1) (ws) (lv) (.ref b :: st)) : J l D k nL cells slots (pc) (ws) (lv) (.int i :: .ref a :: st) := by
  obtain ⟨p, e, R, s, m, args, below, meth, c, Q, A, B⟩ := k
  obtain ⟨hx, hb, hr, hml, hown, hts, hlocks, hR0, hK, hG, hA⟩ := C
  intro H locs ls hP hD hS hl
  refine va_aldq hx hb hK hP q0 ct ha ht hin d ?_
  rw [hv]
  exact h H locs ls hP hD hS hl
theorem j_iast (C : Cx D ca sd cc own ret R0 k nL) (hB : Wx k) {a n : Nat} {f : Nat → Int32} {i : Int32} {x : Int32} (q0 : Nat) (ws' : va_W) (d : decode cc pc = .ok (.iastore, 1)) (ha : ws[q0]? = some (a, .inl (ca 0, n, .inl f))) (hin : vp_in i n) (hw : ws.set q0 (a, .inl (ca 0, n, .inl (upd f i.toNatClampNeg x))) = ws') (h : J l D k nL cells slots (pc + 1) (ws') (lv) (st)) : J l D k nL cells slots (pc) (ws) (lv) (.int x :: .int i :: .ref a :: st) := by
  subst hw
  obtain ⟨p, e, R, s, m, args, below, meth, c, Q, A, B⟩ := k
  obtain ⟨hx, hb, hr, hml, hown, hts, hlocks, hR0, hK, hG, hA⟩ := C
  obtain rfl := hB
  intro H locs ls hP hD hS hl
  exact va_iast hx hb hK hP hD hS q0 0 ha rfl hin d (fun H locs hP hD hS => h H locs ls hP hD hS hl)
theorem j_last (C : Cx D ca sd cc own ret R0 k nL) (hB : Wx k) {a n : Nat} {f : Nat → Int64} {i : Int32} {x : Int64} (q0 : Nat) (ws' : va_W) (d : decode cc pc = .ok (.lastore, 1)) (ha : ws[q0]? = some (a, .inl (ca 1, n, .inr (.inl f)))) (hin : vp_in i n) (hw : ws.set q0 (a, .inl (ca 1, n, .inr (.inl (vp_updL f i.toNatClampNeg x)))) = ws') (h : J l D k nL cells slots (pc + 1) (ws') (lv) (st)) : J l D k nL cells slots (pc) (ws) (lv) (.long x :: .int i :: .ref a :: st) := by
  subst hw
  obtain ⟨p, e, R, s, m, args, below, meth, c, Q, A, B⟩ := k
  obtain ⟨hx, hb, hr, hml, hown, hts, hlocks, hR0, hK, hG, hA⟩ := C
  obtain rfl := hB
  intro H locs ls hP hD hS hl
  exact va_last hx hb hK hP hD hS q0 1 ha rfl hin d (fun H locs hP hD hS => h H locs ls hP hD hS hl)
theorem j_bast (C : Cx D ca sd cc own ret R0 k nL) (hB : Wx k) {a n : Nat} {f : Nat → Int32} {i : Int32} {x : Int32} (q0 : Nat) (ws' : va_W) (d : decode cc pc = .ok (.bastore, 1)) (ha : ws[q0]? = some (a, .inl (ca 2, n, .inl f))) (hin : vp_in i n) (hw : ws.set q0 (a, .inl (ca 2, n, .inl (upd f i.toNatClampNeg (vp_nar .byte x)))) = ws') (h : J l D k nL cells slots (pc + 1) (ws') (lv) (st)) : J l D k nL cells slots (pc) (ws) (lv) (.int x :: .int i :: .ref a :: st) := by
  subst hw
  obtain ⟨p, e, R, s, m, args, below, meth, c, Q, A, B⟩ := k
  obtain ⟨hx, hb, hr, hml, hown, hts, hlocks, hR0, hK, hG, hA⟩ := C
  obtain rfl := hB
  intro H locs ls hP hD hS hl
  exact va_bast hx hb hK hP hD hS q0 2 ha rfl hin d (fun H locs hP hD hS => h H locs ls hP hD hS hl)
theorem j_alen (C : Cx D ca sd cc own ret R0 k nL) {a ct : Nat} {x : vp_A} {ty : FieldType} (q0 : Nat) (v : Int32) (d : decode cc pc = .ok (.arraylength, 1)) (ha : ws[q0]? = some (a, .inl (ca ct, x))) (ht : (gT ca)[ct]? = some (ca ct, ty)) (hv : Int32.ofNat x.1 = v) (h : J l D k nL cells slots (pc + 1) (ws) (lv) (.int v :: st)) : J l D k nL cells slots (pc) (ws) (lv) (.ref a :: st) := by
  obtain ⟨p, e, R, s, m, args, below, meth, c, Q, A, B⟩ := k
  obtain ⟨hx, hb, hr, hml, hown, hts, hlocks, hR0, hK, hG, hA⟩ := C
  intro H locs ls hP hD hS hl
  exact va_alen hx hb hK hP q0 ct ha ht hv d (h H locs ls hP hD hS hl)
/-- the cells in another order, the locals in another order -/
theorem j_sub (is js : List Nat) (ws' : va_W) (lv' : List (Nat × Value)) (hn : va_nd is = true) (hw : is.map (fun i => ws[i]?) = ws'.map some) (hl' : lv_pick lv js = lv') (h : J l D k nL cells slots (pc) (ws') (lv') (st)) : J l D k nL cells slots (pc) (ws) (lv) (st) := by
  obtain ⟨p, e, R, s, m, args, below, meth, c, Q, A, B⟩ := k
  intro H locs ls hP hD hS hl
  refine h H locs ls (hP.sub is ?_) (hD.sub is hn hw) hS (lv_sub hl js hl')
  have : is.filterMap (fun i => ws[i]?) = (is.map (fun i => ws[i]?)).filterMap id := by rw [List.filterMap_map]; rfl
  rw [this, hw, List.filterMap_map]
  simp
theorem j_lsub (js : List Nat) (lv' : List (Nat × Value)) (hl' : lv_pick lv js = lv') (h : J l D k nL cells slots (pc) (ws) (lv') (st)) : J l D k nL cells slots (pc) (ws) (lv) (st) := by
  obtain ⟨p, e, R, s, m, args, below, meth, c, Q, A, B⟩ := k
  intro H locs ls hP hD hS hl
  exact h H locs ls hP hD hS (lv_sub hl js hl')
theorem j_wsub (is : List Nat) (ws' : va_W) (hn : va_nd is = true) (hw : is.map (fun i => ws[i]?) = ws'.map some) (h : J l D k nL cells slots (pc) (ws') (lv) (st)) : J l D k nL cells slots (pc) (ws) (lv) (st) := by
  obtain ⟨p, e, R, s, m, args, below, meth, c, Q, A, B⟩ := k
  intro H locs ls hP hD hS hl
  refine h H locs ls (hP.sub is ?_) (hD.sub is hn hw) hS hl
  have : is.filterMap (fun i => ws[i]?) = (is.map (fun i => ws[i]?)).filterMap id := by rw [List.filterMap_map]; rfl
  rw [this, hw, List.filterMap_map]
  simp
theorem j_widen {c1 s1 : Nat} (h1 : cells ≤ c1) (h2 : slots ≤ s1) (h : J l D k nL c1 s1 (pc) (ws) (lv) (st)) : J l D k nL cells slots (pc) (ws) (lv) (st) := by
  obtain ⟨p, e, R, s, m, args, below, meth, c, Q, A, B⟩ := k
  intro H locs ls hP hD hS hl
  exact W.widen h1 h2 (h H locs ls hP hD hS hl)
theorem j_eq {ws' : va_W} {lv' : List (Nat × Value)} {st' : List Value} (h1 : ws = ws') (h2 : lv = lv') (h3 : st = st') (h : J l D k nL cells slots (pc) (ws') (lv') (st')) : J l D k nL cells slots (pc) (ws) (lv) (st) := by
  subst h1; subst h2; subst h3; exact h
theorem j_iret (C : Cx D ca sd cc own ret R0 k nL) (hB : Wx k) {S : Type} {post : Int32 → S → Prop} {wB : S → va_W} (hR : Rx (Ri D post wB) cells slots k) {v : Int32} (u : S) (hret : ret = some .int) (d : decode cc pc = .ok (.ireturn, 1)) (hp : post v u) (hw : ws = wB u) : J l D k nL cells slots (pc) (ws) (lv) ([.int v]) := by
  subst hw
  obtain ⟨p, e, R, s, m, args, below, meth, c, Q, A, B⟩ := k
  obtain ⟨hx, hb, hr, hml, hown, hts, hlocks, hR0, hK, hG, hA⟩ := C
  obtain rfl := hB
  obtain rfl := hR
  subst hret
  intro H locs ls hP hD hS hl
  exact W.iret hx hb hr (fun t ht hW => ⟨⟨v, u, rfl, hp, by rw [ht]; exact hP, hD⟩, hS.F ht⟩) hS.2.2 d
theorem j_zret (C : Cx D ca sd cc own ret R0 k nL) (hB : Wx k) {S : Type} {post : Int32 → S → Prop} {wB : S → va_W} (hR : Rx (Ri D post wB) cells slots k) {v : Int32} {ty : FieldType} (hn : narrow ty (.int v) = .int v) (u : S) (hret : ret = some ty) (d : decode cc pc = .ok (.ireturn, 1)) (hp : post v u) (hw : ws = wB u) : J l D k nL cells slots (pc) (ws) (lv) ([.int v]) := by
  subst hw
  obtain ⟨p, e, R, s, m, args, below, meth, c, Q, A, B⟩ := k
  obtain ⟨hx, hb, hr, hml, hown, hts, hlocks, hR0, hK, hG, hA⟩ := C
  obtain rfl := hB
  obtain rfl := hR
  subst hret
  intro H locs ls hP hD hS hl
  exact W.zret hx hb hr hn (fun t ht hW => ⟨⟨v, u, rfl, hp, by rw [ht]; exact hP, hD⟩, hS.F ht⟩) hS.2.2 d
theorem j_vret (C : Cx D ca sd cc own ret R0 k nL) (hB : Wx k) {S : Type} {post : S → Prop} {wB : S → va_W} (hR : Rx (Rv D post wB) cells slots k)  (u : S) (hret : ret = none) (d : decode cc pc = .ok (.return_, 1)) (hp : post u) (hw : ws = wB u) : J l D k nL cells slots (pc) (ws) (lv) ([]) := by
  subst hw
  obtain ⟨p, e, R, s, m, args, below, meth, c, Q, A, B⟩ := k
  obtain ⟨hx, hb, hr, hml, hown, hts, hlocks, hR0, hK, hG, hA⟩ := C
  obtain rfl := hB
  obtain rfl := hR
  subst hret
  intro H locs ls hP hD hS hl
  exact W.vret hx hb hr (fun t ht hW => ⟨⟨u, rfl, hp, by rw [ht]; exact hP, hD⟩, hS.F ht⟩) hS.2.2 d
theorem j_lret (C : Cx D ca sd cc own ret R0 k nL) (hB : Wx k) {S : Type} {post : Int64 → S → Prop} {wB : S → va_W} (hR : Rx (Rl D post wB) cells slots k) {v : Int64} (u : S) (hret : ret = some .long) (d : decode cc pc = .ok (.lreturn, 1)) (hp : post v u) (hw : ws = wB u) : J l D k nL cells slots (pc) (ws) (lv) ([.long v]) := by
  subst hw
  obtain ⟨p, e, R, s, m, args, below, meth, c, Q, A, B⟩ := k
  obtain ⟨hx, hb, hr, hml, hown, hts, hlocks, hR0, hK, hG, hA⟩ := C
  obtain rfl := hB
  obtain rfl := hR
  subst hret
  intro H locs ls hP hD hS hl
  exact W.lret hx hb hr (fun t ht hW => ⟨⟨v, u, rfl, hp, by rw [ht]; exact hP, hD⟩, hS.F ht⟩) hS.2.2 d
theorem j_iretR (C : Cx D ca sd cc own ret R0 k nL) {S : Type} {post : Int32 → S → Prop} (hR : Rx (Ri D post (fun _ => [])) cells slots k) {v : Int32} (u : S) (hret : ret = some .int) (d : decode cc pc = .ok (.ireturn, 1)) (hp : post v u) : J l D k nL cells slots (pc) (ws) (lv) ([.int v]) := by
  obtain ⟨p, e, R, s, m, args, below, meth, c, Q, A, B⟩ := k
  obtain ⟨hx, hb, hr, hml, hown, hts, hlocks, hR0, hK, hG, hA⟩ := C
  obtain rfl := hR
  subst hret
  intro H locs ls hP hD hS hl
  exact W.iret hx hb hr (fun t ht hW => ⟨⟨v, u, rfl, hp, va_P_nil, va_D_nil⟩, hS.F ht⟩) hS.2.2 d
theorem j_zretR (C : Cx D ca sd cc own ret R0 k nL) {S : Type} {post : Int32 → S → Prop} (hR : Rx (Ri D post (fun _ => [])) cells slots k) {v : Int32} {ty : FieldType} (hn : narrow ty (.int v) = .int v) (u : S) (hret : ret = some ty) (d : decode cc pc = .ok (.ireturn, 1)) (hp : post v u) : J l D k nL cells slots (pc) (ws) (lv) ([.int v]) := by
  obtain ⟨p, e, R, s, m, args, below, meth, c, Q, A, B⟩ := k
  obtain ⟨hx, hb, hr, hml, hown, hts, hlocks, hR0, hK, hG, hA⟩ := C
  obtain rfl := hR
  subst hret
  intro H locs ls hP hD hS hl
  exact W.zret hx hb hr hn (fun t ht hW => ⟨⟨v, u, rfl, hp, va_P_nil, va_D_nil⟩, hS.F ht⟩) hS.2.2 d
theorem j_vretR (C : Cx D ca sd cc own ret R0 k nL) {S : Type} {post : S → Prop} (hR : Rx (Rv D post (fun _ => [])) cells slots k)  (u : S) (hret : ret = none) (d : decode cc pc = .ok (.return_, 1)) (hp : post u) : J l D k nL cells slots (pc) (ws) (lv) ([]) := by
  obtain ⟨p, e, R, s, m, args, below, meth, c, Q, A, B⟩ := k
  obtain ⟨hx, hb, hr, hml, hown, hts, hlocks, hR0, hK, hG, hA⟩ := C
  obtain rfl := hR
  subst hret
  intro H locs ls hP hD hS hl
  exact W.vret hx hb hr (fun t ht hW => ⟨⟨u, rfl, hp, va_P_nil, va_D_nil⟩, hS.F ht⟩) hS.2.2 d
theorem j_lretR (C : Cx D ca sd cc own ret R0 k nL) {S : Type} {post : Int64 → S → Prop} (hR : Rx (Rl D post (fun _ => [])) cells slots k) {v : Int64} (u : S) (hret : ret = some .long) (d : decode cc pc = .ok (.lreturn, 1)) (hp : post v u) : J l D k nL cells slots (pc) (ws) (lv) ([.long v]) := by
  obtain ⟨p, e, R, s, m, args, below, meth, c, Q, A, B⟩ := k
  obtain ⟨hx, hb, hr, hml, hown, hts, hlocks, hR0, hK, hG, hA⟩ := C
  obtain rfl := hR
  subst hret
  intro H locs ls hP hD hS hl
  exact W.lret hx hb hr (fun t ht hW => ⟨⟨v, u, rfl, hp, va_P_nil, va_D_nil⟩, hS.F ht⟩) hS.2.2 d
theorem j_aretR (C : Cx D ca sd cc own ret R0 k nL) {S : Type} {post : S → Prop} {ra : S → Nat} (hR : Rx (Rr D post ra (fun _ => [])) cells slots k) {a : Nat} {E : String} (u : S) (hret : ret = some (.object E)) (d : decode cc pc = .ok (.areturn, 1)) (hp : post u) (ha : a = ra u) : J l D k nL cells slots (pc) (ws) (lv) ([.ref a]) := by
  obtain ⟨p, e, R, s, m, args, below, meth, c, Q, A, B⟩ := k
  obtain ⟨hx, hb, hr, hml, hown, hts, hlocks, hR0, hK, hG, hA⟩ := C
  obtain rfl := hR
  subst hret
  intro H locs ls hP hD hS hl
  exact W.aret hx hb hr (Or.inl ⟨_, rfl⟩) (Or.inr ⟨_, rfl⟩) (fun t ht hW => ⟨⟨u, a, rfl, hp, ha, va_P_nil, va_D_nil⟩, hS.F ht⟩) hS.2.2 d
end Jr
section Jc
variable {l : Launch} {D : va_G} {ca : Nat → ClassId} {sd : Nat → Nat} {cc : ByteArray} {own : String} {ret : Option FieldType} {R0 : Room} {k : Kx} {nL cells slots pc : Nat} {ws : va_W} {lv : List (Nat × Value)} {st : List Value}
/-- a contract out of a walk that may write -/
theorem cn_of {y : MethodName} {maxL : Nat} {rm : Room} {av : List Value} {wc : va_W} {mc ms : Nat} {Qc : (Nat → Prop) → Array Value → State → Outcome → State → Prop} (hpl : plainName y.cls = true) (hlen : (lg_sl av).length ≤ maxL)
    (body : ∀ k : Kx, Cx D ca sd cc y.cls ret rm k maxL → Rx Qc mc ms k → Wx k → (y.name = "<init>" → Ix k) → J l D k maxL 0 0 0 wc (lv_args 0 av) []) : Cn l D ca sd y cc maxL ret rm av wc wc mc ms Qc := by
  intro sz
  refine Met.ofW (cc := cc) (maxL := maxL) (ret := ret) hpl rfl ?_
  intro p e s m args below meth c s₁ B hml hv
  obtain ⟨rfl, hsz, hP, hD0, hK, hG⟩ := hv
  subst hsz
  have hts := atoms_spec (ws := .code y cc maxL ret :: TB) B.pre
  have hown : s.vm.findClass y.cls = some m.cls := findClass_of_methodNamed B.named
  have hnm := (name_of_methodNamed B.named B.method).1
  have h := body (p, e, rm, s, m, av.toArray, below, meth, c, MQ below (Qc (va_A wc s.heap.size)) av.toArray s mc ms (va_A wc s.heap.size), va_A wc s.heap.size, va_A wc s.heap.size) ⟨B.exec, B.bytes, B.returns, hml, hown, fun w hw => hts w (List.mem_cons_of_mem _ hw), B.notSynchronized, rfl, hK, hG, fun q h => Or.inr h⟩ rfl rfl (fun e => by show meth.name = "<init>"; rw [hnm]; exact e)
  rw [lg_entry_eq]
  exact h s.heap [] _ hP hD0.self va_S.rf (lv_entry av hlen)
/-- a contract out of a walk that reads alone -/
theorem cn_ofR {y : MethodName} {maxL : Nat} {rm : Room} {av : List Value} {wc : va_W} {mc ms : Nat} {Qc : (Nat → Prop) → Array Value → State → Outcome → State → Prop} (hpl : plainName y.cls = true) (hlen : (lg_sl av).length ≤ maxL)
    (body : ∀ k : Kx, Cx D ca sd cc y.cls ret rm k maxL → Rx Qc mc ms k → J l D k maxL 0 0 0 wc (lv_args 0 av) []) : Cn l D ca sd y cc maxL ret rm av wc [] mc ms Qc := by
  intro sz
  refine Met.ofW (cc := cc) (maxL := maxL) (ret := ret) hpl rfl ?_
  intro p e s m args below meth c s₁ B hml hv
  obtain ⟨rfl, hsz, hP, hD0, hK, hG⟩ := hv
  subst hsz
  have hts := atoms_spec (ws := .code y cc maxL ret :: TB) B.pre
  have hown : s.vm.findClass y.cls = some m.cls := findClass_of_methodNamed B.named
  have h := body (p, e, rm, s, m, av.toArray, below, meth, c, MQ below (Qc (va_A [] s.heap.size)) av.toArray s mc ms (va_A [] s.heap.size), va_A [] s.heap.size, fun _ => True) ⟨B.exec, B.bytes, B.returns, hml, hown, fun w hw => hts w (List.mem_cons_of_mem _ hw), B.notSynchronized, rfl, hK, hG, fun q h => Or.inr h⟩ rfl
  rw [lg_entry_eq]
  exact h s.heap [] _ hP hD0 va_S.rf (lv_entry av hlen)
/-- a call that can be run, whatever goes on behind it -/
def JR (l : Launch) (D : va_G) : Kx → Nat → Nat → Nat → Nat → va_W → List (Nat × Value) → List Value → List Value → va_W → Nat → Nat → ((Nat → Prop) → Array Value → State → Outcome → State → Prop) → List Value → Prop
  | (p, e, R, s, m, args, below, meth, c, Q, A, B), nL, cells, slots, pc, ws, lv, st0, st, wa, mc, ms, Qc, av => ∀ (H : Heap) (locs : List Loc) (ls : Array Slot), va_P D vwCl ws H → va_D B ws → va_S A s.heap H locs → lv_has ls nL lv → va_Run p l e R s m args below meth c H locs cells slots mc ms (F0 m pc ls st0) st (Qc (va_A wa H.size) av.toArray) (va_A wa H.size)
/-- what the callee may write, the walk may -/
def Fx (wa ws : va_W) : Kx → Prop
  | (p, e, R, s, m, args, below, meth, c, Q, A, B) => ∀ (H : Heap) (locs : List Loc), va_D B ws → va_S A s.heap H locs → ∀ q, va_A wa H.size q → A q
theorem fx_ro (C : Cx D ca sd cc own ret R0 k nL) : Fx [] ws k := by
  obtain ⟨p, e, R, s, m, args, below, meth, c, Q, A, B⟩ := k
  obtain ⟨hx, hb, hr, hml, hown, hts, hlocks, hR0, hK, hG, hA⟩ := C
  intro H locs hD hS q hq
  rcases hq with ⟨i, e, h⟩ | h
  · simp at h
  · exact hA q (Nat.le_trans hS.1 h)
theorem fx_rw {wc : va_W} (C : Cx D ca sd cc own ret R0 k nL) (hB : Wx k) (isC : List Nat) (hC : isC.map (fun i => ws[i]?) = wc.map some) : Fx wc ws k := by
  obtain ⟨p, e, R, s, m, args, below, meth, c, Q, A, B⟩ := k
  obtain ⟨hx, hb, hr, hml, hown, hts, hlocks, hR0, hK, hG, hA⟩ := C
  obtain rfl := hB
  intro H locs hD hS
  exact va_free hD hS hA isC hC
theorem fsub {ws wc : va_W} {is : List Nat} (hC : is.map (fun i => ws[i]?) = wc.map some) : is.filterMap (fun i => ws[i]?) = wc := by
  have : is.filterMap (fun i => ws[i]?) = (is.map (fun i => ws[i]?)).filterMap id := by rw [List.filterMap_map]; rfl
  rw [this, hC, List.filterMap_map]
  simp
variable {y : MethodName} {cc1 : ByteArray} {maxL : Nat} {ret1 : Option FieldType} {rm : Room} {wc wa wr : va_W} {mc ms index n : Nat} {Qc : (Nat → Prop) → Array Value → State → Outcome → State → Prop} {av As st0 : List Value} {b : Nat} {Cn1 : String}
theorem blind_pc {av : List Value} {sz : Nat} {wc wa : va_W} : FrameBlind (va_Pc av (fun U => U.heap.size = sz ∧ va_P D vwCl wc U.heap ∧ va_D (fun _ => True) wc ∧ va_K D vwCl (gT ca) U ∧ gS sd (va_A wa sz) U U.heap)) := by
  intro a U g mk ⟨h0, h1, h2, h3, h4, h5⟩
  exact ⟨h0, h1, h2, h3, va_K.moved (u := U) (U := U.calling g mk a) (Vm.Alike.refl U.vm) h4, gS_same (s := U) (U := U.calling g mk a) rfl h5⟩
theorem pre_pc {s : State} {A B : Nat → Prop} {H : Heap} {locs : List Loc} (hP : va_P D vwCl ws H) (hD : va_D B ws) (hS : va_S A s.heap H locs) (hK : va_K D vwCl (gT ca) s) (hG : gS sd A s s.heap) (hF : ∀ q, va_A wa H.size q → A q) (isC : List Nat) (hn : va_nd isC = true) (hC : isC.map (fun i => ws[i]?) = wc.map some) (av : List Value) :
    ∀ U : State, U.heap = H → s.WarmedH U.vm → va_Pc av (fun U => U.heap.size = H.size ∧ va_P D vwCl wc U.heap ∧ va_D (fun _ => True) wc ∧ va_K D vwCl (gT ca) U ∧ gS sd (va_A wa H.size) U U.heap) av.toArray U := by
  intro U hU hW
  refine ⟨rfl, by rw [hU], by rw [hU]; exact hP.sub isC (fsub hC), (hD.sub isC hn hC).weaken (fun _ _ _ _ => trivial), va_K.moved hW.alike hK, ?_⟩
  rw [hU]
  exact gS_warm hW (gS_narrow (gS_kept hG (fun a ha hna => hS.2.1 a ha hna)) hF)
/-- the links of a virtual call of the class's own method -/
def LkV (own : String) (index : Nat) (C : String) (y : MethodName) (cc1 : ByteArray) (maxL : Nat) (ret1 : Option FieldType) (n : Nat) : Prop := Cond.methodLink own index y ∈ TB ∧ Cond.instanceMethod y ∈ TB ∧ Cond.selects C y y ∈ TB ∧ Cond.initialized C ∈ TB ∧ Cond.code y cc1 maxL ret1 ∈ TB ∧ y.cls = C ∧ y.cls ≠ "java/lang/invoke/MethodHandle" ∧ y.cls ≠ "java/lang/invoke/VarHandle" ∧ (parseMethodDescriptor y.desc).map (fun d => d.parameters.length) = some n
def LkS (own : String) (index : Nat) (y : MethodName) (cc1 : ByteArray) (maxL : Nat) (ret1 : Option FieldType) (n : Nat) : Prop := Cond.methodLink own index y ∈ TB ∧ Cond.static y ∈ TB ∧ Cond.initialized y.cls ∈ TB ∧ Cond.code y cc1 maxL ret1 ∈ TB ∧ y.cls ≠ "java/lang/invoke/MethodHandle" ∧ y.cls ≠ "java/lang/invoke/VarHandle" ∧ (parseMethodDescriptor y.desc).map (fun d => d.parameters.length) = some n
def LkI (own : String) (index : Nat) (y : MethodName) (cc1 : ByteArray) (maxL : Nat) (n : Nat) : Prop := Cond.methodLink own index y ∈ TB ∧ Cond.instanceMethod y ∈ TB ∧ Cond.initialized y.cls ∈ TB ∧ Cond.code y cc1 maxL none ∈ TB ∧ y.name = "<init>" ∧ y.cls ≠ "java/lang/invoke/MethodHandle" ∧ y.cls ≠ "java/lang/invoke/VarHandle" ∧ (parseMethodDescriptor y.desc).map (fun d => d.parameters.length) = some n
def LkU (own : String) (index : Nat) (y : MethodName) (cc1 : ByteArray) (maxL : Nat) (ret1 : Option FieldType) (n : Nat) : Prop := Cond.methodLink own index y ∈ TB ∧ Cond.sameMethod y.cls y.cls y.name y.desc ∈ TB ∧ Cond.superclass own y.cls ∈ TB ∧ Cond.instanceMethod y ∈ TB ∧ Cond.initialized y.cls ∈ TB ∧ Cond.code y cc1 maxL ret1 ∈ TB ∧ y.name ≠ "<init>" ∧ (parseMethodDescriptor y.desc).map (fun d => d.parameters.length) = some n
def LkO (own : String) (index : Nat) (C owner : String) (x y : MethodName) (cc1 : ByteArray) (maxL : Nat) (ret1 : Option FieldType) (n : Nat) : Prop := (Cond.methodLink own index x ∈ TB ∧ Cond.sameMethod x.cls owner x.name x.desc ∈ TB ∧ Cond.instanceMethod ⟨owner, x.name, x.desc⟩ ∈ TB ∧ Cond.selects C x y ∈ TB ∧ Cond.instanceMethod y ∈ TB ∧ Cond.initialized y.cls ∈ TB ∧ Cond.code y cc1 maxL ret1 ∈ TB ∧ owner ≠ "java/lang/invoke/MethodHandle" ∧ owner ≠ "java/lang/invoke/VarHandle" ∧ (parseMethodDescriptor x.desc).map (fun d => d.parameters.length) = some n) ∧ ∃ (b0 : ByteArray) (m0 : Nat) (r0 : Option FieldType), Cond.code ⟨owner, x.name, x.desc⟩ b0 m0 r0 ∈ TB
theorem jr_V (C : Cx D ca sd cc own ret R0 k nL) (lk : LkV own index Cn1 y cc1 maxL ret1 n) (hM : Cn l D ca sd y cc1 maxL ret1 rm (.ref b :: As) wc wa mc ms Qc) (hrm : rm.cells = mc ∧ rm.slots = ms ∧ rm.frames + 1 ≤ R0.frames ∧ 8 + (maxL + 11) + rm.locals ≤ R0.locals ∧ cells + mc ≤ R0.cells ∧ slots + ms ≤ R0.slots) (isC : List Nat) (hnd : va_nd isC = true) (hC : isC.map (fun i => ws[i]?) = wc.map some) (hF : Fx wa ws k) (q0 ci : Nat) {fs : List Value} {T : u_T} {N : Nat} (hq : ws[q0]? = some (b, .inr (ci, fs))) (hci : vwCl[ci]? = some (Cn1, T, N)) (hn : As.length = n) (hst : st0 = As.reverse ++ .ref b :: st) (hw : (st.map fun v => v.category).sum ≤ 8) (d : decode cc pc = .ok (.invokevirtual index, 3)) : JR l D k nL cells slots pc ws lv st0 st wa mc ms Qc (.ref b :: As) := by
  obtain ⟨p, e, R, s, m, args, below, meth, c, Q, A, B⟩ := k
  obtain ⟨hx, hb, hr, hml, hown, hts, hlocks, hR0, hK, hG, hA⟩ := C
  obtain ⟨l1, l2, l3, l4, l5, l6, l7, l8, l9⟩ := lk
  subst hR0
  intro H locs ls hP hD hS hl
  exact va_runV (Ts := TB) ⟨hx, hb, hml, hown, hts⟩ (hM H.size) (cwV n hts (tb_gi (tb_app (tb_cons l1 (tb_cons l2 (tb_cons l3 (tb_cons l4 tb_nil)))) (tb_cons l5 (fun _ h => h)))) rfl hrm.1 hrm.2.1 ⟨l6, l7, l8, l9⟩ ⟨hrm.2.2.1, hrm.2.2.2.1⟩) ⟨blind_pc, va_recv hK hP hci hq, pre_pc hP hD hS hK hG (hF H locs hD hS) isC hnd hC _⟩ rfl hn hl.1 hst (lv_room hw) d ⟨hrm.2.2.2.2.1, hrm.2.2.2.2.2⟩
theorem jr_S (C : Cx D ca sd cc own ret R0 k nL) (lk : LkS own index y cc1 maxL ret1 n) (hM : Cn l D ca sd y cc1 maxL ret1 rm (As) wc wa mc ms Qc) (hrm : rm.cells = mc ∧ rm.slots = ms ∧ rm.frames + 1 ≤ R0.frames ∧ 8 + (maxL + 11) + rm.locals ≤ R0.locals ∧ cells + mc ≤ R0.cells ∧ slots + ms ≤ R0.slots) (isC : List Nat) (hnd : va_nd isC = true) (hC : isC.map (fun i => ws[i]?) = wc.map some) (hF : Fx wa ws k)  (hn : As.length = n) (hst : st0 = As.reverse ++ st) (hw : (st.map fun v => v.category).sum ≤ 8) (d : decode cc pc = .ok (.invokestatic index, 3)) : JR l D k nL cells slots pc ws lv st0 st wa mc ms Qc (As) := by
  obtain ⟨p, e, R, s, m, args, below, meth, c, Q, A, B⟩ := k
  obtain ⟨hx, hb, hr, hml, hown, hts, hlocks, hR0, hK, hG, hA⟩ := C
  obtain ⟨l1, l2, l3, l4, l5, l6, l7⟩ := lk
  subst hR0
  intro H locs ls hP hD hS hl
  exact va_runS (Ts := TB) ⟨hx, hb, hml, hown, hts⟩ (hM H.size) (va_cwS n hts (tb_gi (tb_app (tb_cons l1 (tb_cons l2 (tb_cons l3 tb_nil))) (tb_cons l4 (fun _ h => h)))) rfl hrm.1 hrm.2.1 ⟨l5, l6, l7⟩ ⟨hrm.2.2.1, hrm.2.2.2.1⟩) ⟨blind_pc, pre_pc hP hD hS hK hG (hF H locs hD hS) isC hnd hC _⟩ rfl hn hl.1 hst (lv_room hw) d ⟨hrm.2.2.2.2.1, hrm.2.2.2.2.2⟩
theorem jr_I (C : Cx D ca sd cc own ret R0 k nL) (lk : LkI own index y cc1 maxL n) (hM : Cn l D ca sd y cc1 maxL none rm (.ref b :: As) wc wa mc ms Qc) (hrm : rm.cells = mc ∧ rm.slots = ms ∧ rm.frames + 1 ≤ R0.frames ∧ 8 + (maxL + 11) + rm.locals ≤ R0.locals ∧ cells + mc ≤ R0.cells ∧ slots + ms ≤ R0.slots) (isC : List Nat) (hnd : va_nd isC = true) (hC : isC.map (fun i => ws[i]?) = wc.map some) (hF : Fx wa ws k)  (hn : As.length = n) (hst : st0 = As.reverse ++ .ref b :: st) (hw : (st.map fun v => v.category).sum ≤ 8) (d : decode cc pc = .ok (.invokespecial index, 3)) : JR l D k nL cells slots pc ws lv st0 st wa mc ms Qc (.ref b :: As) := by
  obtain ⟨p, e, R, s, m, args, below, meth, c, Q, A, B⟩ := k
  obtain ⟨hx, hb, hr, hml, hown, hts, hlocks, hR0, hK, hG, hA⟩ := C
  obtain ⟨l1, l2, l3, l4, l5, l6, l7, l8⟩ := lk
  subst hR0
  intro H locs ls hP hD hS hl
  exact va_runI (Ts := TB) ⟨hx, hb, hml, hown, hts⟩ (hM H.size) (cwI n hts (tb_gi (tb_cons l4 (fun _ h => h))) rfl hrm.1 hrm.2.1 (hts _ l3) (hts _ l1) (hts _ l2) l5 ⟨l6, l7, l8⟩ ⟨hrm.2.2.1, hrm.2.2.2.1⟩) ⟨blind_pc, pre_pc hP hD hS hK hG (hF H locs hD hS) isC hnd hC _⟩ rfl hn hl.1 hst (lv_room hw) d ⟨hrm.2.2.2.2.1, hrm.2.2.2.2.2⟩
theorem jr_IN (C : Cx D ca sd cc own ret R0 k nL) {host : String} (hns : (own, index, y, host) ∈ nestS) (lk : Cond.initialized y.cls ∈ TB ∧ Cond.instanceMethod y ∈ TB ∧ Cond.code y cc1 maxL none ∈ TB ∧ y.name = "<init>" ∧ y.cls ≠ "java/lang/invoke/MethodHandle" ∧ y.cls ≠ "java/lang/invoke/VarHandle" ∧ (parseMethodDescriptor y.desc).map (fun d => d.parameters.length) = some n) (hM : Cn l D ca sd y cc1 maxL none rm (.ref b :: As) wc wa mc ms Qc) (hrm : rm.cells = mc ∧ rm.slots = ms ∧ rm.frames + 1 ≤ R0.frames ∧ 8 + (maxL + 11) + rm.locals ≤ R0.locals ∧ cells + mc ≤ R0.cells ∧ slots + ms ≤ R0.slots) (isC : List Nat) (hnd : va_nd isC = true) (hC : isC.map (fun i => ws[i]?) = wc.map some) (hF : Fx wa ws k)  (hn : As.length = n) (hst : st0 = As.reverse ++ .ref b :: st) (hw : (st.map fun v => v.category).sum ≤ 8) (d : decode cc pc = .ok (.invokespecial index, 3)) : JR l D k nL cells slots pc ws lv st0 st wa mc ms Qc (.ref b :: As) := by
  obtain ⟨p, e, R, s, m, args, below, meth, c, Q, A, B⟩ := k
  obtain ⟨hx, hb, hr, hml, hown, hts, hlocks, hR0, hK, hG, hA⟩ := C
  obtain ⟨l1, l2, l3, l4, l5, l6, l7⟩ := lk
  subst hR0
  intro H locs ls hP hD hS hl
  have hN : va_Nw (.methodLinkNest own index y host) s := hG.2.2.2.2.2.2.2.2.1 _ hns
  exact va_runIN (Ts := TB) ⟨hx, hb, hml, hown, hts⟩ (hM H.size) ⟨va_cnB n hts (tb_gi (tb_cons l3 (fun _ h => h))) rfl hrm.1 hrm.2.1 hN (hts _ l1) ⟨l5, l6, l7⟩ ⟨hrm.2.2.1, hrm.2.2.2.1⟩, l4, hts _ l2⟩ ⟨blind_pc, pre_pc hP hD hS hK hG (hF H locs hD hS) isC hnd hC _⟩ rfl hn hl.1 hst (lv_room hw) d ⟨hrm.2.2.2.2.1, hrm.2.2.2.2.2⟩
theorem jr_SN (C : Cx D ca sd cc own ret R0 k nL) {host : String} (hns : (own, index, y, host) ∈ nestS) (lk : Cond.initialized y.cls ∈ TB ∧ Cond.static y ∈ TB ∧ Cond.code y cc1 maxL ret1 ∈ TB ∧ y.cls ≠ "java/lang/invoke/MethodHandle" ∧ y.cls ≠ "java/lang/invoke/VarHandle" ∧ (parseMethodDescriptor y.desc).map (fun d => d.parameters.length) = some n) (hM : Cn l D ca sd y cc1 maxL ret1 rm (As) wc wa mc ms Qc) (hrm : rm.cells = mc ∧ rm.slots = ms ∧ rm.frames + 1 ≤ R0.frames ∧ 8 + (maxL + 11) + rm.locals ≤ R0.locals ∧ cells + mc ≤ R0.cells ∧ slots + ms ≤ R0.slots) (isC : List Nat) (hnd : va_nd isC = true) (hC : isC.map (fun i => ws[i]?) = wc.map some) (hF : Fx wa ws k)  (hn : As.length = n) (hst : st0 = As.reverse ++ st) (hw : (st.map fun v => v.category).sum ≤ 8) (d : decode cc pc = .ok (.invokestatic index, 3)) : JR l D k nL cells slots pc ws lv st0 st wa mc ms Qc (As) := by
  obtain ⟨p, e, R, s, m, args, below, meth, c, Q, A, B⟩ := k
  obtain ⟨hx, hb, hr, hml, hown, hts, hlocks, hR0, hK, hG, hA⟩ := C
  obtain ⟨l1, l2, l3, l4, l5, l6⟩ := lk
  subst hR0
  intro H locs ls hP hD hS hl
  have hN : va_Nw (.methodLinkNest own index y host) s := hG.2.2.2.2.2.2.2.2.1 _ hns
  exact va_runSN (Ts := TB) ⟨hx, hb, hml, hown, hts⟩ (hM H.size) ⟨va_cnB n hts (tb_gi (tb_cons l3 (fun _ h => h))) rfl hrm.1 hrm.2.1 hN (hts _ l1) ⟨l4, l5, l6⟩ ⟨hrm.2.2.1, hrm.2.2.2.1⟩, hts _ l2, trivial⟩ ⟨blind_pc, pre_pc hP hD hS hK hG (hF H locs hD hS) isC hnd hC _⟩ rfl hn hl.1 hst (lv_room hw) d ⟨hrm.2.2.2.2.1, hrm.2.2.2.2.2⟩
theorem jr_U (C : Cx D ca sd cc own ret R0 k nL) (lk : LkU own index y cc1 maxL ret1 n) (hM : Cn l D ca sd y cc1 maxL ret1 rm (.ref b :: As) wc wa mc ms Qc) (hrm : rm.cells = mc ∧ rm.slots = ms ∧ rm.frames + 1 ≤ R0.frames ∧ 8 + (maxL + 11) + rm.locals ≤ R0.locals ∧ cells + mc ≤ R0.cells ∧ slots + ms ≤ R0.slots) (isC : List Nat) (hnd : va_nd isC = true) (hC : isC.map (fun i => ws[i]?) = wc.map some) (hF : Fx wa ws k) (q0 ci : Nat) {fs : List Value} {T : u_T} {N : Nat} (hq : ws[q0]? = some (b, .inr (ci, fs))) (hci : vwCl[ci]? = some (Cn1, T, N)) (hn : As.length = n) (hst : st0 = As.reverse ++ .ref b :: st) (hw : (st.map fun v => v.category).sum ≤ 8) (d : decode cc pc = .ok (.invokespecial index, 3)) : JR l D k nL cells slots pc ws lv st0 st wa mc ms Qc (.ref b :: As) := by
  obtain ⟨p, e, R, s, m, args, below, meth, c, Q, A, B⟩ := k
  obtain ⟨hx, hb, hr, hml, hown, hts, hlocks, hR0, hK, hG, hA⟩ := C
  obtain ⟨l1, l2, l3, l4, l5, l6, l7, l8⟩ := lk
  subst hR0
  intro H locs ls hP hD hS hl
  exact va_runSU (Ts := TB) (hK.1 ci _ hci).2 ⟨hx, hb, hml, hown, hts⟩ (hM H.size) (va_cwSU n hts (tb_gi (tb_app (tb_cons l1 (tb_cons l2 (tb_cons l3 (tb_cons l4 (tb_cons l5 tb_nil))))) (tb_cons l6 (fun _ h => h)))) rfl hrm.1 hrm.2.1 ⟨l7, l8⟩ ⟨hrm.2.2.1, hrm.2.2.2.1⟩) ⟨blind_pc, va_recv hK hP hci hq, pre_pc hP hD hS hK hG (hF H locs hD hS) isC hnd hC _⟩ rfl hn hl.1 hst (lv_room hw) d ⟨hrm.2.2.2.2.1, hrm.2.2.2.2.2⟩
theorem jr_O (C : Cx D ca sd cc own ret R0 k nL) {owner : String} {x : MethodName} (lk : LkO own index Cn1 owner x y cc1 maxL ret1 n) (hM : Cn l D ca sd y cc1 maxL ret1 rm (.ref b :: As) wc wa mc ms Qc) (hrm : rm.cells = mc ∧ rm.slots = ms ∧ rm.frames + 1 ≤ R0.frames ∧ 8 + (maxL + 11) + rm.locals ≤ R0.locals ∧ cells + mc ≤ R0.cells ∧ slots + ms ≤ R0.slots) (isC : List Nat) (hnd : va_nd isC = true) (hC : isC.map (fun i => ws[i]?) = wc.map some) (hF : Fx wa ws k) (q0 ci : Nat) {fs : List Value} {T : u_T} {N : Nat} (hq : ws[q0]? = some (b, .inr (ci, fs))) (hci : vwCl[ci]? = some (Cn1, T, N)) (hn : As.length = n) (hst : st0 = As.reverse ++ .ref b :: st) (hw : (st.map fun v => v.category).sum ≤ 8) (d : decode cc pc = .ok (.invokevirtual index, 3)) : JR l D k nL cells slots pc ws lv st0 st wa mc ms Qc (.ref b :: As) := by
  obtain ⟨p, e, R, s, m, args, below, meth, c, Q, A, B⟩ := k
  obtain ⟨hx, hb, hr, hml, hown, hts, hlocks, hR0, hK, hG, hA⟩ := C
  obtain ⟨⟨l1, l2, l3, l4, l5, l6, l7, l8, l9, l10⟩, b0, m0, r0, l11⟩ := lk
  subst hR0
  intro H locs ls hP hD hS hl
  exact va_runU (Ts := TB) ⟨hx, hb, hml, hown, hts⟩ (hM H.size) (va_cwO n hts (tb_gi (tb_app (tb_cons l1 (tb_cons l2 (tb_cons l3 (tb_cons l4 (tb_cons l5 (tb_cons l6 tb_nil)))))) (tb_cons l7 (fun _ h => h)))) rfl hrm.1 hrm.2.1 l11 ⟨l8, l9, l10⟩ ⟨hrm.2.2.1, hrm.2.2.2.1⟩) ⟨blind_pc, va_recv hK hP hci hq, pre_pc hP hD hS hK hG (hF H locs hD hS) isC hnd hC _⟩ rfl hn hl.1 hst (lv_room hw) d ⟨hrm.2.2.2.2.1, hrm.2.2.2.2.2⟩
theorem va_D_split {A : Nat → Prop} {a b : va_W} (h : va_D A (a ++ b)) : va_D A a ∧ va_D A b ∧ ∀ (i j : Nat) (p q : Nat × va_E), a[i]? = some p → b[j]? = some q → p.1 ≠ q.1 := by
  refine ⟨⟨fun i j p q hi hj hpq => ?_, fun i q hi => ?_⟩, ⟨fun i j p q hi hj hpq => ?_, fun i q hi => ?_⟩, fun i j p q hi hj hpq => ?_⟩
  · have h1 : i < a.length := (List.getElem?_eq_some_iff.mp hi).1
    have h2 : j < a.length := (List.getElem?_eq_some_iff.mp hj).1
    exact h.1 i j p q (by rw [List.getElem?_append_left h1]; exact hi) (by rw [List.getElem?_append_left h2]; exact hj) hpq
  · have h1 : i < a.length := (List.getElem?_eq_some_iff.mp hi).1
    exact h.2 i q (by rw [List.getElem?_append_left h1]; exact hi)
  · have := h.1 (a.length + i) (a.length + j) p q (by rw [List.getElem?_append_right (Nat.le_add_right _ _), Nat.add_sub_cancel_left]; exact hi) (by rw [List.getElem?_append_right (Nat.le_add_right _ _), Nat.add_sub_cancel_left]; exact hj) hpq
    omega
  · exact h.2 (a.length + i) q (by rw [List.getElem?_append_right (Nat.le_add_right _ _), Nat.add_sub_cancel_left]; exact hi)
  · have h1 : i < a.length := (List.getElem?_eq_some_iff.mp hi).1
    have := h.1 i (a.length + j) p q (by rw [List.getElem?_append_left h1]; exact hi) (by rw [List.getElem?_append_right (Nat.le_add_right _ _), Nat.add_sub_cancel_left]; exact hj) hpq
    omega
theorem va_P_split {D : va_G} {cl : List vw_C} {a b : va_W} {H : Heap} (h : va_P D cl (a ++ b) H) : va_P D cl a H ∧ va_P D cl b H := by
  refine ⟨fun i q hi => ?_, fun i q hi => ?_⟩
  · have h1 : i < a.length := (List.getElem?_eq_some_iff.mp hi).1
    exact h i q (by rw [List.getElem?_append_left h1]; exact hi)
  · exact h (a.length + i) q (by rw [List.getElem?_append_right (Nat.le_add_right _ _), Nat.add_sub_cancel_left]; exact hi)
/-- what came back, put where the callee's cells stood -/
theorem va_splice {A : Nat → Prop} {D : va_G} {cl : List vw_C} {w1 wc w2 wb : va_W} {H H1 : Heap} (hP : va_P D cl (w1 ++ (wc ++ w2)) H) (hD : va_D A (w1 ++ (wc ++ w2))) (hk : ∀ q : Nat, q < H.size → ¬ va_A wc H.size q → H1[q]? = H[q]?) (hF : ∀ q, va_A wc H.size q → A q) (hP1 : va_P D cl wb H1) (hD1 : va_D (va_A wc H.size) wb) : va_P D cl (w1 ++ (wb ++ w2)) H1 ∧ va_D A (w1 ++ (wb ++ w2)) := by
  obtain ⟨hPa, hPb⟩ := va_P_split hP
  obtain ⟨hPc, hPd⟩ := va_P_split hPb
  obtain ⟨hDa, hDb, hx⟩ := va_D_split hD
  obtain ⟨hDc, hDd, hy⟩ := va_D_split hDb
  have apart : ∀ (q : Nat × va_E), va_at D cl q H → (∀ (j : Nat) (p : Nat × va_E), wc[j]? = some p → p.1 ≠ q.1) → q.1 < H.size ∧ ¬ va_A wc H.size q.1 := by
    intro q hq hne
    have hlt := hq.lt
    refine ⟨hlt, fun h => ?_⟩
    rcases h with ⟨i, e, h⟩ | h
    · exact hne i _ h rfl
    · omega
  have n1 : ∀ (i : Nat) (q : Nat × va_E), w1[i]? = some q → q.1 < H.size ∧ ¬ va_A wc H.size q.1 := fun i q hi => apart q (hPa i q hi) (fun j p hj => by
    have h1 : j < wc.length := (List.getElem?_eq_some_iff.mp hj).1
    exact fun z => hx i j q p hi (by rw [List.getElem?_append_left h1]; exact hj) z.symm)
  have n2 : ∀ (i : Nat) (q : Nat × va_E), w2[i]? = some q → q.1 < H.size ∧ ¬ va_A wc H.size q.1 := fun i q hi => apart q (hPd i q hi) (fun j p hj => hy j i p q hj hi)
  refine ⟨va_P.app (hPa.kept (fun i q hi => hk q.1 (n1 i q hi).1 (n1 i q hi).2)) (va_P.app hP1 (hPd.kept (fun i q hi => hk q.1 (n2 i q hi).1 (n2 i q hi).2))), ?_⟩
  refine va_D.app hDa (va_D.app (hD1.weaken (fun _ q _ h => hF q.1 h)) hDd (fun i j p q hi hj hpq => ?_)) (fun i j p q hi hj hpq => ?_)
  · exact (n2 j q hj).2 (hpq ▸ hD1.2 i p hi)
  · by_cases hb : j < wb.length
    · rw [List.getElem?_append_left hb] at hj
      exact (n1 i p hi).2 (hpq ▸ hD1.2 j q hj)
    · rw [List.getElem?_append_right (by omega)] at hj
      exact hx i (wc.length + (j - wb.length)) p q hi (by rw [List.getElem?_append_right (by omega), show wc.length + (j - wb.length) - wc.length = j - wb.length by omega]; exact hj) hpq
theorem j_ci (C : Cx D ca sd cc own ret R0 k nL) (hB : Wx k) {S : Type} {post : Int32 → S → Prop} {wB : S → va_W} {w1 w2 : va_W} (hws : ws = w1 ++ (wc ++ w2)) (r : JR l D k nL cells slots pc ws lv st0 st wc mc ms (Ri D post wB) av) (h : ∀ (x : Int32) (u : S), post x u → J l D k nL (cells + mc) (slots + ms) (pc + 3) (w1 ++ (wB u ++ w2)) lv (.int x :: st)) : J l D k nL cells slots pc ws lv st0 := by
  subst hws
  obtain ⟨p, e, R, s, m, args, below, meth, c, Q, A, B⟩ := k
  obtain ⟨hx, hb, hr, hml, hown, hts, hlocks, hR0, hK, hG, hA⟩ := C
  obtain rfl := hB
  intro H locs ls hP hD hS hl
  have hF : ∀ q, va_A wc H.size q → B q := by
    intro q hq
    rcases hq with ⟨i, e, h⟩ | h
    · have h1 : i < wc.length := (List.getElem?_eq_some_iff.mp h).1
      exact hD.2 (w1.length + i) (q, e) (by rw [List.getElem?_append_right (Nat.le_add_right _ _), Nat.add_sub_cancel_left, List.getElem?_append_left h1]; exact h)
    · exact hA q (Nat.le_trans hS.1 h)
  refine va_calli (r H locs ls hP hD hS hl) hS (fun q _ h => hF q h) hF (fun x u t H1 locs1 ht hvm hw hB hz1 hk1 hS1 => ?_)
  have hP1 := hB.1
  rw [ht] at hP1
  obtain ⟨hP2, hD2⟩ := va_splice hP hD hk1 hF hP1 hB.2
  exact h x u hw H1 locs1 ls hP2 hD2 hS1 hl
theorem j_ciR (C : Cx D ca sd cc own ret R0 k nL) {S : Type} {post : Int32 → S → Prop} (r : JR l D k nL cells slots pc ws lv st0 st [] mc ms (Ri D post (fun _ => [])) av) (h : ∀ (x : Int32) (u : S), post x u → J l D k nL (cells + mc) (slots + ms) (pc + 3) ws lv (.int x :: st)) : J l D k nL cells slots pc ws lv st0 := by
  have hF := fx_ro (ws := ws) C
  obtain ⟨p, e, R, s, m, args, below, meth, c, Q, A, B⟩ := k
  obtain ⟨hx, hb, hr, hml, hown, hts, hlocks, hR0, hK, hG, hA⟩ := C
  intro H locs ls hP hD hS hl
  have hF := hF H locs hD hS
  refine va_calli (r H locs ls hP hD hS hl) hS (fun q _ h => hF q h) hF (fun x u t H1 locs1 ht hvm hw hB hz1 hk1 hS1 => ?_)
  refine h x u hw H1 locs1 ls (hP.kept (fun i q hi => ?_)) hD hS1 hl
  have hlt := (hP i q hi).lt
  refine hk1 q.1 hlt (fun z => ?_)
  rcases z with ⟨i, e, z⟩ | z
  · simp at z
  · omega
theorem j_cv (C : Cx D ca sd cc own ret R0 k nL) (hB : Wx k) {S : Type} {post : S → Prop} {wB : S → va_W} {w1 w2 : va_W} (hws : ws = w1 ++ (wc ++ w2)) (r : JR l D k nL cells slots pc ws lv st0 st wc mc ms (Rv D post wB) av) (h : ∀  (u : S), post u → J l D k nL (cells + mc) (slots + ms) (pc + 3) (w1 ++ (wB u ++ w2)) lv (st)) : J l D k nL cells slots pc ws lv st0 := by
  subst hws
  obtain ⟨p, e, R, s, m, args, below, meth, c, Q, A, B⟩ := k
  obtain ⟨hx, hb, hr, hml, hown, hts, hlocks, hR0, hK, hG, hA⟩ := C
  obtain rfl := hB
  intro H locs ls hP hD hS hl
  have hF : ∀ q, va_A wc H.size q → B q := by
    intro q hq
    rcases hq with ⟨i, e, h⟩ | h
    · have h1 : i < wc.length := (List.getElem?_eq_some_iff.mp h).1
      exact hD.2 (w1.length + i) (q, e) (by rw [List.getElem?_append_right (Nat.le_add_right _ _), Nat.add_sub_cancel_left, List.getElem?_append_left h1]; exact h)
    · exact hA q (Nat.le_trans hS.1 h)
  refine va_callv (r H locs ls hP hD hS hl) hS (fun q _ h => hF q h) hF (fun u t H1 locs1 ht hvm hw hB hz1 hk1 hS1 => ?_)
  have hP1 := hB.1
  rw [ht] at hP1
  obtain ⟨hP2, hD2⟩ := va_splice hP hD hk1 hF hP1 hB.2
  exact h u hw H1 locs1 ls hP2 hD2 hS1 hl
theorem j_cvR (C : Cx D ca sd cc own ret R0 k nL) {S : Type} {post : S → Prop} (r : JR l D k nL cells slots pc ws lv st0 st [] mc ms (Rv D post (fun _ => [])) av) (h : ∀  (u : S), post u → J l D k nL (cells + mc) (slots + ms) (pc + 3) ws lv (st)) : J l D k nL cells slots pc ws lv st0 := by
  have hF := fx_ro (ws := ws) C
  obtain ⟨p, e, R, s, m, args, below, meth, c, Q, A, B⟩ := k
  obtain ⟨hx, hb, hr, hml, hown, hts, hlocks, hR0, hK, hG, hA⟩ := C
  intro H locs ls hP hD hS hl
  have hF := hF H locs hD hS
  refine va_callv (r H locs ls hP hD hS hl) hS (fun q _ h => hF q h) hF (fun u t H1 locs1 ht hvm hw hB hz1 hk1 hS1 => ?_)
  refine h u hw H1 locs1 ls (hP.kept (fun i q hi => ?_)) hD hS1 hl
  have hlt := (hP i q hi).lt
  refine hk1 q.1 hlt (fun z => ?_)
  rcases z with ⟨i, e, z⟩ | z
  · simp at z
  · omega
theorem j_cl (C : Cx D ca sd cc own ret R0 k nL) (hB : Wx k) {S : Type} {post : Int64 → S → Prop} {wB : S → va_W} {w1 w2 : va_W} (hws : ws = w1 ++ (wc ++ w2)) (r : JR l D k nL cells slots pc ws lv st0 st wc mc ms (Rl D post wB) av) (h : ∀ (x : Int64) (u : S), post x u → J l D k nL (cells + mc) (slots + ms) (pc + 3) (w1 ++ (wB u ++ w2)) lv (.long x :: st)) : J l D k nL cells slots pc ws lv st0 := by
  subst hws
  obtain ⟨p, e, R, s, m, args, below, meth, c, Q, A, B⟩ := k
  obtain ⟨hx, hb, hr, hml, hown, hts, hlocks, hR0, hK, hG, hA⟩ := C
  obtain rfl := hB
  intro H locs ls hP hD hS hl
  have hF : ∀ q, va_A wc H.size q → B q := by
    intro q hq
    rcases hq with ⟨i, e, h⟩ | h
    · have h1 : i < wc.length := (List.getElem?_eq_some_iff.mp h).1
      exact hD.2 (w1.length + i) (q, e) (by rw [List.getElem?_append_right (Nat.le_add_right _ _), Nat.add_sub_cancel_left, List.getElem?_append_left h1]; exact h)
    · exact hA q (Nat.le_trans hS.1 h)
  refine va_calll (r H locs ls hP hD hS hl) hS (fun q _ h => hF q h) hF (fun x u t H1 locs1 ht hvm hw hB hz1 hk1 hS1 => ?_)
  have hP1 := hB.1
  rw [ht] at hP1
  obtain ⟨hP2, hD2⟩ := va_splice hP hD hk1 hF hP1 hB.2
  exact h x u hw H1 locs1 ls hP2 hD2 hS1 hl
theorem j_clR (C : Cx D ca sd cc own ret R0 k nL) {S : Type} {post : Int64 → S → Prop} (r : JR l D k nL cells slots pc ws lv st0 st [] mc ms (Rl D post (fun _ => [])) av) (h : ∀ (x : Int64) (u : S), post x u → J l D k nL (cells + mc) (slots + ms) (pc + 3) ws lv (.long x :: st)) : J l D k nL cells slots pc ws lv st0 := by
  have hF := fx_ro (ws := ws) C
  obtain ⟨p, e, R, s, m, args, below, meth, c, Q, A, B⟩ := k
  obtain ⟨hx, hb, hr, hml, hown, hts, hlocks, hR0, hK, hG, hA⟩ := C
  intro H locs ls hP hD hS hl
  have hF := hF H locs hD hS
  refine va_calll (r H locs ls hP hD hS hl) hS (fun q _ h => hF q h) hF (fun x u t H1 locs1 ht hvm hw hB hz1 hk1 hS1 => ?_)
  refine h x u hw H1 locs1 ls (hP.kept (fun i q hi => ?_)) hD hS1 hl
  have hlt := (hP i q hi).lt
  refine hk1 q.1 hlt (fun z => ?_)
  rcases z with ⟨i, e, z⟩ | z
  · simp at z
  · omega
theorem j_crR (C : Cx D ca sd cc own ret R0 k nL) {S : Type} {post : S → Prop} {ra : S → Nat} (r : JR l D k nL cells slots pc ws lv st0 st [] mc ms (Rr D post ra (fun _ => [])) av) (h : ∀ (u : S), post u → J l D k nL (cells + mc) (slots + ms) (pc + 3) ws lv (.ref (ra u) :: st)) : J l D k nL cells slots pc ws lv st0 := by
  have hF := fx_ro (ws := ws) C
  obtain ⟨p, e, R, s, m, args, below, meth, c, Q, A, B⟩ := k
  obtain ⟨hx, hb, hr, hml, hown, hts, hlocks, hR0, hK, hG, hA⟩ := C
  intro H locs ls hP hD hS hl
  have hF := hF H locs hD hS
  refine va_callr (r H locs ls hP hD hS hl) hS (fun q _ h => hF q h) hF (fun u ra1 t H1 locs1 ht hvm hw hB hz1 hk1 hS1 => ?_)
  obtain ⟨rfl, -⟩ := hB
  refine h u hw H1 locs1 ls (hP.kept (fun i q hi => ?_)) hD hS1 hl
  have hlt := (hP i q hi).lt
  refine hk1 q.1 hlt (fun z => ?_)
  rcases z with ⟨i, e, z⟩ | z
  · simp at z
  · omega
/-- every place of a list, in order -/
theorem rng_map (ws : va_W) : (List.range ws.length).map (fun i => ws[i]?) = ws.map some := by
  apply List.ext_getElem?
  intro i
  by_cases h : i < ws.length
  · simp [List.getElem?_range h, h]
  · simp [List.getElem?_eq_none (Nat.not_lt.mp h), h]
theorem rng_nd' : ∀ (n a : Nat), va_nd (List.range' a n) = true := by
  intro n
  induction n with
  | zero => intro a; rfl
  | succ n ih =>
    intro a
    rw [List.range'_succ]
    simp only [va_nd, ih, Bool.and_true, decide_eq_true_eq]
    intro h
    rw [List.mem_range'] at h
    obtain ⟨i, _, h⟩ := h
    omega
theorem rng_nd (n : Nat) : va_nd (List.range n) = true := by rw [List.range_eq_range']; exact rng_nd' n 0
end Jc
end
section
theorem vp_lt {i : Int32} {n : Nat} (h : vp_in i n) : i.toNatClampNeg < n := Nat.lt_of_not_le (fun z => h (Or.inr z))
def ciK (j : Nat) : Nat := [4, 0, 3, 6, 1, 5].getD j 0
/-! ===== blocks of cells ===== -/
def wC (ca : Nat → ClassId) (ad : Nat → Nat) (n0 : Nat) (sk ze ma ki dn wi du he : Nat → Int32) (yr sz : Int32) : va_W := [(ad 0, .inr (2, [.ref n0, .ref (ad 1), .ref (ad 2), .ref (ad 3), .ref (ad 4), .ref (ad 5), .ref (ad 6), .ref (ad 7), .ref (ad 8), .int yr, .int sz])), (ad 1, .inl (ca 0, 6, .inl sk)), (ad 2, .inl (ca 0, 6, .inl ze)), (ad 3, .inl (ca 0, 6, .inl ma)), (ad 4, .inl (ca 0, 8, .inl ki)), (ad 5, .inl (ca 0, 8, .inl dn)), (ad 6, .inl (ca 0, 8, .inl wi)), (ad 7, .inl (ca 0, 8, .inl du)), (ad 8, .inl (ca 0, 6, .inl he))]
def wN (ca : Nat → ClassId) (nd : Nat → Nat) (sd : Nat → Nat) : va_W := [(nd 0, .inl (ca 3, 6, .inr (.inr (.inr (.inr (fun j => some (nd (j + 1)))))))), (nd 1, .inr (4, [.ref (sd 2)])), (nd 2, .inr (0, [.ref (sd 3)])), (nd 3, .inr (3, [.ref (sd 4)])), (nd 4, .inr (6, [.ref (sd 5)])), (nd 5, .inr (1, [.ref (sd 6)])), (nd 6, .inr (5, [.ref (sd 7)]))]
def wF (a0 a1 a2 a3 a4 a5 a6 : Nat) (ik : Int32) : va_W := [(a0, .inr (9, [.ref a1, .ref a2, .ref a3, .int ik, .ref a4, .ref a5, .ref a6]))]
def wD (ca : Nat → ClassId) (a : Nat) (fd : Nat → Int32) : va_W := [(a, .inl (ca 0, 7, .inl fd))]
def wT (ca : Nat → ClassId) (tp : Nat → Nat) (n0 : Nat) (by_ : Nat → Int32) (ln so pl bh : Int32) : va_W := [(tp 0, .inr (8, [.ref n0, .ref (tp 1), .int ln, .int so, .int pl, .int bh])), (tp 1, .inl (ca 2, 120, .inl by_))]
def wA (ca : Nat → ClassId) (a : Nat) (sb : Nat → Nat) : va_W := [(a, .inl (ca 4, 4, .inr (.inr (.inr (.inr (fun j => some (sb j)))))))]
def wS (ca : Nat → ClassId) (b nn : Nat) (nu : Nat → Int64) (bi le : Int32) : va_W := [(b, .inr (7, [.ref nn, .int bi, .int le])), (nn, .inl (ca 1, 40, .inr (.inl nu)))]
def wR (ca : Nat → ClassId) (a n : Nat) (f : Nat → Int32) : va_W := [(a, .inl (ca 0, n, .inl f))]
def wRL (ca : Nat → ClassId) (a n : Nat) (f : Nat → Int64) : va_W := [(a, .inl (ca 1, n, .inr (.inl f)))]
def wO (h ci tt : Nat) : va_W := [(h, .inr (ci, [.ref tt]))]
def wM (ca : Nat → ClassId) (am : Nat → Nat) (m kp wa fo ta bo so : Nat → Int32) (ce : Nat → Int64) (ik td tk bg aa vl bd : Int32) : va_W := [(am 0, .inr (10, [.ref (am 1), .ref (am 2), .ref (am 3), .int ik, .ref (am 4), .ref (am 5), .int td, .int tk, .int bg, .int aa, .int vl, .int bd, .ref (am 6), .ref (am 7), .ref (am 8)])), (am 1, .inl (ca 0, 52, .inl m)), (am 2, .inl (ca 0, 52, .inl kp)), (am 3, .inl (ca 0, 52, .inl wa)), (am 4, .inl (ca 0, 7, .inl fo)), (am 5, .inl (ca 0, 120, .inl ta)), (am 6, .inl (ca 0, 4, .inl bo)), (am 7, .inl (ca 0, 4, .inl so)), (am 8, .inl (ca 1, 160, .inr (.inl ce)))]
section Jd
variable {l : Launch} {D : va_G} {ca : Nat → ClassId} {sd : Nat → Nat} {cc : ByteArray} {own : String} {ret : Option FieldType} {R0 : Room} {k : Kx} {nL cells slots pc : Nat} {ws : va_W} {lv : List (Nat × Value)} {st : List Value}
variable {wc wr : va_W} {av st0 : List Value}
theorem j_ciT (C : Cx D ca sd cc own ret R0 k nL) (hB : Wx k) {S : Type} {post : Int32 → S → Prop} {wB : S → va_W} (p q : Nat) (ws' : S → va_W) (hws : ws = ws.take p ++ (wc ++ ws.drop q)) (hw' : ∀ u, ws.take p ++ (wB u ++ ws.drop q) = ws' u) (r : JR l D k nL cells slots pc ws lv st0 st wc 0 0 (Ri D post wB) av) (h : ∀ (x : Int32) (u : S), post x u → J l D k nL cells slots (pc + 3) (ws' u) lv (.int x :: st)) : J l D k nL cells slots pc ws lv st0 := by
  refine j_ci C hB hws r (fun x u hp => ?_)
  rw [hw' u]
  exact h x u hp
theorem j_ciZ (C : Cx D ca sd cc own ret R0 k nL) {S : Type} {post : Int32 → S → Prop} (r : JR l D k nL cells slots pc ws lv st0 st [] 0 0 (Ri D post (fun _ => [])) av) (h : ∀ (x : Int32) (u : S), post x u → J l D k nL cells slots (pc + 3) ws lv (.int x :: st)) : J l D k nL cells slots pc ws lv st0 := j_ciR C r h
theorem j_ciP (C : Cx D ca sd cc own ret R0 k nL) (hB : Wx k) {S : Type} {post : Int32 → S → Prop} {wB : S → va_W} (isC isR perm : List Nat) (ws' : S → va_W) (wr : va_W) (hC : isC.map (fun i => ws[i]?) = wc.map some) (hR : isR.map (fun i => ws[i]?) = wr.map some) (hn : va_nd isR = true) (hdis : ∀ i ∈ isR, i ∉ isC) (hp : va_nd perm = true) (hw' : ∀ u, perm.map (fun i => (wr ++ wB u)[i]?) = (ws' u).map some) (r : JR l D k nL cells slots pc ws lv st0 st wc 0 0 (Ri D post wB) av) (h : ∀ (x : Int32) (u : S), post x u → J l D k nL cells slots (pc + 3) (ws' u) lv (.int x :: st)) : J l D k nL cells slots pc ws lv st0 := by
  obtain ⟨p, e, R, s, m, args, below, meth, c, Q, A, B⟩ := k
  obtain ⟨hx, hb, hr, hml, hown, hts, hlocks, hR0, hK, hG, hA⟩ := C
  obtain rfl := hB
  intro H locs ls hP hD hS hl
  have hF := va_free hD hS hA isC hC
  refine va_calli (r H locs ls hP hD hS hl) hS (fun q _ h => hF q h) hF (fun x u t H1 locs1 ht hvm hw hB hz1 hk1 hS1 => ?_)
  have hP1 := hB.1
  rw [ht] at hP1
  obtain ⟨hP2, hD2⟩ := va_join hP hD isC isR hC hR hn hdis hk1 hF hP1 hB.2
  exact h x u hw H1 locs1 ls (hP2.sub perm (fsub (hw' u))) (hD2.sub perm hp (hw' u)) hS1 hl
theorem j_cvT (C : Cx D ca sd cc own ret R0 k nL) (hB : Wx k) {S : Type} {post : S → Prop} {wB : S → va_W} (p q : Nat) (ws' : S → va_W) (hws : ws = ws.take p ++ (wc ++ ws.drop q)) (hw' : ∀ u, ws.take p ++ (wB u ++ ws.drop q) = ws' u) (r : JR l D k nL cells slots pc ws lv st0 st wc 0 0 (Rv D post wB) av) (h : ∀  (u : S), post u → J l D k nL cells slots (pc + 3) (ws' u) lv (st)) : J l D k nL cells slots pc ws lv st0 := by
  refine j_cv C hB hws r (fun u hp => ?_)
  rw [hw' u]
  exact h u hp
theorem j_cvZ (C : Cx D ca sd cc own ret R0 k nL) {S : Type} {post : S → Prop} (r : JR l D k nL cells slots pc ws lv st0 st [] 0 0 (Rv D post (fun _ => [])) av) (h : ∀  (u : S), post u → J l D k nL cells slots (pc + 3) ws lv (st)) : J l D k nL cells slots pc ws lv st0 := j_cvR C r h
theorem j_cvP (C : Cx D ca sd cc own ret R0 k nL) (hB : Wx k) {S : Type} {post : S → Prop} {wB : S → va_W} (isC isR perm : List Nat) (ws' : S → va_W) (wr : va_W) (hC : isC.map (fun i => ws[i]?) = wc.map some) (hR : isR.map (fun i => ws[i]?) = wr.map some) (hn : va_nd isR = true) (hdis : ∀ i ∈ isR, i ∉ isC) (hp : va_nd perm = true) (hw' : ∀ u, perm.map (fun i => (wr ++ wB u)[i]?) = (ws' u).map some) (r : JR l D k nL cells slots pc ws lv st0 st wc 0 0 (Rv D post wB) av) (h : ∀  (u : S), post u → J l D k nL cells slots (pc + 3) (ws' u) lv (st)) : J l D k nL cells slots pc ws lv st0 := by
  obtain ⟨p, e, R, s, m, args, below, meth, c, Q, A, B⟩ := k
  obtain ⟨hx, hb, hr, hml, hown, hts, hlocks, hR0, hK, hG, hA⟩ := C
  obtain rfl := hB
  intro H locs ls hP hD hS hl
  have hF := va_free hD hS hA isC hC
  refine va_callv (r H locs ls hP hD hS hl) hS (fun q _ h => hF q h) hF (fun u t H1 locs1 ht hvm hw hB hz1 hk1 hS1 => ?_)
  have hP1 := hB.1
  rw [ht] at hP1
  obtain ⟨hP2, hD2⟩ := va_join hP hD isC isR hC hR hn hdis hk1 hF hP1 hB.2
  exact h u hw H1 locs1 ls (hP2.sub perm (fsub (hw' u))) (hD2.sub perm hp (hw' u)) hS1 hl
theorem j_clT (C : Cx D ca sd cc own ret R0 k nL) (hB : Wx k) {S : Type} {post : Int64 → S → Prop} {wB : S → va_W} (p q : Nat) (ws' : S → va_W) (hws : ws = ws.take p ++ (wc ++ ws.drop q)) (hw' : ∀ u, ws.take p ++ (wB u ++ ws.drop q) = ws' u) (r : JR l D k nL cells slots pc ws lv st0 st wc 0 0 (Rl D post wB) av) (h : ∀ (x : Int64) (u : S), post x u → J l D k nL cells slots (pc + 3) (ws' u) lv (.long x :: st)) : J l D k nL cells slots pc ws lv st0 := by
  refine j_cl C hB hws r (fun x u hp => ?_)
  rw [hw' u]
  exact h x u hp
theorem j_clZ (C : Cx D ca sd cc own ret R0 k nL) {S : Type} {post : Int64 → S → Prop} (r : JR l D k nL cells slots pc ws lv st0 st [] 0 0 (Rl D post (fun _ => [])) av) (h : ∀ (x : Int64) (u : S), post x u → J l D k nL cells slots (pc + 3) ws lv (.long x :: st)) : J l D k nL cells slots pc ws lv st0 := j_clR C r h
theorem j_clP (C : Cx D ca sd cc own ret R0 k nL) (hB : Wx k) {S : Type} {post : Int64 → S → Prop} {wB : S → va_W} (isC isR perm : List Nat) (ws' : S → va_W) (wr : va_W) (hC : isC.map (fun i => ws[i]?) = wc.map some) (hR : isR.map (fun i => ws[i]?) = wr.map some) (hn : va_nd isR = true) (hdis : ∀ i ∈ isR, i ∉ isC) (hp : va_nd perm = true) (hw' : ∀ u, perm.map (fun i => (wr ++ wB u)[i]?) = (ws' u).map some) (r : JR l D k nL cells slots pc ws lv st0 st wc 0 0 (Rl D post wB) av) (h : ∀ (x : Int64) (u : S), post x u → J l D k nL cells slots (pc + 3) (ws' u) lv (.long x :: st)) : J l D k nL cells slots pc ws lv st0 := by
  obtain ⟨p, e, R, s, m, args, below, meth, c, Q, A, B⟩ := k
  obtain ⟨hx, hb, hr, hml, hown, hts, hlocks, hR0, hK, hG, hA⟩ := C
  obtain rfl := hB
  intro H locs ls hP hD hS hl
  have hF := va_free hD hS hA isC hC
  refine va_calll (r H locs ls hP hD hS hl) hS (fun q _ h => hF q h) hF (fun x u t H1 locs1 ht hvm hw hB hz1 hk1 hS1 => ?_)
  have hP1 := hB.1
  rw [ht] at hP1
  obtain ⟨hP2, hD2⟩ := va_join hP hD isC isR hC hR hn hdis hk1 hF hP1 hB.2
  exact h x u hw H1 locs1 ls (hP2.sub perm (fsub (hw' u))) (hD2.sub perm hp (hw' u)) hS1 hl
theorem j_crZ (C : Cx D ca sd cc own ret R0 k nL) {S : Type} {post : S → Prop} {ra : S → Nat} (r : JR l D k nL cells slots pc ws lv st0 st [] 0 0 (Rr D post ra (fun _ => [])) av) (h : ∀ (u : S), post u → J l D k nL cells slots (pc + 3) ws lv (.ref (ra u) :: st)) : J l D k nL cells slots pc ws lv st0 := j_crR C r h
theorem j_min (C : Cx D ca sd cc own ret R0 k nL) {index : Nat} {x y : Int32} (lk : Cond.methodLink own index Lib.Math.min.name ∈ TB ∧ Cond.static Lib.Math.min.name ∈ TB ∧ Cond.initialized "java/lang/Math" ∈ TB ∧ Cond.code Lib.Math.min.name Lib.Math.min.code 2 (some .int) ∈ TB) (hf : 1 ≤ R0.frames) (hlo : (st.map fun v => v.category).sum + 13 ≤ R0.locals) (hc : cells ≤ R0.cells) (hs : slots ≤ R0.slots) (d : decode cc pc = .ok (.invokestatic index, 3)) (h : J l D k nL cells slots (pc + 3) ws lv (.int (if y < x then y else x) :: st)) : J l D k nL cells slots pc ws lv (.int y :: .int x :: st) := by
  obtain ⟨p, e, R, s, m, args, below, meth, c, Q, A, B⟩ := k
  obtain ⟨hx, hb, hr, hml, hown, hts, hlocks, hR0, hK, hG, hA⟩ := C
  subst hR0
  intro H locs ls hP hD hS hl
  exact va_mmin hx hb (hml.trans hl.1.symm) hown (hts _ lk.1) (hts _ lk.2.1) (hts _ lk.2.2.1) (hts _ lk.2.2.2) hf hlo hc hs d (h H locs ls hP hD hS hl)
theorem j_max (C : Cx D ca sd cc own ret R0 k nL) {index : Nat} {x y : Int32} (lk : Cond.methodLink own index Lib.Math.max.name ∈ TB ∧ Cond.static Lib.Math.max.name ∈ TB ∧ Cond.initialized "java/lang/Math" ∈ TB ∧ Cond.code Lib.Math.max.name Lib.Math.max.code 2 (some .int) ∈ TB) (hf : 1 ≤ R0.frames) (hlo : (st.map fun v => v.category).sum + 13 ≤ R0.locals) (hc : cells ≤ R0.cells) (hs : slots ≤ R0.slots) (d : decode cc pc = .ok (.invokestatic index, 3)) (h : J l D k nL cells slots (pc + 3) ws lv (.int (if x < y then y else x) :: st)) : J l D k nL cells slots pc ws lv (.int y :: .int x :: st) := by
  obtain ⟨p, e, R, s, m, args, below, meth, c, Q, A, B⟩ := k
  obtain ⟨hx, hb, hr, hml, hown, hts, hlocks, hR0, hK, hG, hA⟩ := C
  subst hR0
  intro H locs ls hP hD hS hl
  exact va_mmax hx hb (hml.trans hl.1.symm) hown (hts _ lk.1) (hts _ lk.2.1) (hts _ lk.2.2.1) (hts _ lk.2.2.2) hf hlo hc hs d (h H locs ls hP hD hS hl)
theorem j_copyi (C : Cx D ca sd cc own ret R0 k nL) (hB : Wx k) {index a0 a n0 n1 : Nat} {f g : Nat → Int32} {sp dp n : Int32} (lk : Cond.methodLink own index arraycopyName ∈ TB ∧ Cond.native arraycopyName ∈ TB ∧ Cond.static arraycopyName ∈ TB ∧ Cond.initialized "java/lang/System" ∈ TB) (q0 q1 i j w : Nat) (ws' : va_W) (ha0 : ws[q0]? = some (a0, .inl (ca 0, n0, .inl f))) (ha1 : ws[q1]? = some (a, .inl (ca 0, n1, .inl g))) (h1 : ¬ sp < 0) (h2 : ¬ dp < 0) (h3 : ¬ n < 0) (e1 : sp.toNatClampNeg = i) (e2 : dp.toNatClampNeg = j) (e3 : n.toNatClampNeg = w) (h4 : i + w ≤ n0) (h5 : j + w ≤ n1) (hf : 1 ≤ R0.frames) (hlo : (st.map fun v => v.category).sum + (nativeFrameWords "java/lang/System" "arraycopy" 5 + 11) ≤ R0.locals) (d : decode cc pc = .ok (.invokestatic index, 3)) (hw : ws.set q1 (a, .inl (ca 0, n1, .inl (va_cpy f g i j w))) = ws') (h : J l D k nL cells slots (pc + 3) ws' lv st) : J l D k nL cells slots pc ws lv (.int n :: .int dp :: .ref a :: .int sp :: .ref a0 :: st) := by
  subst hw; subst e1; subst e2; subst e3
  obtain ⟨p, e, R, s, m, args, below, meth, c, Q, A, B⟩ := k
  obtain ⟨hx, hb, hr, hml, hown, hts, hlocks, hR0, hK, hG, hA⟩ := C
  subst hR0
  obtain rfl := hB
  intro H locs ls hP hD hS hl
  exact va_copyi hx hb (hml.trans hl.1.symm) hown (hts _ lk.1) (hts _ lk.2.1) (hts _ lk.2.2.1) (hts _ lk.2.2.2) hK hP hD hS q0 q1 0 0 ha0 ha1 rfl rfl rfl h1 h2 h3 h4 h5 (fun _ _ => rfl) hf hlo d (fun H locs hP hD hS => h H locs ls hP hD hS hl)
theorem j_copyl (C : Cx D ca sd cc own ret R0 k nL) (hB : Wx k) {index a0 a n0 n1 : Nat} {f g : Nat → Int64} {sp dp n : Int32} (lk : Cond.methodLink own index arraycopyName ∈ TB ∧ Cond.native arraycopyName ∈ TB ∧ Cond.static arraycopyName ∈ TB ∧ Cond.initialized "java/lang/System" ∈ TB) (q0 q1 i j w : Nat) (ws' : va_W) (ha0 : ws[q0]? = some (a0, .inl (ca 1, n0, .inr (.inl f)))) (ha1 : ws[q1]? = some (a, .inl (ca 1, n1, .inr (.inl g)))) (h1 : ¬ sp < 0) (h2 : ¬ dp < 0) (h3 : ¬ n < 0) (e1 : sp.toNatClampNeg = i) (e2 : dp.toNatClampNeg = j) (e3 : n.toNatClampNeg = w) (h4 : i + w ≤ n0) (h5 : j + w ≤ n1) (hf : 1 ≤ R0.frames) (hlo : (st.map fun v => v.category).sum + (nativeFrameWords "java/lang/System" "arraycopy" 5 + 11) ≤ R0.locals) (d : decode cc pc = .ok (.invokestatic index, 3)) (hw : ws.set q1 (a, .inl (ca 1, n1, .inr (.inl (va_cpy f g i j w)))) = ws') (h : J l D k nL cells slots (pc + 3) ws' lv st) : J l D k nL cells slots pc ws lv (.int n :: .int dp :: .ref a :: .int sp :: .ref a0 :: st) := by
  subst hw; subst e1; subst e2; subst e3
  obtain ⟨p, e, R, s, m, args, below, meth, c, Q, A, B⟩ := k
  obtain ⟨hx, hb, hr, hml, hown, hts, hlocks, hR0, hK, hG, hA⟩ := C
  subst hR0
  obtain rfl := hB
  intro H locs ls hP hD hS hl
  exact va_copyl hx hb (hml.trans hl.1.symm) hown (hts _ lk.1) (hts _ lk.2.1) (hts _ lk.2.2.1) (hts _ lk.2.2.2) hK hP hD hS q0 q1 1 1 ha0 ha1 rfl rfl rfl h1 h2 h3 h4 h5 (fun _ _ => rfl) hf hlo d (fun H locs hP hD hS => h H locs ls hP hD hS hl)
theorem j_title (C : Cx D ca sd cc own ret R0 k nL) {index kk : Nat} {nd : Nat → Nat} (tl : ∀ j, j < 6 → FL own index (ciK j) 0) (p0 : Nat) (d : decode cc pc = .ok (.getfield index, 3)) (hk : kk < 6) (hN : ∀ j, j < 6 → ws[p0 + j]? = some (nd (j + 1), .inr (ciK j, [.ref (sd (2 + j))]))) (h : J l D k nL cells slots (pc + 3) ws lv (.ref (sd (2 + kk)) :: st)) : J l D k nL cells slots pc ws lv (.ref (nd (kk + 1)) :: st) := j_get C (tl kk hk) (p0 + kk) d (hN kk hk) rfl h
theorem j_ldcS (C : Cx D ca sd cc own ret R0 k nL) {index : Nat} (w : Nat) (tx : String) (d : decode cc pc = .ok (.ldc index, 2)) (hq : (own, index, tx, w) ∈ litS) (h : J l D k nL cells slots (pc + 2) ws lv (.ref (sd (2 + w)) :: st)) : J l D k nL cells slots pc ws lv st := by
  obtain ⟨p, e, R, s, m, args, below, meth, c, Q, A, B⟩ := k
  obtain ⟨hx, hb, hr, hml, hown, hts, hlocks, hR0, hK, hG, hA⟩ := C
  intro H locs ls hP hD hS hl
  exact va_ldcS hx hb hown (hG.2.2.2.2.2.2.2.1 _ hq) d (h H locs ls hP hD hS hl)
theorem j_above (C : Cx D ca sd cc own ret R0 k nL) (index : Nat) (d : decode cc pc = .ok (.getstatic index, 3)) (hlk : Cond.fieldLink own index "UnfinishedFair" "ABOVE" "[I" ∈ TB) (h : J l D k nL cells slots (pc + 3) ws lv (.ref (sd 0) :: st)) : J l D k nL cells slots pc ws lv st := by
  obtain ⟨p, e, R, s, m, args, below, meth, c, Q, A, B⟩ := k
  obtain ⟨hx, hb, hr, hml, hown, hts, hlocks, hR0, hK, hG, hA⟩ := C
  intro H locs ls hP hD hS hl
  exact va_gets hx hb hG.1 hS hown (hts _ hlk) (fun _ z => z) d (h H locs ls hP hD hS hl)
theorem j_names (C : Cx D ca sd cc own ret R0 k nL) (index : Nat) (d : decode cc pc = .ok (.getstatic index, 3)) (hlk : Cond.fieldLink own index "UnfinishedFairModel" "NAMES" "[I" ∈ TB) (h : J l D k nL cells slots (pc + 3) ws lv (.ref (sd 1) :: st)) : J l D k nL cells slots pc ws lv st := by
  obtain ⟨p, e, R, s, m, args, below, meth, c, Q, A, B⟩ := k
  obtain ⟨hx, hb, hr, hml, hown, hts, hlocks, hR0, hK, hG, hA⟩ := C
  intro H locs ls hP hD hS hl
  exact va_gets hx hb hG.2.2.1 hS hown (hts _ hlk) (fun _ z => z) d (h H locs ls hP hD hS hl)
theorem j_st0 (C : Cx D ca sd cc own ret R0 k nL) {i : Int32} (d : decode cc pc = .ok (.iaload, 1)) (hin : vp_in i 6) (h : J l D k nL cells slots (pc + 1) ws lv (.int (abvL.getD i.toNatClampNeg 0) :: st)) : J l D k nL cells slots pc ws lv (.int i :: .ref (sd 0) :: st) := by
  obtain ⟨p, e, R, s, m, args, below, meth, c, Q, A, B⟩ := k
  obtain ⟨hx, hb, hr, hml, hown, hts, hlocks, hR0, hK, hG, hA⟩ := C
  intro H locs ls hP hD hS hl
  exact va_ti hx hb hG.2.1 hS hin rfl d (h H locs ls hP hD hS hl)
theorem j_st1 (C : Cx D ca sd cc own ret R0 k nL) {i : Int32} (d : decode cc pc = .ok (.iaload, 1)) (hin : vp_in i 70) (h : J l D k nL cells slots (pc + 1) ws lv (.int (namL.getD i.toNatClampNeg 0) :: st)) : J l D k nL cells slots pc ws lv (.int i :: .ref (sd 1) :: st) := by
  obtain ⟨p, e, R, s, m, args, below, meth, c, Q, A, B⟩ := k
  obtain ⟨hx, hb, hr, hml, hown, hts, hlocks, hR0, hK, hG, hA⟩ := C
  intro H locs ls hP hD hS hl
  exact va_ti hx hb hG.2.2.2.1 hS hin rfl d (h H locs ls hP hD hS hl)
variable {x y : MethodName} {cc1 : ByteArray} {maxL : Nat} {ret1 : Option FieldType} {rm : Room} {wa : va_W} {mc ms index n : Nat} {Qc : (Nat → Prop) → Array Value → State → Outcome → State → Prop} {As : List Value} {b : Nat} {Cn1 : String}
/-- a super call of a method that the class above has from the one above that -/
def LkU2 (own : String) (index : Nat) (x y : MethodName) (cc1 : ByteArray) (maxL : Nat) (ret1 : Option FieldType) (n : Nat) : Prop := Cond.methodLink own index x ∈ TB ∧ Cond.sameMethod x.cls y.cls x.name x.desc ∈ TB ∧ Cond.superclass own x.cls ∈ TB ∧ Cond.superclass x.cls y.cls ∈ TB ∧ Cond.instanceMethod y ∈ TB ∧ Cond.initialized y.cls ∈ TB ∧ Cond.code y cc1 maxL ret1 ∈ TB ∧ x.name ≠ "<init>" ∧ x.name = y.name ∧ x.desc = y.desc ∧ (parseMethodDescriptor y.desc).map (fun d => d.parameters.length) = some n
theorem jr_U2 (C : Cx D ca sd cc own ret R0 k nL) (lk : LkU2 own index x y cc1 maxL ret1 n) (hM : Cn l D ca sd y cc1 maxL ret1 rm (.ref b :: As) wc wa mc ms Qc) (hrm : rm.cells = mc ∧ rm.slots = ms ∧ rm.frames + 1 ≤ R0.frames ∧ 8 + (maxL + 11) + rm.locals ≤ R0.locals ∧ cells + mc ≤ R0.cells ∧ slots + ms ≤ R0.slots) (isC : List Nat) (hnd : va_nd isC = true) (hC : isC.map (fun i => ws[i]?) = wc.map some) (hF : Fx wa ws k) (q0 ci : Nat) {fs : List Value} {T : u_T} {N : Nat} (hq : ws[q0]? = some (b, .inr (ci, fs))) (hci : vwCl[ci]? = some (Cn1, T, N)) (hn : As.length = n) (hst : st0 = As.reverse ++ .ref b :: st) (hw : (st.map fun v => v.category).sum ≤ 8) (d : decode cc pc = .ok (.invokespecial index, 3)) : JR l D k nL cells slots pc ws lv st0 st wa mc ms Qc (.ref b :: As) := by
  obtain ⟨p, e, R, s, m, args, below, meth, c, Q, A, B⟩ := k
  obtain ⟨hx, hb, hr, hml, hown, hts, hlocks, hR0, hK, hG, hA⟩ := C
  obtain ⟨l1, l2, l3, l4, l5, l6, l7, l8, l9, l10, l11⟩ := lk
  subst hR0
  obtain ⟨hrc, hrs, hfr, hlo, hcl, hsl⟩ := hrm
  intro H locs ls hP hD hS hl
  have hcode : Cond.code y cc1 maxL ret1 ∈ (Cond.code y cc1 maxL ret1 :: TB) := List.mem_cons_self
  have hws : ∀ w ∈ (Cond.code y cc1 maxL ret1 :: TB), ∀ (a' : Array Value) (U : State), s.WarmedH U.vm → w.before a' U = true := pay_in hts (tb_gi (tb_cons l7 (fun _ h => h)))
  have hKb : Back l R p e below s args y 3 8 (PreOf R mc ms (va_Pc (.ref b :: As) (fun U => U.heap.size = H.size ∧ va_P D vwCl wc U.heap ∧ va_D (fun _ => True) wc ∧ va_K D vwCl (gT ca) U ∧ gS sd (va_A wa H.size) U U.heap))) (PostOf (Qc (va_A wa H.size)) mc ms (va_A wa H.size)) := back_of (bytes := cc1) (maxL := maxL) (ret := ret1) (hM H.size) blind_pc hrc hrs hfr hlo hws hcode (fun a' U hW => word_at hW (Or.inl (by first | rfl | simp [Cond.onTables, Cond.keeps, Cond.steady])) (hts _ l6))
  obtain ⟨cellB, hcB, hoB, hclB⟩ := va_recv hK hP hci hq
  obtain ⟨hfc, kB, hkB, -⟩ := (hK.1 ci _ hci).2
  have hkB : s.vm.classes[cellB.cls]? = some kB := by rw [← Option.some.inj (hfc.symm.trans hclB)]; exact hkB
  have hPc := pre_pc (wa := wa) (wc := wc) hP hD hS hK hG (hF H locs hD hS) isC hnd hC (.ref b :: As)
  intro T1 hT X
  obtain ⟨mk, methM, hnamed, hmethM, hstM, habM⟩ := Cond.instanceMethod_spec (hts _ l5)
  obtain ⟨methM', cM, hmethM', -, -, -, -, -, -, hsigM⟩ := Cond.code_spec hnamed (hts _ l7)
  cases hmethM.symm.trans hmethM'
  obtain ⟨ps, dk, kp, hps, hdk, hkp, hsuper, -, -, hnid⟩ := Cond.superclass_spec hown (hts _ l3)
  obtain ⟨ps2, dk2, kp2, hps2, hdk2, hkp2, hsuper2, -, -, hnid2⟩ := Cond.superclass_spec hps (hts _ l4)
  have hnn : s.methodNamed? ⟨y.cls, x.name, x.desc⟩ = some mk := by rw [l9, l10]; exact hnamed
  have hpm : ps2 = mk.cls := Option.some.inj (hps2.symm.trans (findClass_of_methodNamed hnamed))
  have hsz : 0 < s.vm.classes.size := Nat.lt_of_le_of_lt (Nat.zero_le _) (Array.getElem?_eq_some_iff.mp hdk2).1
  have hsub : s.vm.isSubclass ps mk.cls = true := by
    rw [← hpm]
    obtain ⟨z, hz⟩ : ∃ z, s.vm.classes.size = z + 1 := ⟨s.vm.classes.size - 1, by omega⟩
    simp [Vm.isSubclass, hz, Vm.isSubclassAux, hdk2, hsuper2]
  have hlen : As.length = methM.sig.parameters.length := by
    have h2 := l11
    rw [hsigM] at h2
    rw [hn]
    exact (Option.some.inj h2).symm
  obtain ⟨vm₁, X₁, hstep₁⟩ := X.invokespecialUp hx hown (hts _ l1) (hts _ l2) hnn hmethM hstM habM l8 hdk hnid hps hsuper hsub (a := b) (cell := cellB) (by rw [hT]; exact hcB)
    (fun z h => by rw [h] at hoB; cases hoB) hkB (g := F0 m pc ls st0) rfl (argsL := As) (rest := st) hlen hst (by rw [hb]; exact d)
  obtain ⟨v, B1, X', hpost, hsteps⟩ := hKb m meth c ⟨T1.setVm vm₁, locs, cells, slots⟩ { F0 m pc ls st0 with stack := st } (.invokespecial index) mk (Value.ref b :: As).toArray X₁ rfl (hl.1.trans hml.symm) (by rw [hb]; exact d) (lv_room hw) (X₁.named hnamed) ⟨hcl, hsl, hPc (T1.setVm vm₁) hT X₁.warmed⟩
  obtain ⟨U', l2', c2, s2⟩ := B1
  obtain ⟨g', mk', t, L, e1, e2, hq', h1, hL, h2, h3⟩ := hpost
  dsimp only [Pt.U, Pt.locs, Pt.cells, Pt.slots] at X' e1 e2 h1 h2 h3 hsteps
  subst h1; subst h2; subst h3
  exact ⟨v, (T1.setVm vm₁).calling g' mk' (Value.ref b :: As).toArray, t, U', L, hT, X', hL, e1, e2, hq', fun target h => hstep₁ _ (by rw [doInvoke_state]; exact hsteps.trans h)⟩
end Jd
end
section
theorem lkU_X0_11 : LkU RX0 11 yX4_tires cX4_tires 1 (some .int) 0 := ⟨(tb_t 287 (by decide +kernel) rfl), (tb_t 283 (by decide +kernel) rfl), (tb_t 50 (by decide +kernel) rfl), (tb_t 281 (by decide +kernel) rfl), (tb_t 2 (by decide +kernel) rfl), (tb_t 299 (by decide +kernel) rfl), by decide, by decide +kernel⟩
theorem lkU_X0_15 : LkU RX0 15 yX4_asked cX4_asked 3 (some .int) 2 := ⟨(tb_t 307 (by decide +kernel) rfl), (tb_t 303 (by decide +kernel) rfl), (tb_t 50 (by decide +kernel) rfl), (tb_t 301 (by decide +kernel) rfl), (tb_t 2 (by decide +kernel) rfl), (tb_t 322 (by decide +kernel) rfl), by decide, by decide +kernel⟩
theorem lkU_X0_7 : LkU RX0 7 yX4_goesOn cX4_goesOn 4 (some .int) 3 := ⟨(tb_t 334 (by decide +kernel) rfl), (tb_t 330 (by decide +kernel) rfl), (tb_t 50 (by decide +kernel) rfl), (tb_t 328 (by decide +kernel) rfl), (tb_t 2 (by decide +kernel) rfl), (tb_t 350 (by decide +kernel) rfl), by decide, by decide +kernel⟩
theorem lkU_X1_11 : LkU RX1 11 yX0_bid cX0_bid 4 (some .int) 3 := ⟨(tb_t 361 (by decide +kernel) rfl), (tb_t 1138 (by decide +kernel) rfl), (tb_t 77 (by decide +kernel) rfl), (tb_t 356 (by decide +kernel) rfl), (tb_t 3 (by decide +kernel) rfl), (tb_t 357 (by decide +kernel) rfl), by decide, by decide +kernel⟩
theorem lkU_X1_7 : LkU RX1 7 yX0_goesOn cX0_goesOn 4 (some .int) 3 := ⟨(tb_t 338 (by decide +kernel) rfl), (tb_t 1136 (by decide +kernel) rfl), (tb_t 77 (by decide +kernel) rfl), (tb_t 332 (by decide +kernel) rfl), (tb_t 3 (by decide +kernel) rfl), (tb_t 333 (by decide +kernel) rfl), by decide, by decide +kernel⟩
theorem lkU_X3_11 : LkU RX3 11 yX4_bid cX4_bid 4 (some .int) 3 := ⟨(tb_t 365 (by decide +kernel) rfl), (tb_t 354 (by decide +kernel) rfl), (tb_t 59 (by decide +kernel) rfl), (tb_t 352 (by decide +kernel) rfl), (tb_t 2 (by decide +kernel) rfl), (tb_t 370 (by decide +kernel) rfl), by decide, by decide +kernel⟩
theorem lkU_X3_7 : LkU RX3 7 yX4_goesOn cX4_goesOn 4 (some .int) 3 := ⟨(tb_t 342 (by decide +kernel) rfl), (tb_t 330 (by decide +kernel) rfl), (tb_t 59 (by decide +kernel) rfl), (tb_t 328 (by decide +kernel) rfl), (tb_t 2 (by decide +kernel) rfl), (tb_t 350 (by decide +kernel) rfl), by decide, by decide +kernel⟩
theorem lkU_X5_11 : LkU2 RX5 11 ⟨"UnfinishedFair$Jersey", "tires", "()I"⟩ yX4_tires cX4_tires 1 (some .int) 0 := ⟨(tb_t 293 (by decide +kernel) rfl), (tb_t 294 (by decide +kernel) rfl), (tb_t 86 (by decide +kernel) rfl), (tb_t 59 (by decide +kernel) rfl), (tb_t 281 (by decide +kernel) rfl), (tb_t 2 (by decide +kernel) rfl), (tb_t 299 (by decide +kernel) rfl), by decide, rfl, rfl, by decide +kernel⟩
theorem lkU_X5_15 : LkU2 RX5 15 ⟨"UnfinishedFair$Jersey", "asked", "(II)I"⟩ yX4_asked cX4_asked 3 (some .int) 2 := ⟨(tb_t 316 (by decide +kernel) rfl), (tb_t 317 (by decide +kernel) rfl), (tb_t 86 (by decide +kernel) rfl), (tb_t 59 (by decide +kernel) rfl), (tb_t 301 (by decide +kernel) rfl), (tb_t 2 (by decide +kernel) rfl), (tb_t 322 (by decide +kernel) rfl), by decide, rfl, rfl, by decide +kernel⟩
theorem lkU_X5_7 : LkU RX5 7 yX3_goesOn cX3_goesOn 4 (some .int) 3 := ⟨(tb_t 346 (by decide +kernel) rfl), (tb_t 1137 (by decide +kernel) rfl), (tb_t 86 (by decide +kernel) rfl), (tb_t 340 (by decide +kernel) rfl), (tb_t 4 (by decide +kernel) rfl), (tb_t 341 (by decide +kernel) rfl), by decide, by decide +kernel⟩
theorem lm_X0_19 : Cond.methodLink RX0 19 Lib.Math.max.name ∈ TB ∧ Cond.static Lib.Math.max.name ∈ TB ∧ Cond.initialized "java/lang/Math" ∈ TB ∧ Cond.code Lib.Math.max.name Lib.Math.max.code 2 (some .int) ∈ TB := ⟨(tb_t 308 (by decide +kernel) rfl), (tb_t 309 (by decide +kernel) rfl), (tb_t 14 (by decide +kernel) rfl), (tb_t 310 (by decide +kernel) rfl)⟩
/-! fields of each class are laid as the tables say -/
theorem uw_X0 : ∀ w ∈ u_ws RX0 TX0 1, w ∈ TB := by
  rw [show u_ws RX0 TX0 1 = [Cond.laysFinal "UnfinishedFair$Boat" "UnfinishedFair$Kind" "title" "Ljava/lang/String;"] from by decide +kernel]
  exact (tb_cons (tb_t 49 (by decide +kernel) rfl) tb_nil)
theorem uw_X1 : ∀ w ∈ u_ws RX1 TX1 1, w ∈ TB := by
  rw [show u_ws RX1 TX1 1 = [Cond.laysFinal "UnfinishedFair$Bridge" "UnfinishedFair$Kind" "title" "Ljava/lang/String;"] from by decide +kernel]
  exact (tb_cons (tb_t 76 (by decide +kernel) rfl) tb_nil)
theorem uw_X2 : ∀ w ∈ u_ws RX2 TX2 11, w ∈ TB := by
  rw [show u_ws RX2 TX2 11 = [Cond.laysFinal "UnfinishedFair$Common" "UnfinishedFair$Common" "natures" "[LUnfinishedFair$Kind;", Cond.laysFinal "UnfinishedFair$Common" "UnfinishedFair$Common" "skills" "[I", Cond.laysFinal "UnfinishedFair$Common" "UnfinishedFair$Common" "zeals" "[I", Cond.laysFinal "UnfinishedFair$Common" "UnfinishedFair$Common" "mades" "[I", Cond.laysFinal "UnfinishedFair$Common" "UnfinishedFair$Common" "kinds" "[I", Cond.laysFinal "UnfinishedFair$Common" "UnfinishedFair$Common" "dones" "[I", Cond.laysFinal "UnfinishedFair$Common" "UnfinishedFair$Common" "withs" "[I", Cond.laysFinal "UnfinishedFair$Common" "UnfinishedFair$Common" "dusts" "[I", Cond.laysFinal "UnfinishedFair$Common" "UnfinishedFair$Common" "held" "[I", Cond.lays "UnfinishedFair$Common" "UnfinishedFair$Common" "year" "I", Cond.lays "UnfinishedFair$Common" "UnfinishedFair$Common" "size" "I"] from by decide +kernel]
  exact (tb_cons (tb_t 118 (by decide +kernel) rfl) (tb_cons (tb_t 120 (by decide +kernel) rfl) (tb_cons (tb_t 122 (by decide +kernel) rfl) (tb_cons (tb_t 124 (by decide +kernel) rfl) (tb_cons (tb_t 126 (by decide +kernel) rfl) (tb_cons (tb_t 128 (by decide +kernel) rfl) (tb_cons (tb_t 130 (by decide +kernel) rfl) (tb_cons (tb_t 132 (by decide +kernel) rfl) (tb_cons (tb_t 134 (by decide +kernel) rfl) (tb_cons (tb_t 136 (by decide +kernel) rfl) (tb_cons (tb_t 138 (by decide +kernel) rfl) tb_nil)))))))))))
theorem uw_X3 : ∀ w ∈ u_ws RX3 TX3 1, w ∈ TB := by
  rw [show u_ws RX3 TX3 1 = [Cond.laysFinal "UnfinishedFair$Jersey" "UnfinishedFair$Kind" "title" "Ljava/lang/String;"] from by decide +kernel]
  exact (tb_cons (tb_t 58 (by decide +kernel) rfl) tb_nil)
theorem uw_X4 : ∀ w ∈ u_ws RX4 TX4 1, w ∈ TB := by
  rw [show u_ws RX4 TX4 1 = [Cond.laysFinal "UnfinishedFair$Kind" "UnfinishedFair$Kind" "title" "Ljava/lang/String;"] from by decide +kernel]
  exact (tb_cons (tb_t 38 (by decide +kernel) rfl) tb_nil)
theorem uw_X5 : ∀ w ∈ u_ws RX5 TX5 1, w ∈ TB := by
  rw [show u_ws RX5 TX5 1 = [Cond.laysFinal "UnfinishedFair$Letter" "UnfinishedFair$Kind" "title" "Ljava/lang/String;"] from by decide +kernel]
  exact (tb_cons (tb_t 85 (by decide +kernel) rfl) tb_nil)
theorem uw_X6 : ∀ w ∈ u_ws RX6 TX6 1, w ∈ TB := by
  rw [show u_ws RX6 TX6 1 = [Cond.laysFinal "UnfinishedFair$Quarrel" "UnfinishedFair$Kind" "title" "Ljava/lang/String;"] from by decide +kernel]
  exact (tb_cons (tb_t 67 (by decide +kernel) rfl) tb_nil)
theorem uw_X7 : ∀ w ∈ u_ws RX7 TX7 3, w ∈ TB := by
  rw [show u_ws RX7 TX7 3 = [Cond.laysFinal "UnfinishedFair$Sheet" "UnfinishedFair$Sheet" "numbers" "[J", Cond.lays "UnfinishedFair$Sheet" "UnfinishedFair$Sheet" "bits" "I", Cond.lays "UnfinishedFair$Sheet" "UnfinishedFair$Sheet" "length" "I"] from by decide +kernel]
  exact (tb_cons (tb_t 181 (by decide +kernel) rfl) (tb_cons (tb_t 183 (by decide +kernel) rfl) (tb_cons (tb_t 185 (by decide +kernel) rfl) tb_nil)))
theorem uw_X8 : ∀ w ∈ u_ws RX8 TX8 6, w ∈ TB := by
  rw [show u_ws RX8 TX8 6 = [Cond.laysFinal "UnfinishedFair$Tape" "UnfinishedFair$Tape" "natures" "[LUnfinishedFair$Kind;", Cond.laysFinal "UnfinishedFair$Tape" "UnfinishedFair$Tape" "bytes" "[B", Cond.lays "UnfinishedFair$Tape" "UnfinishedFair$Tape" "length" "I", Cond.lays "UnfinishedFair$Tape" "UnfinishedFair$Tape" "sort" "I", Cond.lays "UnfinishedFair$Tape" "UnfinishedFair$Tape" "place" "I", Cond.lays "UnfinishedFair$Tape" "UnfinishedFair$Tape" "behind" "I"] from by decide +kernel]
  exact (tb_cons (tb_t 155 (by decide +kernel) rfl) (tb_cons (tb_t 157 (by decide +kernel) rfl) (tb_cons (tb_t 159 (by decide +kernel) rfl) (tb_cons (tb_t 161 (by decide +kernel) rfl) (tb_cons (tb_t 163 (by decide +kernel) rfl) (tb_cons (tb_t 165 (by decide +kernel) rfl) tb_nil))))))
theorem uw_X9 : ∀ w ∈ u_ws RX9 TX9 7, w ∈ TB := by
  rw [show u_ws RX9 TX9 7 = [Cond.laysFinal "UnfinishedFair" "UnfinishedFair" "live" "LUnfinishedFair$Common;", Cond.laysFinal "UnfinishedFair" "UnfinishedFair" "trial" "LUnfinishedFair$Common;", Cond.laysFinal "UnfinishedFair" "UnfinishedFair" "kept" "LUnfinishedFair$Common;", Cond.lays "UnfinishedFair" "UnfinishedFair" "isKept" "Z", Cond.laysFinal "UnfinishedFair" "UnfinishedFair" "tape" "LUnfinishedFair$Tape;", Cond.laysFinal "UnfinishedFair" "UnfinishedFair" "sheets" "[LUnfinishedFair$Sheet;", Cond.laysFinal "UnfinishedFair" "UnfinishedFair" "findings" "[I"] from by decide +kernel]
  exact (tb_cons (tb_t 196 (by decide +kernel) rfl) (tb_cons (tb_t 198 (by decide +kernel) rfl) (tb_cons (tb_t 200 (by decide +kernel) rfl) (tb_cons (tb_t 202 (by decide +kernel) rfl) (tb_cons (tb_t 204 (by decide +kernel) rfl) (tb_cons (tb_t 206 (by decide +kernel) rfl) (tb_cons (tb_t 208 (by decide +kernel) rfl) tb_nil)))))))
theorem uw_X10 : ∀ w ∈ u_ws RX10 TX10 15, w ∈ TB := by
  rw [show u_ws RX10 TX10 15 = [Cond.laysFinal "UnfinishedFairModel" "UnfinishedFairModel" "m" "[I", Cond.laysFinal "UnfinishedFairModel" "UnfinishedFairModel" "kept" "[I", Cond.laysFinal "UnfinishedFairModel" "UnfinishedFairModel" "was" "[I", Cond.lays "UnfinishedFairModel" "UnfinishedFairModel" "isKept" "Z", Cond.laysFinal "UnfinishedFairModel" "UnfinishedFairModel" "found" "[I", Cond.laysFinal "UnfinishedFairModel" "UnfinishedFairModel" "tape" "[I", Cond.lays "UnfinishedFairModel" "UnfinishedFairModel" "taped" "I", Cond.lays "UnfinishedFairModel" "UnfinishedFairModel" "token" "I", Cond.lays "UnfinishedFairModel" "UnfinishedFairModel" "begin" "I", Cond.lays "UnfinishedFairModel" "UnfinishedFairModel" "at" "I", Cond.lays "UnfinishedFairModel" "UnfinishedFairModel" "value" "I", Cond.lays "UnfinishedFairModel" "UnfinishedFairModel" "bad" "Z", Cond.laysFinal "UnfinishedFairModel" "UnfinishedFairModel" "bitsOf" "[I", Cond.laysFinal "UnfinishedFairModel" "UnfinishedFairModel" "sizeOf" "[I", Cond.laysFinal "UnfinishedFairModel" "UnfinishedFairModel" "cells" "[J"] from by decide +kernel]
  exact (tb_cons (tb_t 746 (by decide +kernel) rfl) (tb_cons (tb_t 748 (by decide +kernel) rfl) (tb_cons (tb_t 750 (by decide +kernel) rfl) (tb_cons (tb_t 752 (by decide +kernel) rfl) (tb_cons (tb_t 754 (by decide +kernel) rfl) (tb_cons (tb_t 756 (by decide +kernel) rfl) (tb_cons (tb_t 758 (by decide +kernel) rfl) (tb_cons (tb_t 760 (by decide +kernel) rfl) (tb_cons (tb_t 762 (by decide +kernel) rfl) (tb_cons (tb_t 764 (by decide +kernel) rfl) (tb_cons (tb_t 766 (by decide +kernel) rfl) (tb_cons (tb_t 768 (by decide +kernel) rfl) (tb_cons (tb_t 770 (by decide +kernel) rfl) (tb_cons (tb_t 772 (by decide +kernel) rfl) (tb_cons (tb_t 774 (by decide +kernel) rfl) tb_nil)))))))))))))))
def wp_X4_goesOn   (a1 : Int32) (a2 : Int32) (a3 : Int32) (Q : (Int32) → Prop) : Prop := Q a1
set_option maxRecDepth 100000 in
set_option maxHeartbeats 8000000 in
theorem c_X4_goesOn {l : Launch} {D : va_G} {ca : Nat → ClassId} {sd : Nat → Nat} {Cn1 : String} {T1 : u_T} {N1 : Nat} (h0 : Nat) (ci : Nat) (tt : Nat)  (hci : vwCl[ci]? = some (Cn1, T1, N1)) (a1 : Int32) (a2 : Int32) (a3 : Int32) {Q : (Int32) → Prop} (hw : wp_X4_goesOn   a1 a2 a3 Q) : Cn l D ca sd yX4_goesOn cX4_goesOn 4 (some .int) { frames := 0, cells := 0, slots := 0, locals := 0 } [.ref h0, .int a1, .int a2, .int a3] (wO h0 ci tt) [] 0 0 (Ri D (fun (r : Int32) (u : Unit) => Q r ) (fun _ => [])) := by
  refine cn_ofR (by decide) (Nat.le_of_ble_eq_true rfl) (fun k C hR => ?_)
  have C : Cx D ca sd cX4_goesOn RX4 (some .int) { frames := 0, cells := 0, slots := 0, locals := 0 } k 4 := C
  unfold wp_X4_goesOn at hw
  show J l D k 4 0 0 0 (wO h0 ci tt) [(0, .ref h0), (1, .int a1), (2, .int a2), (3, .int a3)] []
  refine j_iload_n C 1 dX4_goesOn_0 rfl ?_
  exact j_iretR C hR () rfl dX4_goesOn_1 hw
def wp_X4_tires    (Q : (Int32) → Prop) : Prop := Q 1
set_option maxRecDepth 100000 in
set_option maxHeartbeats 8000000 in
theorem c_X4_tires {l : Launch} {D : va_G} {ca : Nat → ClassId} {sd : Nat → Nat} {Cn1 : String} {T1 : u_T} {N1 : Nat} (h0 : Nat) (ci : Nat) (tt : Nat)  (hci : vwCl[ci]? = some (Cn1, T1, N1))  {Q : (Int32) → Prop} (hw : wp_X4_tires    Q) : Cn l D ca sd yX4_tires cX4_tires 1 (some .int) { frames := 0, cells := 0, slots := 0, locals := 0 } [.ref h0] (wO h0 ci tt) [] 0 0 (Ri D (fun (r : Int32) (u : Unit) => Q r ) (fun _ => [])) := by
  refine cn_ofR (by decide) (Nat.le_of_ble_eq_true rfl) (fun k C hR => ?_)
  have C : Cx D ca sd cX4_tires RX4 (some .int) { frames := 0, cells := 0, slots := 0, locals := 0 } k 1 := C
  unfold wp_X4_tires at hw
  show J l D k 1 0 0 0 (wO h0 ci tt) [(0, .ref h0)] []
  refine j_iconst C 1 dX4_tires_0 (by decide) ?_
  exact j_iretR C hR () rfl dX4_tires_1 hw
def wp_X4_bid   (a1 : Int32) (a2 : Int32) (a3 : Int32) (Q : (Int32) → Prop) : Prop := Q (2 * a1)
set_option maxRecDepth 100000 in
set_option maxHeartbeats 8000000 in
theorem c_X4_bid {l : Launch} {D : va_G} {ca : Nat → ClassId} {sd : Nat → Nat} {Cn1 : String} {T1 : u_T} {N1 : Nat} (h0 : Nat) (ci : Nat) (tt : Nat)  (hci : vwCl[ci]? = some (Cn1, T1, N1)) (a1 : Int32) (a2 : Int32) (a3 : Int32) {Q : (Int32) → Prop} (hw : wp_X4_bid   a1 a2 a3 Q) : Cn l D ca sd yX4_bid cX4_bid 4 (some .int) { frames := 0, cells := 0, slots := 0, locals := 0 } [.ref h0, .int a1, .int a2, .int a3] (wO h0 ci tt) [] 0 0 (Ri D (fun (r : Int32) (u : Unit) => Q r ) (fun _ => [])) := by
  refine cn_ofR (by decide) (Nat.le_of_ble_eq_true rfl) (fun k C hR => ?_)
  have C : Cx D ca sd cX4_bid RX4 (some .int) { frames := 0, cells := 0, slots := 0, locals := 0 } k 4 := C
  unfold wp_X4_bid at hw
  show J l D k 4 0 0 0 (wO h0 ci tt) [(0, .ref h0), (1, .int a1), (2, .int a2), (3, .int a3)] []
  refine j_iconst C 2 dX4_bid_0 (by decide) ?_
  refine j_iload_n C 1 dX4_bid_1 rfl ?_
  refine j_imul C dX4_bid_2 ?_
  exact j_iretR C hR () rfl dX4_bid_3 hw
def wp_X4_asked   (a1 : Int32) (a2 : Int32) (Q : (Int32) → Prop) : Prop := Q 8
set_option maxRecDepth 100000 in
set_option maxHeartbeats 8000000 in
theorem c_X4_asked {l : Launch} {D : va_G} {ca : Nat → ClassId} {sd : Nat → Nat} {Cn1 : String} {T1 : u_T} {N1 : Nat} (h0 : Nat) (ci : Nat) (tt : Nat)  (hci : vwCl[ci]? = some (Cn1, T1, N1)) (a1 : Int32) (a2 : Int32) {Q : (Int32) → Prop} (hw : wp_X4_asked   a1 a2 Q) : Cn l D ca sd yX4_asked cX4_asked 3 (some .int) { frames := 0, cells := 0, slots := 0, locals := 0 } [.ref h0, .int a1, .int a2] (wO h0 ci tt) [] 0 0 (Ri D (fun (r : Int32) (u : Unit) => Q r ) (fun _ => [])) := by
  refine cn_ofR (by decide) (Nat.le_of_ble_eq_true rfl) (fun k C hR => ?_)
  have C : Cx D ca sd cX4_asked RX4 (some .int) { frames := 0, cells := 0, slots := 0, locals := 0 } k 3 := C
  unfold wp_X4_asked at hw
  show J l D k 3 0 0 0 (wO h0 ci tt) [(0, .ref h0), (1, .int a1), (2, .int a2)] []
  refine j_bipush C 8 dX4_asked_0 (by decide) ?_
  exact j_iretR C hR () rfl dX4_asked_2 hw
def wp_X0_goesOn   (a1 : Int32) (a2 : Int32) (a3 : Int32) (Q : (Int32) → Prop) : Prop := wp_X4_goesOn a1 a2 a3 (fun r1 => Q (r1 / 2))
set_option maxRecDepth 100000 in
set_option maxHeartbeats 8000000 in
theorem c_X0_goesOn {l : Launch} {D : va_G} {ca : Nat → ClassId} {sd : Nat → Nat} {Cn1 : String} {T1 : u_T} {N1 : Nat} (h0 : Nat) (ci : Nat) (tt : Nat)  (hci : vwCl[ci]? = some (Cn1, T1, N1)) (a1 : Int32) (a2 : Int32) (a3 : Int32) {Q : (Int32) → Prop} (hw : wp_X0_goesOn   a1 a2 a3 Q) : Cn l D ca sd yX0_goesOn cX0_goesOn 4 (some .int) { frames := 1, cells := 0, slots := 0, locals := 23 } [.ref h0, .int a1, .int a2, .int a3] (wO h0 ci tt) [] 0 0 (Ri D (fun (r : Int32) (u : Unit) => Q r ) (fun _ => [])) := by
  refine cn_ofR (by decide) (Nat.le_of_ble_eq_true rfl) (fun k C hR => ?_)
  have C : Cx D ca sd cX0_goesOn RX0 (some .int) { frames := 1, cells := 0, slots := 0, locals := 23 } k 4 := C
  unfold wp_X0_goesOn at hw
  show J l D k 4 0 0 0 (wO h0 ci tt) [(0, .ref h0), (1, .int a1), (2, .int a2), (3, .int a3)] []
  refine j_aload_n C 0 dX0_goesOn_0 rfl ?_
  refine j_iload_n C 1 dX0_goesOn_1 rfl ?_
  refine j_iload_n C 2 dX0_goesOn_2 rfl ?_
  refine j_iload_n C 3 dX0_goesOn_3 rfl ?_
  refine j_ciZ C (jr_U C lkU_X0_7 (c_X4_goesOn h0 ci tt hci a1 a2 a3 hw) ⟨rfl, rfl, by decide, by decide, by decide, by decide⟩ [0] (by decide) rfl (fx_ro C) 0 ci rfl hci rfl rfl (Nat.le_of_ble_eq_true rfl) dX0_goesOn_4) (fun r1 u1 hw => ?_)
  refine j_iconst C 2 dX0_goesOn_7 (by decide) ?_
  refine j_idiv C dX0_goesOn_8 (by decide) ?_
  exact j_iretR C hR () rfl dX0_goesOn_9 hw
def wp_X0_tires    (Q : (Int32) → Prop) : Prop := wp_X4_tires  (fun r1 => Q (r1 + 1))
set_option maxRecDepth 100000 in
set_option maxHeartbeats 8000000 in
theorem c_X0_tires {l : Launch} {D : va_G} {ca : Nat → ClassId} {sd : Nat → Nat} {Cn1 : String} {T1 : u_T} {N1 : Nat} (h0 : Nat) (ci : Nat) (tt : Nat)  (hci : vwCl[ci]? = some (Cn1, T1, N1))  {Q : (Int32) → Prop} (hw : wp_X0_tires    Q) : Cn l D ca sd yX0_tires cX0_tires 1 (some .int) { frames := 1, cells := 0, slots := 0, locals := 20 } [.ref h0] (wO h0 ci tt) [] 0 0 (Ri D (fun (r : Int32) (u : Unit) => Q r ) (fun _ => [])) := by
  refine cn_ofR (by decide) (Nat.le_of_ble_eq_true rfl) (fun k C hR => ?_)
  have C : Cx D ca sd cX0_tires RX0 (some .int) { frames := 1, cells := 0, slots := 0, locals := 20 } k 1 := C
  unfold wp_X0_tires at hw
  show J l D k 1 0 0 0 (wO h0 ci tt) [(0, .ref h0)] []
  refine j_aload_n C 0 dX0_tires_0 rfl ?_
  refine j_ciZ C (jr_U C lkU_X0_11 (c_X4_tires h0 ci tt hci hw) ⟨rfl, rfl, by decide, by decide, by decide, by decide⟩ [0] (by decide) rfl (fx_ro C) 0 ci rfl hci rfl rfl (Nat.le_of_ble_eq_true rfl) dX0_tires_1) (fun r1 u1 hw => ?_)
  refine j_iconst C 1 dX0_tires_4 (by decide) ?_
  refine j_iadd C dX0_tires_5 ?_
  exact j_iretR C hR () rfl dX0_tires_6 hw
def wp_X0_bid   (a1 : Int32) (a2 : Int32) (a3 : Int32) (Q : (Int32) → Prop) : Prop := Q a1
set_option maxRecDepth 100000 in
set_option maxHeartbeats 8000000 in
theorem c_X0_bid {l : Launch} {D : va_G} {ca : Nat → ClassId} {sd : Nat → Nat} {Cn1 : String} {T1 : u_T} {N1 : Nat} (h0 : Nat) (ci : Nat) (tt : Nat)  (hci : vwCl[ci]? = some (Cn1, T1, N1)) (a1 : Int32) (a2 : Int32) (a3 : Int32) {Q : (Int32) → Prop} (hw : wp_X0_bid   a1 a2 a3 Q) : Cn l D ca sd yX0_bid cX0_bid 4 (some .int) { frames := 0, cells := 0, slots := 0, locals := 0 } [.ref h0, .int a1, .int a2, .int a3] (wO h0 ci tt) [] 0 0 (Ri D (fun (r : Int32) (u : Unit) => Q r ) (fun _ => [])) := by
  refine cn_ofR (by decide) (Nat.le_of_ble_eq_true rfl) (fun k C hR => ?_)
  have C : Cx D ca sd cX0_bid RX0 (some .int) { frames := 0, cells := 0, slots := 0, locals := 0 } k 4 := C
  unfold wp_X0_bid at hw
  show J l D k 4 0 0 0 (wO h0 ci tt) [(0, .ref h0), (1, .int a1), (2, .int a2), (3, .int a3)] []
  refine j_iload_n C 1 dX0_bid_0 rfl ?_
  exact j_iretR C hR () rfl dX0_bid_1 hw
def wp_X0_asked   (a1 : Int32) (a2 : Int32) (Q : (Int32) → Prop) : Prop := wp_X4_asked a1 a2 (fun r1 => Q (if 1 < (r1 - a2) then (r1 - a2) else 1))
set_option maxRecDepth 100000 in
set_option maxHeartbeats 8000000 in
theorem c_X0_asked {l : Launch} {D : va_G} {ca : Nat → ClassId} {sd : Nat → Nat} {Cn1 : String} {T1 : u_T} {N1 : Nat} (h0 : Nat) (ci : Nat) (tt : Nat)  (hci : vwCl[ci]? = some (Cn1, T1, N1)) (a1 : Int32) (a2 : Int32) {Q : (Int32) → Prop} (hw : wp_X0_asked   a1 a2 Q) : Cn l D ca sd yX0_asked cX0_asked 3 (some .int) { frames := 1, cells := 0, slots := 0, locals := 30 } [.ref h0, .int a1, .int a2] (wO h0 ci tt) [] 0 0 (Ri D (fun (r : Int32) (u : Unit) => Q r ) (fun _ => [])) := by
  refine cn_ofR (by decide) (Nat.le_of_ble_eq_true rfl) (fun k C hR => ?_)
  have C : Cx D ca sd cX0_asked RX0 (some .int) { frames := 1, cells := 0, slots := 0, locals := 30 } k 3 := C
  unfold wp_X0_asked at hw
  show J l D k 3 0 0 0 (wO h0 ci tt) [(0, .ref h0), (1, .int a1), (2, .int a2)] []
  refine j_iconst C 1 dX0_asked_0 (by decide) ?_
  refine j_aload_n C 0 dX0_asked_1 rfl ?_
  refine j_iload_n C 1 dX0_asked_2 rfl ?_
  refine j_iload_n C 2 dX0_asked_3 rfl ?_
  refine j_ciZ C (jr_U C lkU_X0_15 (c_X4_asked h0 ci tt hci a1 a2 hw) ⟨rfl, rfl, by decide, by decide, by decide, by decide⟩ [0] (by decide) rfl (fx_ro C) 0 ci rfl hci rfl rfl (Nat.le_of_ble_eq_true rfl) dX0_asked_4) (fun r1 u1 hw => ?_)
  refine j_iload_n C 2 dX0_asked_7 rfl ?_
  refine j_isub C dX0_asked_8 ?_
  refine j_max C lm_X0_19 (by decide) (Nat.le_of_ble_eq_true rfl) (by decide) (by decide) dX0_asked_9 ?_
  exact j_iretR C hR () rfl dX0_asked_12 hw
def wp_X3_goesOn   (a1 : Int32) (a2 : Int32) (a3 : Int32) (Q : (Int32) → Prop) : Prop := wp_X4_goesOn a1 a2 a3 (fun r1 => (50 ≤ a2 → Q (r1 + 0)) ∧ (¬ (50 ≤ a2) → Q (r1 + 3)))
set_option maxRecDepth 100000 in
set_option maxHeartbeats 8000000 in
theorem c_X3_goesOn {l : Launch} {D : va_G} {ca : Nat → ClassId} {sd : Nat → Nat} {Cn1 : String} {T1 : u_T} {N1 : Nat} (h0 : Nat) (ci : Nat) (tt : Nat)  (hci : vwCl[ci]? = some (Cn1, T1, N1)) (a1 : Int32) (a2 : Int32) (a3 : Int32) {Q : (Int32) → Prop} (hw : wp_X3_goesOn   a1 a2 a3 Q) : Cn l D ca sd yX3_goesOn cX3_goesOn 4 (some .int) { frames := 1, cells := 0, slots := 0, locals := 23 } [.ref h0, .int a1, .int a2, .int a3] (wO h0 ci tt) [] 0 0 (Ri D (fun (r : Int32) (u : Unit) => Q r ) (fun _ => [])) := by
  refine cn_ofR (by decide) (Nat.le_of_ble_eq_true rfl) (fun k C hR => ?_)
  have C : Cx D ca sd cX3_goesOn RX3 (some .int) { frames := 1, cells := 0, slots := 0, locals := 23 } k 4 := C
  unfold wp_X3_goesOn at hw
  show J l D k 4 0 0 0 (wO h0 ci tt) [(0, .ref h0), (1, .int a1), (2, .int a2), (3, .int a3)] []
  refine j_aload_n C 0 dX3_goesOn_0 rfl ?_
  refine j_iload_n C 1 dX3_goesOn_1 rfl ?_
  refine j_iload_n C 2 dX3_goesOn_2 rfl ?_
  refine j_iload_n C 3 dX3_goesOn_3 rfl ?_
  refine j_ciZ C (jr_U C lkU_X3_7 (c_X4_goesOn h0 ci tt hci a1 a2 a3 hw) ⟨rfl, rfl, by decide, by decide, by decide, by decide⟩ [0] (by decide) rfl (fx_ro C) 0 ci rfl hci rfl rfl (Nat.le_of_ble_eq_true rfl) dX3_goesOn_4) (fun r1 u1 hw => ?_)
  refine j_iload_n C 2 dX3_goesOn_7 rfl ?_
  refine j_bipush C 50 dX3_goesOn_8 (by decide) ?_
  refine j_icmp_ge C 17 dX3_goesOn_10 (by decide) (fun z => ?_) (fun z => ?_)
  · replace hw := hw.1 z
    refine j_iconst C 0 dX3_goesOn_17 (by decide) ?_
    refine j_iadd C dX3_goesOn_18 ?_
    exact j_iretR C hR () rfl dX3_goesOn_19 hw
  · replace hw := hw.2 z
    refine j_iconst C 3 dX3_goesOn_13 (by decide) ?_
    refine j_goto C 18 dX3_goesOn_14 (by decide) ?_
    refine j_iadd C dX3_goesOn_18 ?_
    exact j_iretR C hR () rfl dX3_goesOn_19 hw
def wp_X3_bid   (a1 : Int32) (a2 : Int32) (a3 : Int32) (Q : (Int32) → Prop) : Prop := wp_X4_bid a1 a2 a3 (fun r1 => (a2 ≤ 70 → Q (r1 + 0)) ∧ (¬ (a2 ≤ 70) → Q (r1 + a1)))
set_option maxRecDepth 100000 in
set_option maxHeartbeats 8000000 in
theorem c_X3_bid {l : Launch} {D : va_G} {ca : Nat → ClassId} {sd : Nat → Nat} {Cn1 : String} {T1 : u_T} {N1 : Nat} (h0 : Nat) (ci : Nat) (tt : Nat)  (hci : vwCl[ci]? = some (Cn1, T1, N1)) (a1 : Int32) (a2 : Int32) (a3 : Int32) {Q : (Int32) → Prop} (hw : wp_X3_bid   a1 a2 a3 Q) : Cn l D ca sd yX3_bid cX3_bid 4 (some .int) { frames := 1, cells := 0, slots := 0, locals := 23 } [.ref h0, .int a1, .int a2, .int a3] (wO h0 ci tt) [] 0 0 (Ri D (fun (r : Int32) (u : Unit) => Q r ) (fun _ => [])) := by
  refine cn_ofR (by decide) (Nat.le_of_ble_eq_true rfl) (fun k C hR => ?_)
  have C : Cx D ca sd cX3_bid RX3 (some .int) { frames := 1, cells := 0, slots := 0, locals := 23 } k 4 := C
  unfold wp_X3_bid at hw
  show J l D k 4 0 0 0 (wO h0 ci tt) [(0, .ref h0), (1, .int a1), (2, .int a2), (3, .int a3)] []
  refine j_aload_n C 0 dX3_bid_0 rfl ?_
  refine j_iload_n C 1 dX3_bid_1 rfl ?_
  refine j_iload_n C 2 dX3_bid_2 rfl ?_
  refine j_iload_n C 3 dX3_bid_3 rfl ?_
  refine j_ciZ C (jr_U C lkU_X3_11 (c_X4_bid h0 ci tt hci a1 a2 a3 hw) ⟨rfl, rfl, by decide, by decide, by decide, by decide⟩ [0] (by decide) rfl (fx_ro C) 0 ci rfl hci rfl rfl (Nat.le_of_ble_eq_true rfl) dX3_bid_4) (fun r1 u1 hw => ?_)
  refine j_iload_n C 2 dX3_bid_7 rfl ?_
  refine j_bipush C 70 dX3_bid_8 (by decide) ?_
  refine j_icmp_le C 17 dX3_bid_10 (by decide) (fun z => ?_) (fun z => ?_)
  · replace hw := hw.1 z
    refine j_iconst C 0 dX3_bid_17 (by decide) ?_
    refine j_iadd C dX3_bid_18 ?_
    exact j_iretR C hR () rfl dX3_bid_19 hw
  · replace hw := hw.2 z
    refine j_iload_n C 1 dX3_bid_13 rfl ?_
    refine j_goto C 18 dX3_bid_14 (by decide) ?_
    refine j_iadd C dX3_bid_18 ?_
    exact j_iretR C hR () rfl dX3_bid_19 hw
def wp_X6_goesOn   (a1 : Int32) (a2 : Int32) (a3 : Int32) (Q : (Int32) → Prop) : Prop := (a2 = 99 → Q 0) ∧ (¬ (a2 = 99) → Q 1)
set_option maxRecDepth 100000 in
set_option maxHeartbeats 8000000 in
theorem c_X6_goesOn {l : Launch} {D : va_G} {ca : Nat → ClassId} {sd : Nat → Nat} {Cn1 : String} {T1 : u_T} {N1 : Nat} (h0 : Nat) (ci : Nat) (tt : Nat)  (hci : vwCl[ci]? = some (Cn1, T1, N1)) (a1 : Int32) (a2 : Int32) (a3 : Int32) {Q : (Int32) → Prop} (hw : wp_X6_goesOn   a1 a2 a3 Q) : Cn l D ca sd yX6_goesOn cX6_goesOn 4 (some .int) { frames := 0, cells := 0, slots := 0, locals := 0 } [.ref h0, .int a1, .int a2, .int a3] (wO h0 ci tt) [] 0 0 (Ri D (fun (r : Int32) (u : Unit) => Q r ) (fun _ => [])) := by
  refine cn_ofR (by decide) (Nat.le_of_ble_eq_true rfl) (fun k C hR => ?_)
  have C : Cx D ca sd cX6_goesOn RX6 (some .int) { frames := 0, cells := 0, slots := 0, locals := 0 } k 4 := C
  unfold wp_X6_goesOn at hw
  show J l D k 4 0 0 0 (wO h0 ci tt) [(0, .ref h0), (1, .int a1), (2, .int a2), (3, .int a3)] []
  refine j_iload_n C 2 dX6_goesOn_0 rfl ?_
  refine j_bipush C 99 dX6_goesOn_1 (by decide) ?_
  refine j_icmp_ne C 10 dX6_goesOn_3 (by decide) (fun z => ?_) (fun z => ?_)
  · replace hw := hw.2 z
    refine j_iconst C 1 dX6_goesOn_10 (by decide) ?_
    exact j_iretR C hR () rfl dX6_goesOn_11 hw
  · replace hw := hw.1 z
    refine j_iconst C 0 dX6_goesOn_6 (by decide) ?_
    refine j_goto C 11 dX6_goesOn_7 (by decide) ?_
    exact j_iretR C hR () rfl dX6_goesOn_11 hw
def wp_X6_tires    (Q : (Int32) → Prop) : Prop := Q 0
set_option maxRecDepth 100000 in
set_option maxHeartbeats 8000000 in
theorem c_X6_tires {l : Launch} {D : va_G} {ca : Nat → ClassId} {sd : Nat → Nat} {Cn1 : String} {T1 : u_T} {N1 : Nat} (h0 : Nat) (ci : Nat) (tt : Nat)  (hci : vwCl[ci]? = some (Cn1, T1, N1))  {Q : (Int32) → Prop} (hw : wp_X6_tires    Q) : Cn l D ca sd yX6_tires cX6_tires 1 (some .int) { frames := 0, cells := 0, slots := 0, locals := 0 } [.ref h0] (wO h0 ci tt) [] 0 0 (Ri D (fun (r : Int32) (u : Unit) => Q r ) (fun _ => [])) := by
  refine cn_ofR (by decide) (Nat.le_of_ble_eq_true rfl) (fun k C hR => ?_)
  have C : Cx D ca sd cX6_tires RX6 (some .int) { frames := 0, cells := 0, slots := 0, locals := 0 } k 1 := C
  unfold wp_X6_tires at hw
  show J l D k 1 0 0 0 (wO h0 ci tt) [(0, .ref h0)] []
  refine j_iconst C 0 dX6_tires_0 (by decide) ?_
  exact j_iretR C hR () rfl dX6_tires_1 hw
def wp_X6_bid   (a1 : Int32) (a2 : Int32) (a3 : Int32) (Q : (Int32) → Prop) : Prop := Q (20 - a1)
set_option maxRecDepth 100000 in
set_option maxHeartbeats 8000000 in
theorem c_X6_bid {l : Launch} {D : va_G} {ca : Nat → ClassId} {sd : Nat → Nat} {Cn1 : String} {T1 : u_T} {N1 : Nat} (h0 : Nat) (ci : Nat) (tt : Nat)  (hci : vwCl[ci]? = some (Cn1, T1, N1)) (a1 : Int32) (a2 : Int32) (a3 : Int32) {Q : (Int32) → Prop} (hw : wp_X6_bid   a1 a2 a3 Q) : Cn l D ca sd yX6_bid cX6_bid 4 (some .int) { frames := 0, cells := 0, slots := 0, locals := 0 } [.ref h0, .int a1, .int a2, .int a3] (wO h0 ci tt) [] 0 0 (Ri D (fun (r : Int32) (u : Unit) => Q r ) (fun _ => [])) := by
  refine cn_ofR (by decide) (Nat.le_of_ble_eq_true rfl) (fun k C hR => ?_)
  have C : Cx D ca sd cX6_bid RX6 (some .int) { frames := 0, cells := 0, slots := 0, locals := 0 } k 4 := C
  unfold wp_X6_bid at hw
  show J l D k 4 0 0 0 (wO h0 ci tt) [(0, .ref h0), (1, .int a1), (2, .int a2), (3, .int a3)] []
  refine j_bipush C 20 dX6_bid_0 (by decide) ?_
  refine j_iload_n C 1 dX6_bid_2 rfl ?_
  refine j_isub C dX6_bid_3 ?_
  exact j_iretR C hR () rfl dX6_bid_4 hw
def wp_X6_asked   (a1 : Int32) (a2 : Int32) (Q : (Int32) → Prop) : Prop := Q 1
set_option maxRecDepth 100000 in
set_option maxHeartbeats 8000000 in
theorem c_X6_asked {l : Launch} {D : va_G} {ca : Nat → ClassId} {sd : Nat → Nat} {Cn1 : String} {T1 : u_T} {N1 : Nat} (h0 : Nat) (ci : Nat) (tt : Nat)  (hci : vwCl[ci]? = some (Cn1, T1, N1)) (a1 : Int32) (a2 : Int32) {Q : (Int32) → Prop} (hw : wp_X6_asked   a1 a2 Q) : Cn l D ca sd yX6_asked cX6_asked 3 (some .int) { frames := 0, cells := 0, slots := 0, locals := 0 } [.ref h0, .int a1, .int a2] (wO h0 ci tt) [] 0 0 (Ri D (fun (r : Int32) (u : Unit) => Q r ) (fun _ => [])) := by
  refine cn_ofR (by decide) (Nat.le_of_ble_eq_true rfl) (fun k C hR => ?_)
  have C : Cx D ca sd cX6_asked RX6 (some .int) { frames := 0, cells := 0, slots := 0, locals := 0 } k 3 := C
  unfold wp_X6_asked at hw
  show J l D k 3 0 0 0 (wO h0 ci tt) [(0, .ref h0), (1, .int a1), (2, .int a2)] []
  refine j_iconst C 1 dX6_asked_0 (by decide) ?_
  exact j_iretR C hR () rfl dX6_asked_1 hw
def wp_X1_goesOn   (a1 : Int32) (a2 : Int32) (a3 : Int32) (Q : (Int32) → Prop) : Prop := wp_X0_goesOn a1 a2 a3 (fun r1 => Q (r1 + 2))
set_option maxRecDepth 100000 in
set_option maxHeartbeats 8000000 in
theorem c_X1_goesOn {l : Launch} {D : va_G} {ca : Nat → ClassId} {sd : Nat → Nat} {Cn1 : String} {T1 : u_T} {N1 : Nat} (h0 : Nat) (ci : Nat) (tt : Nat)  (hci : vwCl[ci]? = some (Cn1, T1, N1)) (a1 : Int32) (a2 : Int32) (a3 : Int32) {Q : (Int32) → Prop} (hw : wp_X1_goesOn   a1 a2 a3 Q) : Cn l D ca sd yX1_goesOn cX1_goesOn 4 (some .int) { frames := 2, cells := 0, slots := 0, locals := 46 } [.ref h0, .int a1, .int a2, .int a3] (wO h0 ci tt) [] 0 0 (Ri D (fun (r : Int32) (u : Unit) => Q r ) (fun _ => [])) := by
  refine cn_ofR (by decide) (Nat.le_of_ble_eq_true rfl) (fun k C hR => ?_)
  have C : Cx D ca sd cX1_goesOn RX1 (some .int) { frames := 2, cells := 0, slots := 0, locals := 46 } k 4 := C
  unfold wp_X1_goesOn at hw
  show J l D k 4 0 0 0 (wO h0 ci tt) [(0, .ref h0), (1, .int a1), (2, .int a2), (3, .int a3)] []
  refine j_aload_n C 0 dX1_goesOn_0 rfl ?_
  refine j_iload_n C 1 dX1_goesOn_1 rfl ?_
  refine j_iload_n C 2 dX1_goesOn_2 rfl ?_
  refine j_iload_n C 3 dX1_goesOn_3 rfl ?_
  refine j_ciZ C (jr_U C lkU_X1_7 (c_X0_goesOn h0 ci tt hci a1 a2 a3 hw) ⟨rfl, rfl, by decide, by decide, by decide, by decide⟩ [0] (by decide) rfl (fx_ro C) 0 ci rfl hci rfl rfl (Nat.le_of_ble_eq_true rfl) dX1_goesOn_4) (fun r1 u1 hw => ?_)
  refine j_iconst C 2 dX1_goesOn_7 (by decide) ?_
  refine j_iadd C dX1_goesOn_8 ?_
  exact j_iretR C hR () rfl dX1_goesOn_9 hw
def wp_X1_bid   (a1 : Int32) (a2 : Int32) (a3 : Int32) (Q : (Int32) → Prop) : Prop := wp_X0_bid a1 a2 a3 (fun r1 => Q (r1 + (a3 / 10)))
set_option maxRecDepth 100000 in
set_option maxHeartbeats 8000000 in
theorem c_X1_bid {l : Launch} {D : va_G} {ca : Nat → ClassId} {sd : Nat → Nat} {Cn1 : String} {T1 : u_T} {N1 : Nat} (h0 : Nat) (ci : Nat) (tt : Nat)  (hci : vwCl[ci]? = some (Cn1, T1, N1)) (a1 : Int32) (a2 : Int32) (a3 : Int32) {Q : (Int32) → Prop} (hw : wp_X1_bid   a1 a2 a3 Q) : Cn l D ca sd yX1_bid cX1_bid 4 (some .int) { frames := 1, cells := 0, slots := 0, locals := 23 } [.ref h0, .int a1, .int a2, .int a3] (wO h0 ci tt) [] 0 0 (Ri D (fun (r : Int32) (u : Unit) => Q r ) (fun _ => [])) := by
  refine cn_ofR (by decide) (Nat.le_of_ble_eq_true rfl) (fun k C hR => ?_)
  have C : Cx D ca sd cX1_bid RX1 (some .int) { frames := 1, cells := 0, slots := 0, locals := 23 } k 4 := C
  unfold wp_X1_bid at hw
  show J l D k 4 0 0 0 (wO h0 ci tt) [(0, .ref h0), (1, .int a1), (2, .int a2), (3, .int a3)] []
  refine j_aload_n C 0 dX1_bid_0 rfl ?_
  refine j_iload_n C 1 dX1_bid_1 rfl ?_
  refine j_iload_n C 2 dX1_bid_2 rfl ?_
  refine j_iload_n C 3 dX1_bid_3 rfl ?_
  refine j_ciZ C (jr_U C lkU_X1_11 (c_X0_bid h0 ci tt hci a1 a2 a3 hw) ⟨rfl, rfl, by decide, by decide, by decide, by decide⟩ [0] (by decide) rfl (fx_ro C) 0 ci rfl hci rfl rfl (Nat.le_of_ble_eq_true rfl) dX1_bid_4) (fun r1 u1 hw => ?_)
  refine j_iload_n C 3 dX1_bid_7 rfl ?_
  refine j_bipush C 10 dX1_bid_8 (by decide) ?_
  refine j_idiv C dX1_bid_10 (by decide) ?_
  refine j_iadd C dX1_bid_11 ?_
  exact j_iretR C hR () rfl dX1_bid_12 hw
def wp_X5_goesOn   (a1 : Int32) (a2 : Int32) (a3 : Int32) (Q : (Int32) → Prop) : Prop := wp_X3_goesOn a1 a2 a3 (fun r1 => (a3 ≤ 10 → Q r1) ∧ (¬ (a3 ≤ 10) → Q (2 * r1)))
set_option maxRecDepth 100000 in
set_option maxHeartbeats 8000000 in
theorem c_X5_goesOn {l : Launch} {D : va_G} {ca : Nat → ClassId} {sd : Nat → Nat} {Cn1 : String} {T1 : u_T} {N1 : Nat} (h0 : Nat) (ci : Nat) (tt : Nat)  (hci : vwCl[ci]? = some (Cn1, T1, N1)) (a1 : Int32) (a2 : Int32) (a3 : Int32) {Q : (Int32) → Prop} (hw : wp_X5_goesOn   a1 a2 a3 Q) : Cn l D ca sd yX5_goesOn cX5_goesOn 5 (some .int) { frames := 2, cells := 0, slots := 0, locals := 46 } [.ref h0, .int a1, .int a2, .int a3] (wO h0 ci tt) [] 0 0 (Ri D (fun (r : Int32) (u : Unit) => Q r ) (fun _ => [])) := by
  refine cn_ofR (by decide) (Nat.le_of_ble_eq_true rfl) (fun k C hR => ?_)
  have C : Cx D ca sd cX5_goesOn RX5 (some .int) { frames := 2, cells := 0, slots := 0, locals := 46 } k 5 := C
  unfold wp_X5_goesOn at hw
  show J l D k 5 0 0 0 (wO h0 ci tt) [(0, .ref h0), (1, .int a1), (2, .int a2), (3, .int a3)] []
  refine j_aload_n C 0 dX5_goesOn_0 rfl ?_
  refine j_iload_n C 1 dX5_goesOn_1 rfl ?_
  refine j_iload_n C 2 dX5_goesOn_2 rfl ?_
  refine j_iload_n C 3 dX5_goesOn_3 rfl ?_
  refine j_ciZ C (jr_U C lkU_X5_7 (c_X3_goesOn h0 ci tt hci a1 a2 a3 hw) ⟨rfl, rfl, by decide, by decide, by decide, by decide⟩ [0] (by decide) rfl (fx_ro C) 0 ci rfl hci rfl rfl (Nat.le_of_ble_eq_true rfl) dX5_goesOn_4) (fun r1 u1 hw => ?_)
  refine j_istore C [(4, .int r1), (0, .ref h0), (1, .int a1), (2, .int a2), (3, .int a3)] dX5_goesOn_7 (by decide) rfl ?_
  refine j_iload_n C 4 dX5_goesOn_9 rfl ?_
  refine j_bipush C 10 dX5_goesOn_10 (by decide) ?_
  refine j_icmp_le C 22 dX5_goesOn_12 (by decide) (fun z => ?_) (fun z => ?_)
  · replace hw := hw.1 z
    refine j_iload C 0 dX5_goesOn_22 rfl ?_
    exact j_iretR C hR () rfl dX5_goesOn_24 hw
  · replace hw := hw.2 z
    refine j_iconst C 2 dX5_goesOn_15 (by decide) ?_
    refine j_iload C 0 dX5_goesOn_16 rfl ?_
    refine j_imul C dX5_goesOn_18 ?_
    refine j_goto C 24 dX5_goesOn_19 (by decide) ?_
    exact j_iretR C hR () rfl dX5_goesOn_24 hw
def wp_X5_tires    (Q : (Int32) → Prop) : Prop := wp_X4_tires  (fun r1 => Q (r1 - 1))
set_option maxRecDepth 100000 in
set_option maxHeartbeats 8000000 in
theorem c_X5_tires {l : Launch} {D : va_G} {ca : Nat → ClassId} {sd : Nat → Nat} {Cn1 : String} {T1 : u_T} {N1 : Nat} (h0 : Nat) (ci : Nat) (tt : Nat)  (hci : vwCl[ci]? = some (Cn1, T1, N1))  {Q : (Int32) → Prop} (hw : wp_X5_tires    Q) : Cn l D ca sd yX5_tires cX5_tires 1 (some .int) { frames := 1, cells := 0, slots := 0, locals := 20 } [.ref h0] (wO h0 ci tt) [] 0 0 (Ri D (fun (r : Int32) (u : Unit) => Q r ) (fun _ => [])) := by
  refine cn_ofR (by decide) (Nat.le_of_ble_eq_true rfl) (fun k C hR => ?_)
  have C : Cx D ca sd cX5_tires RX5 (some .int) { frames := 1, cells := 0, slots := 0, locals := 20 } k 1 := C
  unfold wp_X5_tires at hw
  show J l D k 1 0 0 0 (wO h0 ci tt) [(0, .ref h0)] []
  refine j_aload_n C 0 dX5_tires_0 rfl ?_
  refine j_ciZ C (jr_U2 C lkU_X5_11 (c_X4_tires h0 ci tt hci hw) ⟨rfl, rfl, by decide, by decide, by decide, by decide⟩ [0] (by decide) rfl (fx_ro C) 0 ci rfl hci rfl rfl (Nat.le_of_ble_eq_true rfl) dX5_tires_1) (fun r1 u1 hw => ?_)
  refine j_iconst C 1 dX5_tires_4 (by decide) ?_
  refine j_isub C dX5_tires_5 ?_
  exact j_iretR C hR () rfl dX5_tires_6 hw
def wp_X5_asked   (a1 : Int32) (a2 : Int32) (Q : (Int32) → Prop) : Prop := wp_X4_asked a1 a2 (fun r1 => Q (r1 + (a1 / 10)))
set_option maxRecDepth 100000 in
set_option maxHeartbeats 8000000 in
theorem c_X5_asked {l : Launch} {D : va_G} {ca : Nat → ClassId} {sd : Nat → Nat} {Cn1 : String} {T1 : u_T} {N1 : Nat} (h0 : Nat) (ci : Nat) (tt : Nat)  (hci : vwCl[ci]? = some (Cn1, T1, N1)) (a1 : Int32) (a2 : Int32) {Q : (Int32) → Prop} (hw : wp_X5_asked   a1 a2 Q) : Cn l D ca sd yX5_asked cX5_asked 3 (some .int) { frames := 1, cells := 0, slots := 0, locals := 22 } [.ref h0, .int a1, .int a2] (wO h0 ci tt) [] 0 0 (Ri D (fun (r : Int32) (u : Unit) => Q r ) (fun _ => [])) := by
  refine cn_ofR (by decide) (Nat.le_of_ble_eq_true rfl) (fun k C hR => ?_)
  have C : Cx D ca sd cX5_asked RX5 (some .int) { frames := 1, cells := 0, slots := 0, locals := 22 } k 3 := C
  unfold wp_X5_asked at hw
  show J l D k 3 0 0 0 (wO h0 ci tt) [(0, .ref h0), (1, .int a1), (2, .int a2)] []
  refine j_aload_n C 0 dX5_asked_0 rfl ?_
  refine j_iload_n C 1 dX5_asked_1 rfl ?_
  refine j_iload_n C 2 dX5_asked_2 rfl ?_
  refine j_ciZ C (jr_U2 C lkU_X5_15 (c_X4_asked h0 ci tt hci a1 a2 hw) ⟨rfl, rfl, by decide, by decide, by decide, by decide⟩ [0] (by decide) rfl (fx_ro C) 0 ci rfl hci rfl rfl (Nat.le_of_ble_eq_true rfl) dX5_asked_3) (fun r1 u1 hw => ?_)
  refine j_iload_n C 1 dX5_asked_6 rfl ?_
  refine j_bipush C 10 dX5_asked_7 (by decide) ?_
  refine j_idiv C dX5_asked_9 (by decide) ?_
  refine j_iadd C dX5_asked_10 ?_
  exact j_iretR C hR () rfl dX5_asked_11 hw
def wpv_goesOn (kk : Nat) (a1 a2 a3 : Int32) (Q : Int32 → Prop) : Prop := match kk with
  | 0 => wp_X4_goesOn a1 a2 a3 Q
  | 1 => wp_X0_goesOn a1 a2 a3 Q
  | 2 => wp_X3_goesOn a1 a2 a3 Q
  | 3 => wp_X6_goesOn a1 a2 a3 Q
  | 4 => wp_X1_goesOn a1 a2 a3 Q
  | 5 => wp_X5_goesOn a1 a2 a3 Q
  | _ => False
def wpv_tires (kk : Nat) (Q : Int32 → Prop) : Prop := match kk with
  | 0 => wp_X4_tires  Q
  | 1 => wp_X0_tires  Q
  | 2 => wp_X4_tires  Q
  | 3 => wp_X6_tires  Q
  | 4 => wp_X0_tires  Q
  | 5 => wp_X5_tires  Q
  | _ => False
def wpv_bid (kk : Nat) (a1 a2 a3 : Int32) (Q : Int32 → Prop) : Prop := match kk with
  | 0 => wp_X4_bid a1 a2 a3 Q
  | 1 => wp_X0_bid a1 a2 a3 Q
  | 2 => wp_X3_bid a1 a2 a3 Q
  | 3 => wp_X6_bid a1 a2 a3 Q
  | 4 => wp_X1_bid a1 a2 a3 Q
  | 5 => wp_X3_bid a1 a2 a3 Q
  | _ => False
def wpv_asked (kk : Nat) (a1 a2 : Int32) (Q : Int32 → Prop) : Prop := match kk with
  | 0 => wp_X4_asked a1 a2 Q
  | 1 => wp_X0_asked a1 a2 Q
  | 2 => wp_X4_asked a1 a2 Q
  | 3 => wp_X6_asked a1 a2 Q
  | 4 => wp_X0_asked a1 a2 Q
  | 5 => wp_X5_asked a1 a2 Q
  | _ => False
end
section
theorem ct_J6_265 : Cond.constant RJ6 265 1431655765 ∈ TB := (tb_t 248 (by decide +kernel) rfl)
theorem ct_J6_266 : Cond.constant RJ6 266 858993459 ∈ TB := (tb_t 249 (by decide +kernel) rfl)
theorem ct_J6_267 : Cond.constant RJ6 267 252645135 ∈ TB := (tb_t 250 (by decide +kernel) rfl)
theorem lkS_X9_116 : LkS RX9 116 yX9_isKind cX9_isKind 1 (some .boolean) 1 := ⟨(tb_t 255 (by decide +kernel) rfl), (tb_t 256 (by decide +kernel) rfl), (tb_t 1 (by decide +kernel) rfl), (tb_t 257 (by decide +kernel) rfl), by decide, by decide, by decide +kernel⟩
theorem lkS_X9_87 : LkS RX9 87 yX9_isWithin cX9_isWithin 3 (some .boolean) 3 := ⟨(tb_t 218 (by decide +kernel) rfl), (tb_t 219 (by decide +kernel) rfl), (tb_t 1 (by decide +kernel) rfl), (tb_t 220 (by decide +kernel) rfl), by decide, by decide, by decide +kernel⟩
theorem sl_X9_278 : Cond.fieldLink RX9 278 "UnfinishedFair" "ABOVE" "[I" ∈ TB := (tb_t 386 (by decide +kernel) rfl)
def wpl_J7_fill_53178_5 (x1 : Int32) (x3 : Int32) (rn : Nat) (K : (Int32) → (Nat → Int32) → Prop) : Nat → (Int32) → (Nat → Int32) → Prop
  | 0, _, _ => False
  | n + 1, x2, f => (x3 ≤ x2 → K x2 f) ∧ (¬ (x3 ≤ x2) → vp_in x2 rn ∧ (wpl_J7_fill_53178_5 x1 x3 rn  K n (x2 + 1) (upd f (x2.toNatClampNeg) x1)))
def wp_J7_fill_53178 (f : Nat → Int32) (rn : Nat) (a2 : Int32) (Q : (Nat → Int32) → Prop) : Prop := ∃ n2 : Nat, wpl_J7_fill_53178_5 a2 (Int32.ofNat rn) rn  (fun y2_2 y2_f => Q y2_f) n2 0 f
set_option maxRecDepth 100000 in
set_option maxHeartbeats 8000000 in
theorem ml_J7_fill_53178_5 {l : Launch} {D : va_G} {ca : Nat → ClassId} {sd : Nat → Nat}  {k : Kx} (ra : Nat) (rn : Nat)  (x1 : Int32) (x3 : Int32) (C : Cx D ca sd cJ7_fill_53178 RJ7 none { frames := 0, cells := 0, slots := 0, locals := 0 } k 4) {Q : (Nat → Int32) → Prop} (hR : Rx (Rv D (fun u : (Nat → Int32) => Q u) (fun u => (wR ca ra rn u))) 0 0 k) (hB : Wx k) {K : (Int32) → (Nat → Int32) → Prop} (hK : ∀ (x2' : Int32) (f' : Nat → Int32), K x2' f' → J l D k 4 0 0 20 (wR ca ra rn f') [(0, .ref ra), (1, .int x1), (2, .int x2'), (3, .int x3)] []) : ∀ (n : Nat) (x2 : Int32) (f : Nat → Int32), wpl_J7_fill_53178_5 x1 x3 rn  K n x2 f → J l D k 4 0 0 5 (wR ca ra rn f) [(0, .ref ra), (1, .int x1), (2, .int x2), (3, .int x3)] [] := by
  intro n
  induction n with
  | zero =>
    intro x2 f hw
    rw [wpl_J7_fill_53178_5] at hw
    exact hw.elim
  | succ n ih =>
    intro x2 f hw
    rw [wpl_J7_fill_53178_5] at hw
    refine j_iload_n C 2 dJ7_fill_53178_5 rfl ?_
    refine j_iload_n C 3 dJ7_fill_53178_6 rfl ?_
    refine j_icmp_ge C 20 dJ7_fill_53178_7 (by decide) (fun z => ?_) (fun z => ?_)
    · replace hw := hw.1 z
      exact hK x2 f hw
    · replace hw := hw.2 z
      refine j_aload_n C 0 dJ7_fill_53178_10 rfl ?_
      refine j_iload_n C 2 dJ7_fill_53178_11 rfl ?_
      refine j_iload_n C 1 dJ7_fill_53178_12 rfl ?_
      have hi1 := hw.1
      replace hw := hw.2
      refine j_iast C hB 0 (wR ca ra rn (upd f (x2.toNatClampNeg) x1)) dJ7_fill_53178_13 rfl hi1 rfl ?_
      refine j_iinc C 2 (x2 + 1) [(2, .int (x2 + 1)), (0, .ref ra), (1, .int x1), (3, .int x3)] dJ7_fill_53178_14 rfl rfl (by decide) rfl ?_
      refine j_goto C 5 dJ7_fill_53178_17 (by decide) ?_
      refine j_lsub [1, 2, 0, 3] [(0, .ref ra), (1, .int x1), (2, .int (x2 + 1)), (3, .int x3)] rfl ?_
      exact ih (x2 + 1) (upd f (x2.toNatClampNeg) x1) hw
set_option maxRecDepth 100000 in
set_option maxHeartbeats 8000000 in
theorem c_J7_fill_53178 {l : Launch} {D : va_G} {ca : Nat → ClassId} {sd : Nat → Nat}  (ra : Nat) (rn : Nat) (f : Nat → Int32)  (a2 : Int32) {Q : (Nat → Int32) → Prop} (hw : wp_J7_fill_53178 f rn a2 Q) : Cn l D ca sd yJ7_fill_53178 cJ7_fill_53178 4 none { frames := 0, cells := 0, slots := 0, locals := 0 } [.ref ra, .int a2] (wR ca ra rn f) (wR ca ra rn f) 0 0 (Rv D (fun u : (Nat → Int32) => Q u) (fun u => (wR ca ra rn u))) := by
  refine cn_of (by decide) (Nat.le_of_ble_eq_true rfl) (fun k C hR hB _ => ?_)
  have C : Cx D ca sd cJ7_fill_53178 RJ7 none { frames := 0, cells := 0, slots := 0, locals := 0 } k 4 := C
  unfold wp_J7_fill_53178 at hw
  show J l D k 4 0 0 0 (wR ca ra rn f) [(0, .ref ra), (1, .int a2)] []
  refine j_iconst C 0 dJ7_fill_53178_0 (by decide) ?_
  refine j_istore_n C [(2, .int 0), (0, .ref ra), (1, .int a2)] dJ7_fill_53178_1 (by decide) rfl ?_
  refine j_aload_n C 1 dJ7_fill_53178_2 rfl ?_
  refine j_alen C 0 (Int32.ofNat rn) dJ7_fill_53178_3 rfl rfl rfl ?_
  refine j_istore_n C [(3, .int (Int32.ofNat rn)), (2, .int 0), (0, .ref ra), (1, .int a2)] dJ7_fill_53178_4 (by decide) rfl ?_
  refine j_lsub [2, 3, 1, 0] [(0, .ref ra), (1, .int a2), (2, .int 0), (3, .int (Int32.ofNat rn))] rfl ?_
  obtain ⟨n2, hw⟩ := hw
  refine ml_J7_fill_53178_5 ra rn  a2 (Int32.ofNat rn) C hR hB (fun y2_2 y2_f hw => ?_) n2 0 f hw
  exact j_vret C hB hR y2_f rfl dJ7_fill_53178_20 hw rfl
def wpl_J7_fill_d0a16_6 (x1 : Int64) (x4 : Int32) (rn : Nat) (K : (Int32) → (Nat → Int64) → Prop) : Nat → (Int32) → (Nat → Int64) → Prop
  | 0, _, _ => False
  | n + 1, x3, f => (x4 ≤ x3 → K x3 f) ∧ (¬ (x4 ≤ x3) → vp_in x3 rn ∧ (wpl_J7_fill_d0a16_6 x1 x4 rn  K n (x3 + 1) (vp_updL f (x3.toNatClampNeg) x1)))
def wp_J7_fill_d0a16 (f : Nat → Int64) (rn : Nat) (a2 : Int64) (Q : (Nat → Int64) → Prop) : Prop := ∃ n2 : Nat, wpl_J7_fill_d0a16_6 a2 (Int32.ofNat rn) rn  (fun y2_3 y2_f => Q y2_f) n2 0 f
set_option maxRecDepth 100000 in
set_option maxHeartbeats 8000000 in
theorem ml_J7_fill_d0a16_6 {l : Launch} {D : va_G} {ca : Nat → ClassId} {sd : Nat → Nat}  {k : Kx} (ra : Nat) (rn : Nat)  (x1 : Int64) (x4 : Int32) (C : Cx D ca sd cJ7_fill_d0a16 RJ7 none { frames := 0, cells := 0, slots := 0, locals := 0 } k 5) {Q : (Nat → Int64) → Prop} (hR : Rx (Rv D (fun u : (Nat → Int64) => Q u) (fun u => (wRL ca ra rn u))) 0 0 k) (hB : Wx k) {K : (Int32) → (Nat → Int64) → Prop} (hK : ∀ (x3' : Int32) (f' : Nat → Int64), K x3' f' → J l D k 5 0 0 22 (wRL ca ra rn f') [(0, .ref ra), (1, .long x1), (3, .int x3'), (4, .int x4)] []) : ∀ (n : Nat) (x3 : Int32) (f : Nat → Int64), wpl_J7_fill_d0a16_6 x1 x4 rn  K n x3 f → J l D k 5 0 0 6 (wRL ca ra rn f) [(0, .ref ra), (1, .long x1), (3, .int x3), (4, .int x4)] [] := by
  intro n
  induction n with
  | zero =>
    intro x3 f hw
    rw [wpl_J7_fill_d0a16_6] at hw
    exact hw.elim
  | succ n ih =>
    intro x3 f hw
    rw [wpl_J7_fill_d0a16_6] at hw
    refine j_iload_n C 2 dJ7_fill_d0a16_6 rfl ?_
    refine j_iload C 3 dJ7_fill_d0a16_7 rfl ?_
    refine j_icmp_ge C 22 dJ7_fill_d0a16_9 (by decide) (fun z => ?_) (fun z => ?_)
    · replace hw := hw.1 z
      exact hK x3 f hw
    · replace hw := hw.2 z
      refine j_aload_n C 0 dJ7_fill_d0a16_12 rfl ?_
      refine j_iload_n C 2 dJ7_fill_d0a16_13 rfl ?_
      refine j_lload_n C 1 dJ7_fill_d0a16_14 rfl ?_
      have hi1 := hw.1
      replace hw := hw.2
      refine j_last C hB 0 (wRL ca ra rn (vp_updL f (x3.toNatClampNeg) x1)) dJ7_fill_d0a16_15 rfl hi1 rfl ?_
      refine j_iinc C 2 (x3 + 1) [(3, .int (x3 + 1)), (0, .ref ra), (1, .long x1), (4, .int x4)] dJ7_fill_d0a16_16 rfl rfl (by decide) rfl ?_
      refine j_goto C 6 dJ7_fill_d0a16_19 (by decide) ?_
      refine j_lsub [1, 2, 0, 3] [(0, .ref ra), (1, .long x1), (3, .int (x3 + 1)), (4, .int x4)] rfl ?_
      exact ih (x3 + 1) (vp_updL f (x3.toNatClampNeg) x1) hw
set_option maxRecDepth 100000 in
set_option maxHeartbeats 8000000 in
theorem c_J7_fill_d0a16 {l : Launch} {D : va_G} {ca : Nat → ClassId} {sd : Nat → Nat}  (ra : Nat) (rn : Nat) (f : Nat → Int64)  (a2 : Int64) {Q : (Nat → Int64) → Prop} (hw : wp_J7_fill_d0a16 f rn a2 Q) : Cn l D ca sd yJ7_fill_d0a16 cJ7_fill_d0a16 5 none { frames := 0, cells := 0, slots := 0, locals := 0 } [.ref ra, .long a2] (wRL ca ra rn f) (wRL ca ra rn f) 0 0 (Rv D (fun u : (Nat → Int64) => Q u) (fun u => (wRL ca ra rn u))) := by
  refine cn_of (by decide) (Nat.le_of_ble_eq_true rfl) (fun k C hR hB _ => ?_)
  have C : Cx D ca sd cJ7_fill_d0a16 RJ7 none { frames := 0, cells := 0, slots := 0, locals := 0 } k 5 := C
  unfold wp_J7_fill_d0a16 at hw
  show J l D k 5 0 0 0 (wRL ca ra rn f) [(0, .ref ra), (1, .long a2)] []
  refine j_iconst C 0 dJ7_fill_d0a16_0 (by decide) ?_
  refine j_istore_n C [(3, .int 0), (0, .ref ra), (1, .long a2)] dJ7_fill_d0a16_1 (by decide) rfl ?_
  refine j_aload_n C 1 dJ7_fill_d0a16_2 rfl ?_
  refine j_alen C 0 (Int32.ofNat rn) dJ7_fill_d0a16_3 rfl rfl rfl ?_
  refine j_istore C [(4, .int (Int32.ofNat rn)), (3, .int 0), (0, .ref ra), (1, .long a2)] dJ7_fill_d0a16_4 (by decide) rfl ?_
  refine j_lsub [2, 3, 1, 0] [(0, .ref ra), (1, .long a2), (3, .int 0), (4, .int (Int32.ofNat rn))] rfl ?_
  obtain ⟨n2, hw⟩ := hw
  refine ml_J7_fill_d0a16_6 ra rn  a2 (Int32.ofNat rn) C hR hB (fun y2_3 y2_f hw => ?_) n2 0 f hw
  exact j_vret C hB hR y2_f rfl dJ7_fill_d0a16_22 hw rfl
def wp_J6_bitCount_0f7a4   (a1 : Int32) (Q : (Int32) → Prop) : Prop := Q ((((((((a1 - ((((a1).toUInt32 >>> ((1 : Int32).toUInt32 &&& Int32.toUInt32 31)).toInt32) &&& 1431655765)) &&& 858993459) + ((((a1 - ((((a1).toUInt32 >>> ((1 : Int32).toUInt32 &&& Int32.toUInt32 31)).toInt32) &&& 1431655765)).toUInt32 >>> ((2 : Int32).toUInt32 &&& Int32.toUInt32 31)).toInt32) &&& 858993459)) + (((((a1 - ((((a1).toUInt32 >>> ((1 : Int32).toUInt32 &&& Int32.toUInt32 31)).toInt32) &&& 1431655765)) &&& 858993459) + ((((a1 - ((((a1).toUInt32 >>> ((1 : Int32).toUInt32 &&& Int32.toUInt32 31)).toInt32) &&& 1431655765)).toUInt32 >>> ((2 : Int32).toUInt32 &&& Int32.toUInt32 31)).toInt32) &&& 858993459)).toUInt32 >>> ((4 : Int32).toUInt32 &&& Int32.toUInt32 31)).toInt32)) &&& 252645135) + (((((((a1 - ((((a1).toUInt32 >>> ((1 : Int32).toUInt32 &&& Int32.toUInt32 31)).toInt32) &&& 1431655765)) &&& 858993459) + ((((a1 - ((((a1).toUInt32 >>> ((1 : Int32).toUInt32 &&& Int32.toUInt32 31)).toInt32) &&& 1431655765)).toUInt32 >>> ((2 : Int32).toUInt32 &&& Int32.toUInt32 31)).toInt32) &&& 858993459)) + (((((a1 - ((((a1).toUInt32 >>> ((1 : Int32).toUInt32 &&& Int32.toUInt32 31)).toInt32) &&& 1431655765)) &&& 858993459) + ((((a1 - ((((a1).toUInt32 >>> ((1 : Int32).toUInt32 &&& Int32.toUInt32 31)).toInt32) &&& 1431655765)).toUInt32 >>> ((2 : Int32).toUInt32 &&& Int32.toUInt32 31)).toInt32) &&& 858993459)).toUInt32 >>> ((4 : Int32).toUInt32 &&& Int32.toUInt32 31)).toInt32)) &&& 252645135).toUInt32 >>> ((8 : Int32).toUInt32 &&& Int32.toUInt32 31)).toInt32)) + ((((((((a1 - ((((a1).toUInt32 >>> ((1 : Int32).toUInt32 &&& Int32.toUInt32 31)).toInt32) &&& 1431655765)) &&& 858993459) + ((((a1 - ((((a1).toUInt32 >>> ((1 : Int32).toUInt32 &&& Int32.toUInt32 31)).toInt32) &&& 1431655765)).toUInt32 >>> ((2 : Int32).toUInt32 &&& Int32.toUInt32 31)).toInt32) &&& 858993459)) + (((((a1 - ((((a1).toUInt32 >>> ((1 : Int32).toUInt32 &&& Int32.toUInt32 31)).toInt32) &&& 1431655765)) &&& 858993459) + ((((a1 - ((((a1).toUInt32 >>> ((1 : Int32).toUInt32 &&& Int32.toUInt32 31)).toInt32) &&& 1431655765)).toUInt32 >>> ((2 : Int32).toUInt32 &&& Int32.toUInt32 31)).toInt32) &&& 858993459)).toUInt32 >>> ((4 : Int32).toUInt32 &&& Int32.toUInt32 31)).toInt32)) &&& 252645135) + (((((((a1 - ((((a1).toUInt32 >>> ((1 : Int32).toUInt32 &&& Int32.toUInt32 31)).toInt32) &&& 1431655765)) &&& 858993459) + ((((a1 - ((((a1).toUInt32 >>> ((1 : Int32).toUInt32 &&& Int32.toUInt32 31)).toInt32) &&& 1431655765)).toUInt32 >>> ((2 : Int32).toUInt32 &&& Int32.toUInt32 31)).toInt32) &&& 858993459)) + (((((a1 - ((((a1).toUInt32 >>> ((1 : Int32).toUInt32 &&& Int32.toUInt32 31)).toInt32) &&& 1431655765)) &&& 858993459) + ((((a1 - ((((a1).toUInt32 >>> ((1 : Int32).toUInt32 &&& Int32.toUInt32 31)).toInt32) &&& 1431655765)).toUInt32 >>> ((2 : Int32).toUInt32 &&& Int32.toUInt32 31)).toInt32) &&& 858993459)).toUInt32 >>> ((4 : Int32).toUInt32 &&& Int32.toUInt32 31)).toInt32)) &&& 252645135).toUInt32 >>> ((8 : Int32).toUInt32 &&& Int32.toUInt32 31)).toInt32)).toUInt32 >>> ((16 : Int32).toUInt32 &&& Int32.toUInt32 31)).toInt32)) &&& 63)
set_option maxRecDepth 100000 in
set_option maxHeartbeats 8000000 in
theorem c_J6_bitCount_0f7a4 {l : Launch} {D : va_G} {ca : Nat → ClassId} {sd : Nat → Nat}     (a1 : Int32) {Q : (Int32) → Prop} (hw : wp_J6_bitCount_0f7a4   a1 Q) : Cn l D ca sd yJ6_bitCount_0f7a4 cJ6_bitCount_0f7a4 1 (some .int) { frames := 0, cells := 0, slots := 0, locals := 0 } [.int a1] ([] : va_W) [] 0 0 (Ri D (fun (r : Int32) (u : Unit) => Q r ) (fun _ => [])) := by
  refine cn_ofR (by decide) (Nat.le_of_ble_eq_true rfl) (fun k C hR => ?_)
  have C : Cx D ca sd cJ6_bitCount_0f7a4 RJ6 (some .int) { frames := 0, cells := 0, slots := 0, locals := 0 } k 1 := C
  unfold wp_J6_bitCount_0f7a4 at hw
  show J l D k 1 0 0 0 ([] : va_W) [(0, .int a1)] []
  refine j_iload_n C 0 dJ6_bitCount_0f7a4_0 rfl ?_
  refine j_iload_n C 0 dJ6_bitCount_0f7a4_1 rfl ?_
  refine j_iconst C 1 dJ6_bitCount_0f7a4_2 (by decide) ?_
  refine j_iushr C dJ6_bitCount_0f7a4_3 ?_
  refine j_ldc_w C dJ6_bitCount_0f7a4_4 ct_J6_265 ?_
  refine j_iand C dJ6_bitCount_0f7a4_7 ?_
  refine j_isub C dJ6_bitCount_0f7a4_8 ?_
  refine j_istore_n C [(0, .int (a1 - ((((a1).toUInt32 >>> ((1 : Int32).toUInt32 &&& Int32.toUInt32 31)).toInt32) &&& 1431655765)))] dJ6_bitCount_0f7a4_9 (by decide) rfl ?_
  refine j_iload_n C 0 dJ6_bitCount_0f7a4_10 rfl ?_
  refine j_ldc_w C dJ6_bitCount_0f7a4_11 ct_J6_266 ?_
  refine j_iand C dJ6_bitCount_0f7a4_14 ?_
  refine j_iload_n C 0 dJ6_bitCount_0f7a4_15 rfl ?_
  refine j_iconst C 2 dJ6_bitCount_0f7a4_16 (by decide) ?_
  refine j_iushr C dJ6_bitCount_0f7a4_17 ?_
  refine j_ldc_w C dJ6_bitCount_0f7a4_18 ct_J6_266 ?_
  refine j_iand C dJ6_bitCount_0f7a4_21 ?_
  refine j_iadd C dJ6_bitCount_0f7a4_22 ?_
  refine j_istore_n C [(0, .int (((a1 - ((((a1).toUInt32 >>> ((1 : Int32).toUInt32 &&& Int32.toUInt32 31)).toInt32) &&& 1431655765)) &&& 858993459) + ((((a1 - ((((a1).toUInt32 >>> ((1 : Int32).toUInt32 &&& Int32.toUInt32 31)).toInt32) &&& 1431655765)).toUInt32 >>> ((2 : Int32).toUInt32 &&& Int32.toUInt32 31)).toInt32) &&& 858993459)))] dJ6_bitCount_0f7a4_23 (by decide) rfl ?_
  refine j_iload_n C 0 dJ6_bitCount_0f7a4_24 rfl ?_
  refine j_iload_n C 0 dJ6_bitCount_0f7a4_25 rfl ?_
  refine j_iconst C 4 dJ6_bitCount_0f7a4_26 (by decide) ?_
  refine j_iushr C dJ6_bitCount_0f7a4_27 ?_
  refine j_iadd C dJ6_bitCount_0f7a4_28 ?_
  refine j_ldc_w C dJ6_bitCount_0f7a4_29 ct_J6_267 ?_
  refine j_iand C dJ6_bitCount_0f7a4_32 ?_
  refine j_istore_n C [(0, .int (((((a1 - ((((a1).toUInt32 >>> ((1 : Int32).toUInt32 &&& Int32.toUInt32 31)).toInt32) &&& 1431655765)) &&& 858993459) + ((((a1 - ((((a1).toUInt32 >>> ((1 : Int32).toUInt32 &&& Int32.toUInt32 31)).toInt32) &&& 1431655765)).toUInt32 >>> ((2 : Int32).toUInt32 &&& Int32.toUInt32 31)).toInt32) &&& 858993459)) + (((((a1 - ((((a1).toUInt32 >>> ((1 : Int32).toUInt32 &&& Int32.toUInt32 31)).toInt32) &&& 1431655765)) &&& 858993459) + ((((a1 - ((((a1).toUInt32 >>> ((1 : Int32).toUInt32 &&& Int32.toUInt32 31)).toInt32) &&& 1431655765)).toUInt32 >>> ((2 : Int32).toUInt32 &&& Int32.toUInt32 31)).toInt32) &&& 858993459)).toUInt32 >>> ((4 : Int32).toUInt32 &&& Int32.toUInt32 31)).toInt32)) &&& 252645135))] dJ6_bitCount_0f7a4_33 (by decide) rfl ?_
  refine j_iload_n C 0 dJ6_bitCount_0f7a4_34 rfl ?_
  refine j_iload_n C 0 dJ6_bitCount_0f7a4_35 rfl ?_
  refine j_bipush C 8 dJ6_bitCount_0f7a4_36 (by decide) ?_
  refine j_iushr C dJ6_bitCount_0f7a4_38 ?_
  refine j_iadd C dJ6_bitCount_0f7a4_39 ?_
  refine j_istore_n C [(0, .int ((((((a1 - ((((a1).toUInt32 >>> ((1 : Int32).toUInt32 &&& Int32.toUInt32 31)).toInt32) &&& 1431655765)) &&& 858993459) + ((((a1 - ((((a1).toUInt32 >>> ((1 : Int32).toUInt32 &&& Int32.toUInt32 31)).toInt32) &&& 1431655765)).toUInt32 >>> ((2 : Int32).toUInt32 &&& Int32.toUInt32 31)).toInt32) &&& 858993459)) + (((((a1 - ((((a1).toUInt32 >>> ((1 : Int32).toUInt32 &&& Int32.toUInt32 31)).toInt32) &&& 1431655765)) &&& 858993459) + ((((a1 - ((((a1).toUInt32 >>> ((1 : Int32).toUInt32 &&& Int32.toUInt32 31)).toInt32) &&& 1431655765)).toUInt32 >>> ((2 : Int32).toUInt32 &&& Int32.toUInt32 31)).toInt32) &&& 858993459)).toUInt32 >>> ((4 : Int32).toUInt32 &&& Int32.toUInt32 31)).toInt32)) &&& 252645135) + (((((((a1 - ((((a1).toUInt32 >>> ((1 : Int32).toUInt32 &&& Int32.toUInt32 31)).toInt32) &&& 1431655765)) &&& 858993459) + ((((a1 - ((((a1).toUInt32 >>> ((1 : Int32).toUInt32 &&& Int32.toUInt32 31)).toInt32) &&& 1431655765)).toUInt32 >>> ((2 : Int32).toUInt32 &&& Int32.toUInt32 31)).toInt32) &&& 858993459)) + (((((a1 - ((((a1).toUInt32 >>> ((1 : Int32).toUInt32 &&& Int32.toUInt32 31)).toInt32) &&& 1431655765)) &&& 858993459) + ((((a1 - ((((a1).toUInt32 >>> ((1 : Int32).toUInt32 &&& Int32.toUInt32 31)).toInt32) &&& 1431655765)).toUInt32 >>> ((2 : Int32).toUInt32 &&& Int32.toUInt32 31)).toInt32) &&& 858993459)).toUInt32 >>> ((4 : Int32).toUInt32 &&& Int32.toUInt32 31)).toInt32)) &&& 252645135).toUInt32 >>> ((8 : Int32).toUInt32 &&& Int32.toUInt32 31)).toInt32)))] dJ6_bitCount_0f7a4_40 (by decide) rfl ?_
  refine j_iload_n C 0 dJ6_bitCount_0f7a4_41 rfl ?_
  refine j_iload_n C 0 dJ6_bitCount_0f7a4_42 rfl ?_
  refine j_bipush C 16 dJ6_bitCount_0f7a4_43 (by decide) ?_
  refine j_iushr C dJ6_bitCount_0f7a4_45 ?_
  refine j_iadd C dJ6_bitCount_0f7a4_46 ?_
  refine j_istore_n C [(0, .int (((((((a1 - ((((a1).toUInt32 >>> ((1 : Int32).toUInt32 &&& Int32.toUInt32 31)).toInt32) &&& 1431655765)) &&& 858993459) + ((((a1 - ((((a1).toUInt32 >>> ((1 : Int32).toUInt32 &&& Int32.toUInt32 31)).toInt32) &&& 1431655765)).toUInt32 >>> ((2 : Int32).toUInt32 &&& Int32.toUInt32 31)).toInt32) &&& 858993459)) + (((((a1 - ((((a1).toUInt32 >>> ((1 : Int32).toUInt32 &&& Int32.toUInt32 31)).toInt32) &&& 1431655765)) &&& 858993459) + ((((a1 - ((((a1).toUInt32 >>> ((1 : Int32).toUInt32 &&& Int32.toUInt32 31)).toInt32) &&& 1431655765)).toUInt32 >>> ((2 : Int32).toUInt32 &&& Int32.toUInt32 31)).toInt32) &&& 858993459)).toUInt32 >>> ((4 : Int32).toUInt32 &&& Int32.toUInt32 31)).toInt32)) &&& 252645135) + (((((((a1 - ((((a1).toUInt32 >>> ((1 : Int32).toUInt32 &&& Int32.toUInt32 31)).toInt32) &&& 1431655765)) &&& 858993459) + ((((a1 - ((((a1).toUInt32 >>> ((1 : Int32).toUInt32 &&& Int32.toUInt32 31)).toInt32) &&& 1431655765)).toUInt32 >>> ((2 : Int32).toUInt32 &&& Int32.toUInt32 31)).toInt32) &&& 858993459)) + (((((a1 - ((((a1).toUInt32 >>> ((1 : Int32).toUInt32 &&& Int32.toUInt32 31)).toInt32) &&& 1431655765)) &&& 858993459) + ((((a1 - ((((a1).toUInt32 >>> ((1 : Int32).toUInt32 &&& Int32.toUInt32 31)).toInt32) &&& 1431655765)).toUInt32 >>> ((2 : Int32).toUInt32 &&& Int32.toUInt32 31)).toInt32) &&& 858993459)).toUInt32 >>> ((4 : Int32).toUInt32 &&& Int32.toUInt32 31)).toInt32)) &&& 252645135).toUInt32 >>> ((8 : Int32).toUInt32 &&& Int32.toUInt32 31)).toInt32)) + ((((((((a1 - ((((a1).toUInt32 >>> ((1 : Int32).toUInt32 &&& Int32.toUInt32 31)).toInt32) &&& 1431655765)) &&& 858993459) + ((((a1 - ((((a1).toUInt32 >>> ((1 : Int32).toUInt32 &&& Int32.toUInt32 31)).toInt32) &&& 1431655765)).toUInt32 >>> ((2 : Int32).toUInt32 &&& Int32.toUInt32 31)).toInt32) &&& 858993459)) + (((((a1 - ((((a1).toUInt32 >>> ((1 : Int32).toUInt32 &&& Int32.toUInt32 31)).toInt32) &&& 1431655765)) &&& 858993459) + ((((a1 - ((((a1).toUInt32 >>> ((1 : Int32).toUInt32 &&& Int32.toUInt32 31)).toInt32) &&& 1431655765)).toUInt32 >>> ((2 : Int32).toUInt32 &&& Int32.toUInt32 31)).toInt32) &&& 858993459)).toUInt32 >>> ((4 : Int32).toUInt32 &&& Int32.toUInt32 31)).toInt32)) &&& 252645135) + (((((((a1 - ((((a1).toUInt32 >>> ((1 : Int32).toUInt32 &&& Int32.toUInt32 31)).toInt32) &&& 1431655765)) &&& 858993459) + ((((a1 - ((((a1).toUInt32 >>> ((1 : Int32).toUInt32 &&& Int32.toUInt32 31)).toInt32) &&& 1431655765)).toUInt32 >>> ((2 : Int32).toUInt32 &&& Int32.toUInt32 31)).toInt32) &&& 858993459)) + (((((a1 - ((((a1).toUInt32 >>> ((1 : Int32).toUInt32 &&& Int32.toUInt32 31)).toInt32) &&& 1431655765)) &&& 858993459) + ((((a1 - ((((a1).toUInt32 >>> ((1 : Int32).toUInt32 &&& Int32.toUInt32 31)).toInt32) &&& 1431655765)).toUInt32 >>> ((2 : Int32).toUInt32 &&& Int32.toUInt32 31)).toInt32) &&& 858993459)).toUInt32 >>> ((4 : Int32).toUInt32 &&& Int32.toUInt32 31)).toInt32)) &&& 252645135).toUInt32 >>> ((8 : Int32).toUInt32 &&& Int32.toUInt32 31)).toInt32)).toUInt32 >>> ((16 : Int32).toUInt32 &&& Int32.toUInt32 31)).toInt32)))] dJ6_bitCount_0f7a4_47 (by decide) rfl ?_
  refine j_iload_n C 0 dJ6_bitCount_0f7a4_48 rfl ?_
  refine j_bipush C 63 dJ6_bitCount_0f7a4_49 (by decide) ?_
  refine j_iand C dJ6_bitCount_0f7a4_51 ?_
  exact j_iretR C hR () rfl dJ6_bitCount_0f7a4_52 hw
def wp_X9_isWithin   (a1 : Int32) (a2 : Int32) (a3 : Int32) (Q : (Int32) → Prop) : Prop := (a1 < a2 → Q 0) ∧ (¬ (a1 < a2) → (a3 < a1 → Q 0) ∧ (¬ (a3 < a1) → Q 1))
set_option maxRecDepth 100000 in
set_option maxHeartbeats 8000000 in
theorem c_X9_isWithin {l : Launch} {D : va_G} {ca : Nat → ClassId} {sd : Nat → Nat}     (a1 : Int32) (a2 : Int32) (a3 : Int32) {Q : (Int32) → Prop} (hw : wp_X9_isWithin   a1 a2 a3 Q) : Cn l D ca sd yX9_isWithin cX9_isWithin 3 (some .boolean) { frames := 0, cells := 0, slots := 0, locals := 0 } [.int a1, .int a2, .int a3] ([] : va_W) [] 0 0 (Ri D (fun (r : Int32) (u : Unit) => Q r ) (fun _ => [])) := by
  refine cn_ofR (by decide) (Nat.le_of_ble_eq_true rfl) (fun k C hR => ?_)
  have C : Cx D ca sd cX9_isWithin RX9 (some .boolean) { frames := 0, cells := 0, slots := 0, locals := 0 } k 3 := C
  unfold wp_X9_isWithin at hw
  show J l D k 3 0 0 0 ([] : va_W) [(0, .int a1), (1, .int a2), (2, .int a3)] []
  refine j_iload_n C 0 dX9_isWithin_0 rfl ?_
  refine j_iload_n C 1 dX9_isWithin_1 rfl ?_
  refine j_icmp_lt C 14 dX9_isWithin_2 (by decide) (fun z => ?_) (fun z => ?_)
  · replace hw := hw.1 z
    refine j_iconst C 0 dX9_isWithin_14 (by decide) ?_
    exact j_zretR C hR (by decide) () rfl dX9_isWithin_15 hw
  · replace hw := hw.2 z
    refine j_iload_n C 0 dX9_isWithin_5 rfl ?_
    refine j_iload_n C 2 dX9_isWithin_6 rfl ?_
    refine j_icmp_gt C 14 dX9_isWithin_7 (by decide) (fun z => ?_) (fun z => ?_)
    · replace hw := hw.1 z
      refine j_iconst C 0 dX9_isWithin_14 (by decide) ?_
      exact j_zretR C hR (by decide) () rfl dX9_isWithin_15 hw
    · replace hw := hw.2 z
      refine j_iconst C 1 dX9_isWithin_10 (by decide) ?_
      refine j_goto C 15 dX9_isWithin_11 (by decide) ?_
      exact j_zretR C hR (by decide) () rfl dX9_isWithin_15 hw
def wp_X9_isPerson   (a1 : Int32) (Q : (Int32) → Prop) : Prop := wp_X9_isWithin a1 0 5 (fun r1 => (narrow .boolean (.int r1) = .int r1) ∧ Q r1)
set_option maxRecDepth 100000 in
set_option maxHeartbeats 8000000 in
theorem c_X9_isPerson {l : Launch} {D : va_G} {ca : Nat → ClassId} {sd : Nat → Nat}     (a1 : Int32) {Q : (Int32) → Prop} (hw : wp_X9_isPerson   a1 Q) : Cn l D ca sd yX9_isPerson cX9_isPerson 1 (some .boolean) { frames := 1, cells := 0, slots := 0, locals := 22 } [.int a1] ([] : va_W) [] 0 0 (Ri D (fun (r : Int32) (u : Unit) => Q r ) (fun _ => [])) := by
  refine cn_ofR (by decide) (Nat.le_of_ble_eq_true rfl) (fun k C hR => ?_)
  have C : Cx D ca sd cX9_isPerson RX9 (some .boolean) { frames := 1, cells := 0, slots := 0, locals := 22 } k 1 := C
  unfold wp_X9_isPerson at hw
  show J l D k 1 0 0 0 ([] : va_W) [(0, .int a1)] []
  refine j_iload_n C 0 dX9_isPerson_0 rfl ?_
  refine j_iconst C 0 dX9_isPerson_1 (by decide) ?_
  refine j_iconst C 5 dX9_isPerson_2 (by decide) ?_
  refine j_ciZ C (jr_S C lkS_X9_87 (c_X9_isWithin a1 0 5 hw) ⟨rfl, rfl, by decide, by decide, by decide, by decide⟩ [] (by decide) rfl (fx_ro C) rfl rfl (Nat.le_of_ble_eq_true rfl) dX9_isPerson_3) (fun r1 u1 hw => ?_)
  exact j_zretR C hR hw.1 () rfl dX9_isPerson_6 hw.2
def wp_X9_isKind   (a1 : Int32) (Q : (Int32) → Prop) : Prop := wp_X9_isWithin a1 0 5 (fun r1 => (narrow .boolean (.int r1) = .int r1) ∧ Q r1)
set_option maxRecDepth 100000 in
set_option maxHeartbeats 8000000 in
theorem c_X9_isKind {l : Launch} {D : va_G} {ca : Nat → ClassId} {sd : Nat → Nat}     (a1 : Int32) {Q : (Int32) → Prop} (hw : wp_X9_isKind   a1 Q) : Cn l D ca sd yX9_isKind cX9_isKind 1 (some .boolean) { frames := 1, cells := 0, slots := 0, locals := 22 } [.int a1] ([] : va_W) [] 0 0 (Ri D (fun (r : Int32) (u : Unit) => Q r ) (fun _ => [])) := by
  refine cn_ofR (by decide) (Nat.le_of_ble_eq_true rfl) (fun k C hR => ?_)
  have C : Cx D ca sd cX9_isKind RX9 (some .boolean) { frames := 1, cells := 0, slots := 0, locals := 22 } k 1 := C
  unfold wp_X9_isKind at hw
  show J l D k 1 0 0 0 ([] : va_W) [(0, .int a1)] []
  refine j_iload_n C 0 dX9_isKind_0 rfl ?_
  refine j_iconst C 0 dX9_isKind_1 (by decide) ?_
  refine j_iconst C 5 dX9_isKind_2 (by decide) ?_
  refine j_ciZ C (jr_S C lkS_X9_87 (c_X9_isWithin a1 0 5 hw) ⟨rfl, rfl, by decide, by decide, by decide, by decide⟩ [] (by decide) rfl (fx_ro C) rfl rfl (Nat.le_of_ble_eq_true rfl) dX9_isKind_3) (fun r1 u1 hw => ?_)
  exact j_zretR C hR hw.1 () rfl dX9_isKind_6 hw.2
def wp_X9_isSheet   (a1 : Int32) (Q : (Int32) → Prop) : Prop := wp_X9_isWithin a1 0 3 (fun r1 => (narrow .boolean (.int r1) = .int r1) ∧ Q r1)
set_option maxRecDepth 100000 in
set_option maxHeartbeats 8000000 in
theorem c_X9_isSheet {l : Launch} {D : va_G} {ca : Nat → ClassId} {sd : Nat → Nat}     (a1 : Int32) {Q : (Int32) → Prop} (hw : wp_X9_isSheet   a1 Q) : Cn l D ca sd yX9_isSheet cX9_isSheet 1 (some .boolean) { frames := 1, cells := 0, slots := 0, locals := 22 } [.int a1] ([] : va_W) [] 0 0 (Ri D (fun (r : Int32) (u : Unit) => Q r ) (fun _ => [])) := by
  refine cn_ofR (by decide) (Nat.le_of_ble_eq_true rfl) (fun k C hR => ?_)
  have C : Cx D ca sd cX9_isSheet RX9 (some .boolean) { frames := 1, cells := 0, slots := 0, locals := 22 } k 1 := C
  unfold wp_X9_isSheet at hw
  show J l D k 1 0 0 0 ([] : va_W) [(0, .int a1)] []
  refine j_iload_n C 0 dX9_isSheet_0 rfl ?_
  refine j_iconst C 0 dX9_isSheet_1 (by decide) ?_
  refine j_iconst C 3 dX9_isSheet_2 (by decide) ?_
  refine j_ciZ C (jr_S C lkS_X9_87 (c_X9_isWithin a1 0 3 hw) ⟨rfl, rfl, by decide, by decide, by decide, by decide⟩ [] (by decide) rfl (fx_ro C) rfl rfl (Nat.le_of_ble_eq_true rfl) dX9_isSheet_3) (fun r1 u1 hw => ?_)
  exact j_zretR C hR hw.1 () rfl dX9_isSheet_6 hw.2
def wp_X9_isWidth   (a1 : Int32) (Q : (Int32) → Prop) : Prop := (a1 = 0 → Q 1) ∧ (¬ (a1 = 0) → (a1 = 8 → Q 1) ∧ (¬ (a1 = 8) → (a1 = 16 → Q 1) ∧ (¬ (a1 = 16) → (a1 = 64 → Q 1) ∧ (¬ (a1 = 64) → Q 0))))
set_option maxRecDepth 100000 in
set_option maxHeartbeats 8000000 in
theorem c_X9_isWidth {l : Launch} {D : va_G} {ca : Nat → ClassId} {sd : Nat → Nat}     (a1 : Int32) {Q : (Int32) → Prop} (hw : wp_X9_isWidth   a1 Q) : Cn l D ca sd yX9_isWidth cX9_isWidth 1 (some .boolean) { frames := 0, cells := 0, slots := 0, locals := 0 } [.int a1] ([] : va_W) [] 0 0 (Ri D (fun (r : Int32) (u : Unit) => Q r ) (fun _ => [])) := by
  refine cn_ofR (by decide) (Nat.le_of_ble_eq_true rfl) (fun k C hR => ?_)
  have C : Cx D ca sd cX9_isWidth RX9 (some .boolean) { frames := 0, cells := 0, slots := 0, locals := 0 } k 1 := C
  unfold wp_X9_isWidth at hw
  show J l D k 1 0 0 0 ([] : va_W) [(0, .int a1)] []
  refine j_iload_n C 0 dX9_isWidth_0 rfl ?_
  refine j_if_eq C 22 dX9_isWidth_1 (by decide) (fun z => ?_) (fun z => ?_)
  · replace hw := hw.1 z
    refine j_iconst C 1 dX9_isWidth_22 (by decide) ?_
    refine j_goto C 27 dX9_isWidth_23 (by decide) ?_
    exact j_zretR C hR (by decide) () rfl dX9_isWidth_27 hw
  · replace hw := hw.2 z
    refine j_iload_n C 0 dX9_isWidth_4 rfl ?_
    refine j_bipush C 8 dX9_isWidth_5 (by decide) ?_
    refine j_icmp_eq C 22 dX9_isWidth_7 (by decide) (fun z => ?_) (fun z => ?_)
    · replace hw := hw.1 z
      refine j_iconst C 1 dX9_isWidth_22 (by decide) ?_
      refine j_goto C 27 dX9_isWidth_23 (by decide) ?_
      exact j_zretR C hR (by decide) () rfl dX9_isWidth_27 hw
    · replace hw := hw.2 z
      refine j_iload_n C 0 dX9_isWidth_10 rfl ?_
      refine j_bipush C 16 dX9_isWidth_11 (by decide) ?_
      refine j_icmp_eq C 22 dX9_isWidth_13 (by decide) (fun z => ?_) (fun z => ?_)
      · replace hw := hw.1 z
        refine j_iconst C 1 dX9_isWidth_22 (by decide) ?_
        refine j_goto C 27 dX9_isWidth_23 (by decide) ?_
        exact j_zretR C hR (by decide) () rfl dX9_isWidth_27 hw
      · replace hw := hw.2 z
        refine j_iload_n C 0 dX9_isWidth_16 rfl ?_
        refine j_bipush C 64 dX9_isWidth_17 (by decide) ?_
        refine j_icmp_ne C 26 dX9_isWidth_19 (by decide) (fun z => ?_) (fun z => ?_)
        · replace hw := hw.2 z
          refine j_iconst C 0 dX9_isWidth_26 (by decide) ?_
          exact j_zretR C hR (by decide) () rfl dX9_isWidth_27 hw
        · replace hw := hw.1 z
          refine j_iconst C 1 dX9_isWidth_22 (by decide) ?_
          refine j_goto C 27 dX9_isWidth_23 (by decide) ?_
          exact j_zretR C hR (by decide) () rfl dX9_isWidth_27 hw
def wpl_X9_isOrIsUnder_4 (x1 : Int32) (Q : (Int32) → Prop) (K : (Int32) → (Int32) → Prop) : Nat → (Int32) → (Int32) → Prop
  | 0, _, _ => False
  | n + 1, x2, x3 => (6 ≤ x3 → K x2 x3) ∧ (¬ (6 ≤ x3) → wp_X9_isKind x2 (fun r1 => (r1 = 0 → K x2 x3) ∧ (¬ (r1 = 0) → (x2 = x1 → Q 1) ∧ (¬ (x2 = x1) → vp_in x2 6 ∧ (wpl_X9_isOrIsUnder_4 x1 Q K n (abvL.getD (x2).toNatClampNeg 0) (x3 + 1))))))
def wp_X9_isOrIsUnder   (a1 : Int32) (a2 : Int32) (Q : (Int32) → Prop) : Prop := ∃ n3 : Nat, wpl_X9_isOrIsUnder_4 a2 Q (fun y3_2 y3_3 => Q 0) n3 a1 0
set_option maxRecDepth 100000 in
set_option maxHeartbeats 8000000 in
theorem ml_X9_isOrIsUnder_4 {l : Launch} {D : va_G} {ca : Nat → ClassId} {sd : Nat → Nat}  {k : Kx}   (x0 : Int32) (x1 : Int32) (C : Cx D ca sd cX9_isOrIsUnder RX9 (some .boolean) { frames := 2, cells := 0, slots := 0, locals := 42 } k 4) {Q : (Int32) → Prop} (hR : Rx (Ri D (fun (r : Int32) (u : Unit) => Q r ) (fun _ => [])) 0 0 k) {K : (Int32) → (Int32) → Prop} (hK : ∀ (x2' : Int32) (x3' : Int32), K x2' x3' → J l D k 4 0 0 36 ([] : va_W) [(0, .int x0), (1, .int x1), (2, .int x2'), (3, .int x3')] []) : ∀ (n : Nat) (x2 : Int32) (x3 : Int32), wpl_X9_isOrIsUnder_4 x1 Q K n x2 x3 → J l D k 4 0 0 4 ([] : va_W) [(0, .int x0), (1, .int x1), (2, .int x2), (3, .int x3)] [] := by
  intro n
  induction n with
  | zero =>
    intro x2 x3 hw
    rw [wpl_X9_isOrIsUnder_4] at hw
    exact hw.elim
  | succ n ih =>
    intro x2 x3 hw
    rw [wpl_X9_isOrIsUnder_4] at hw
    refine j_iload_n C 3 dX9_isOrIsUnder_4 rfl ?_
    refine j_bipush C 6 dX9_isOrIsUnder_5 (by decide) ?_
    refine j_icmp_ge C 36 dX9_isOrIsUnder_7 (by decide) (fun z => ?_) (fun z => ?_)
    · replace hw := hw.1 z
      exact hK x2 x3 hw
    · replace hw := hw.2 z
      refine j_iload_n C 2 dX9_isOrIsUnder_10 rfl ?_
      refine j_ciZ C (jr_S C lkS_X9_116 (c_X9_isKind x2 hw) ⟨rfl, rfl, by decide, by decide, by decide, by decide⟩ [] (by decide) rfl (fx_ro C) rfl rfl (Nat.le_of_ble_eq_true rfl) dX9_isOrIsUnder_11) (fun r1 u1 hw => ?_)
      refine j_if_eq C 36 dX9_isOrIsUnder_14 (by decide) (fun z => ?_) (fun z => ?_)
      · replace hw := hw.1 z
        exact hK x2 x3 hw
      · replace hw := hw.2 z
        refine j_iload_n C 2 dX9_isOrIsUnder_17 rfl ?_
        refine j_iload_n C 1 dX9_isOrIsUnder_18 rfl ?_
        refine j_icmp_ne C 24 dX9_isOrIsUnder_19 (by decide) (fun z => ?_) (fun z => ?_)
        · replace hw := hw.2 z
          refine j_above C 278 dX9_isOrIsUnder_24 sl_X9_278 ?_
          refine j_iload_n C 2 dX9_isOrIsUnder_27 rfl ?_
          have hi2 := hw.1
          replace hw := hw.2
          refine j_st0 C dX9_isOrIsUnder_28 hi2 ?_
          refine j_istore_n C [(2, .int (abvL.getD (x2).toNatClampNeg 0)), (0, .int x0), (1, .int x1), (3, .int x3)] dX9_isOrIsUnder_29 (by decide) rfl ?_
          refine j_iinc C 3 (x3 + 1) [(3, .int (x3 + 1)), (2, .int (abvL.getD (x2).toNatClampNeg 0)), (0, .int x0), (1, .int x1)] dX9_isOrIsUnder_30 rfl rfl (by decide) rfl ?_
          refine j_goto C 4 dX9_isOrIsUnder_33 (by decide) ?_
          refine j_lsub [2, 3, 1, 0] [(0, .int x0), (1, .int x1), (2, .int (abvL.getD (x2).toNatClampNeg 0)), (3, .int (x3 + 1))] rfl ?_
          exact ih (abvL.getD (x2).toNatClampNeg 0) (x3 + 1) hw
        · replace hw := hw.1 z
          refine j_iconst C 1 dX9_isOrIsUnder_22 (by decide) ?_
          exact j_zretR C hR (by decide) () rfl dX9_isOrIsUnder_23 hw
set_option maxRecDepth 100000 in
set_option maxHeartbeats 8000000 in
theorem c_X9_isOrIsUnder {l : Launch} {D : va_G} {ca : Nat → ClassId} {sd : Nat → Nat}     (a1 : Int32) (a2 : Int32) {Q : (Int32) → Prop} (hw : wp_X9_isOrIsUnder   a1 a2 Q) : Cn l D ca sd yX9_isOrIsUnder cX9_isOrIsUnder 4 (some .boolean) { frames := 2, cells := 0, slots := 0, locals := 42 } [.int a1, .int a2] ([] : va_W) [] 0 0 (Ri D (fun (r : Int32) (u : Unit) => Q r ) (fun _ => [])) := by
  refine cn_ofR (by decide) (Nat.le_of_ble_eq_true rfl) (fun k C hR => ?_)
  have C : Cx D ca sd cX9_isOrIsUnder RX9 (some .boolean) { frames := 2, cells := 0, slots := 0, locals := 42 } k 4 := C
  unfold wp_X9_isOrIsUnder at hw
  show J l D k 4 0 0 0 ([] : va_W) [(0, .int a1), (1, .int a2)] []
  refine j_iload_n C 0 dX9_isOrIsUnder_0 rfl ?_
  refine j_istore_n C [(2, .int a1), (0, .int a1), (1, .int a2)] dX9_isOrIsUnder_1 (by decide) rfl ?_
  refine j_iconst C 0 dX9_isOrIsUnder_2 (by decide) ?_
  refine j_istore_n C [(3, .int 0), (2, .int a1), (0, .int a1), (1, .int a2)] dX9_isOrIsUnder_3 (by decide) rfl ?_
  refine j_lsub [2, 3, 1, 0] [(0, .int a1), (1, .int a2), (2, .int a1), (3, .int 0)] rfl ?_
  obtain ⟨n3, hw⟩ := hw
  refine ml_X9_isOrIsUnder_4   a1 a2 C hR (fun y3_2 y3_3 hw => ?_) n3 a1 0 hw
  refine j_iconst C 0 dX9_isOrIsUnder_36 (by decide) ?_
  exact j_zretR C hR (by decide) () rfl dX9_isOrIsUnder_37 hw
def wp_X9_exchange (f : Nat → Int32) (rn : Nat) (a2 : Int32) (a3 : Int32) (Q : (Int32) → (Nat → Int32) → Prop) : Prop := vp_in a2 rn ∧ (vp_in a2 rn ∧ (Q (f (a2.toNatClampNeg)) (upd f (a2.toNatClampNeg) a3)))
set_option maxRecDepth 100000 in
set_option maxHeartbeats 8000000 in
theorem c_X9_exchange {l : Launch} {D : va_G} {ca : Nat → ClassId} {sd : Nat → Nat}  (ra : Nat) (rn : Nat) (f : Nat → Int32)  (a2 : Int32) (a3 : Int32) {Q : (Int32) → (Nat → Int32) → Prop} (hw : wp_X9_exchange f rn a2 a3 Q) : Cn l D ca sd yX9_exchange cX9_exchange 4 (some .int) { frames := 0, cells := 0, slots := 0, locals := 0 } [.ref ra, .int a2, .int a3] (wR ca ra rn f) (wR ca ra rn f) 0 0 (Ri D (fun (r : Int32) (u : (Nat → Int32)) => Q r u) (fun u => (wR ca ra rn u))) := by
  refine cn_of (by decide) (Nat.le_of_ble_eq_true rfl) (fun k C hR hB _ => ?_)
  have C : Cx D ca sd cX9_exchange RX9 (some .int) { frames := 0, cells := 0, slots := 0, locals := 0 } k 4 := C
  unfold wp_X9_exchange at hw
  show J l D k 4 0 0 0 (wR ca ra rn f) [(0, .ref ra), (1, .int a2), (2, .int a3)] []
  refine j_aload_n C 0 dX9_exchange_0 rfl ?_
  refine j_iload_n C 1 dX9_exchange_1 rfl ?_
  have hi1 := hw.1
  replace hw := hw.2
  refine j_iald C 0 dX9_exchange_2 rfl hi1 ?_
  refine j_istore_n C [(3, .int (f (a2.toNatClampNeg))), (0, .ref ra), (1, .int a2), (2, .int a3)] dX9_exchange_3 (by decide) rfl ?_
  refine j_aload_n C 1 dX9_exchange_4 rfl ?_
  refine j_iload_n C 2 dX9_exchange_5 rfl ?_
  refine j_iload_n C 3 dX9_exchange_6 rfl ?_
  have hi2 := hw.1
  replace hw := hw.2
  refine j_iast C hB 0 (wR ca ra rn (upd f (a2.toNatClampNeg) a3)) dX9_exchange_7 rfl hi2 rfl ?_
  refine j_iload_n C 0 dX9_exchange_8 rfl ?_
  exact j_iret C hB hR (upd f (a2.toNatClampNeg) a3) rfl dX9_exchange_9 hw rfl
def wpl_X9_sum_4 (f : Nat → Int32) (x1 : Int32) (rn : Nat) (K : (Int32) → (Int32) → Prop) : Nat → (Int32) → (Int32) → Prop
  | 0, _, _ => False
  | n + 1, x2, x3 => (x1 ≤ x3 → K x2 x3) ∧ (¬ (x1 ≤ x3) → ((Int32.ofNat rn) ≤ x3 → K x2 x3) ∧ (¬ ((Int32.ofNat rn) ≤ x3) → vp_in x3 rn ∧ (wpl_X9_sum_4 f x1 rn  K n (x2 + (f (x3.toNatClampNeg))) (x3 + 1))))
def wp_X9_sum (f : Nat → Int32) (rn : Nat) (a2 : Int32) (Q : (Int32) → Prop) : Prop := ∃ n2 : Nat, wpl_X9_sum_4 f a2 rn  (fun y2_2 y2_3 => Q y2_2) n2 0 0
set_option maxRecDepth 100000 in
set_option maxHeartbeats 8000000 in
theorem ml_X9_sum_4 {l : Launch} {D : va_G} {ca : Nat → ClassId} {sd : Nat → Nat}  {k : Kx} (ra : Nat) (rn : Nat)  (f : Nat → Int32) (x1 : Int32) (C : Cx D ca sd cX9_sum RX9 (some .int) { frames := 0, cells := 0, slots := 0, locals := 0 } k 4) {Q : (Int32) → Prop} (hR : Rx (Ri D (fun (r : Int32) (u : Unit) => Q r ) (fun _ => [])) 0 0 k) {K : (Int32) → (Int32) → Prop} (hK : ∀ (x2' : Int32) (x3' : Int32), K x2' x3' → J l D k 4 0 0 27 (wR ca ra rn f) [(0, .ref ra), (1, .int x1), (2, .int x2'), (3, .int x3')] []) : ∀ (n : Nat) (x2 : Int32) (x3 : Int32), wpl_X9_sum_4 f x1 rn  K n x2 x3 → J l D k 4 0 0 4 (wR ca ra rn f) [(0, .ref ra), (1, .int x1), (2, .int x2), (3, .int x3)] [] := by
  intro n
  induction n with
  | zero =>
    intro x2 x3 hw
    rw [wpl_X9_sum_4] at hw
    exact hw.elim
  | succ n ih =>
    intro x2 x3 hw
    rw [wpl_X9_sum_4] at hw
    refine j_iload_n C 3 dX9_sum_4 rfl ?_
    refine j_iload_n C 1 dX9_sum_5 rfl ?_
    refine j_icmp_ge C 27 dX9_sum_6 (by decide) (fun z => ?_) (fun z => ?_)
    · replace hw := hw.1 z
      exact hK x2 x3 hw
    · replace hw := hw.2 z
      refine j_iload_n C 3 dX9_sum_9 rfl ?_
      refine j_aload_n C 0 dX9_sum_10 rfl ?_
      refine j_alen C 0 (Int32.ofNat rn) dX9_sum_11 rfl rfl rfl ?_
      refine j_icmp_ge C 27 dX9_sum_12 (by decide) (fun z => ?_) (fun z => ?_)
      · replace hw := hw.1 z
        exact hK x2 x3 hw
      · replace hw := hw.2 z
        refine j_iload_n C 2 dX9_sum_15 rfl ?_
        refine j_aload_n C 0 dX9_sum_16 rfl ?_
        refine j_iload_n C 3 dX9_sum_17 rfl ?_
        have hi1 := hw.1
        replace hw := hw.2
        refine j_iald C 0 dX9_sum_18 rfl hi1 ?_
        refine j_iadd C dX9_sum_19 ?_
        refine j_istore_n C [(2, .int (x2 + (f (x3.toNatClampNeg)))), (0, .ref ra), (1, .int x1), (3, .int x3)] dX9_sum_20 (by decide) rfl ?_
        refine j_iinc C 3 (x3 + 1) [(3, .int (x3 + 1)), (2, .int (x2 + (f (x3.toNatClampNeg)))), (0, .ref ra), (1, .int x1)] dX9_sum_21 rfl rfl (by decide) rfl ?_
        refine j_goto C 4 dX9_sum_24 (by decide) ?_
        refine j_lsub [2, 3, 1, 0] [(0, .ref ra), (1, .int x1), (2, .int (x2 + (f (x3.toNatClampNeg)))), (3, .int (x3 + 1))] rfl ?_
        exact ih (x2 + (f (x3.toNatClampNeg))) (x3 + 1) hw
set_option maxRecDepth 100000 in
set_option maxHeartbeats 8000000 in
theorem c_X9_sum {l : Launch} {D : va_G} {ca : Nat → ClassId} {sd : Nat → Nat}  (ra : Nat) (rn : Nat) (f : Nat → Int32)  (a2 : Int32) {Q : (Int32) → Prop} (hw : wp_X9_sum f rn a2 Q) : Cn l D ca sd yX9_sum cX9_sum 4 (some .int) { frames := 0, cells := 0, slots := 0, locals := 0 } [.ref ra, .int a2] (wR ca ra rn f) [] 0 0 (Ri D (fun (r : Int32) (u : Unit) => Q r ) (fun _ => [])) := by
  refine cn_ofR (by decide) (Nat.le_of_ble_eq_true rfl) (fun k C hR => ?_)
  have C : Cx D ca sd cX9_sum RX9 (some .int) { frames := 0, cells := 0, slots := 0, locals := 0 } k 4 := C
  unfold wp_X9_sum at hw
  show J l D k 4 0 0 0 (wR ca ra rn f) [(0, .ref ra), (1, .int a2)] []
  refine j_iconst C 0 dX9_sum_0 (by decide) ?_
  refine j_istore_n C [(2, .int 0), (0, .ref ra), (1, .int a2)] dX9_sum_1 (by decide) rfl ?_
  refine j_iconst C 0 dX9_sum_2 (by decide) ?_
  refine j_istore_n C [(3, .int 0), (2, .int 0), (0, .ref ra), (1, .int a2)] dX9_sum_3 (by decide) rfl ?_
  refine j_lsub [2, 3, 1, 0] [(0, .ref ra), (1, .int a2), (2, .int 0), (3, .int 0)] rfl ?_
  obtain ⟨n2, hw⟩ := hw
  refine ml_X9_sum_4 ra rn  f a2 C hR (fun y2_2 y2_3 hw => ?_) n2 0 0 hw
  refine j_iload_n C 2 dX9_sum_27 rfl ?_
  exact j_iretR C hR () rfl dX9_sum_28 hw
end
section
theorem fl_X2_15_2 : FL RX2 15 2 2 := ⟨RX2, TX2, 11, rfl, by decide, uw_X2, (tb_t 100 (by decide +kernel) rfl)⟩
theorem fl_X2_18_2 : FL RX2 18 2 3 := ⟨RX2, TX2, 11, rfl, by decide, uw_X2, (tb_t 103 (by decide +kernel) rfl)⟩
theorem fl_X2_21_2 : FL RX2 21 2 4 := ⟨RX2, TX2, 11, rfl, by decide, uw_X2, (tb_t 105 (by decide +kernel) rfl)⟩
theorem fl_X2_24_2 : FL RX2 24 2 5 := ⟨RX2, TX2, 11, rfl, by decide, uw_X2, (tb_t 107 (by decide +kernel) rfl)⟩
theorem fl_X2_27_2 : FL RX2 27 2 6 := ⟨RX2, TX2, 11, rfl, by decide, uw_X2, (tb_t 109 (by decide +kernel) rfl)⟩
theorem fl_X2_30_2 : FL RX2 30 2 7 := ⟨RX2, TX2, 11, rfl, by decide, uw_X2, (tb_t 111 (by decide +kernel) rfl)⟩
theorem fl_X2_33_2 : FL RX2 33 2 8 := ⟨RX2, TX2, 11, rfl, by decide, uw_X2, (tb_t 113 (by decide +kernel) rfl)⟩
theorem fl_X2_36_2 : FL RX2 36 2 0 := ⟨RX2, TX2, 11, rfl, by decide, uw_X2, (tb_t 96 (by decide +kernel) rfl)⟩
theorem fl_X2_52_2 : FL RX2 52 2 9 := ⟨RX2, TX2, 11, rfl, by decide, uw_X2, (tb_t 114 (by decide +kernel) rfl)⟩
theorem fl_X2_56_2 : FL RX2 56 2 10 := ⟨RX2, TX2, 11, rfl, by decide, uw_X2, (tb_t 116 (by decide +kernel) rfl)⟩
theorem fl_X2_9_2 : FL RX2 9 2 1 := ⟨RX2, TX2, 11, rfl, by decide, uw_X2, (tb_t 97 (by decide +kernel) rfl)⟩
theorem fw_X2_52_2 : FW RX2 52 2 9 false .int := ⟨RX2, TX2, 11, tyX2, rfl, by decide, uw_X2, (tb_t 114 (by decide +kernel) rfl), tyX2_ok, nmX2, rfl, by decide +kernel, fun h => by cases h⟩
theorem fw_X2_56_2 : FW RX2 56 2 10 false .int := ⟨RX2, TX2, 11, tyX2, rfl, by decide, uw_X2, (tb_t 116 (by decide +kernel) rfl), tyX2_ok, nmX2, rfl, by decide +kernel, fun h => by cases h⟩
theorem lc_X2_46 : Cond.methodLink RX2 46 arraycopyName ∈ TB ∧ Cond.native arraycopyName ∈ TB ∧ Cond.static arraycopyName ∈ TB ∧ Cond.initialized "java/lang/System" ∈ TB := ⟨(tb_t 475 (by decide +kernel) rfl), (tb_t 477 (by decide +kernel) rfl), (tb_t 476 (by decide +kernel) rfl), (tb_t 15 (by decide +kernel) rfl)⟩
theorem lkO_X2_102_X0 : LkO RX2 102 RX0 "UnfinishedFair$Kind" ⟨"UnfinishedFair$Kind", "tires", "()I"⟩ yX0_tires cX0_tires 1 (some .int) 0 := ⟨⟨(tb_t 443 (by decide +kernel) rfl), (tb_t 283 (by decide +kernel) rfl), (tb_t 281 (by decide +kernel) rfl), (tb_t 284 (by decide +kernel) rfl), (tb_t 285 (by decide +kernel) rfl), (tb_t 3 (by decide +kernel) rfl), (tb_t 286 (by decide +kernel) rfl), by decide, by decide, by decide +kernel⟩, cX4_tires, 1, (some .int), (tb_t 299 (by decide +kernel) rfl)⟩
theorem lkO_X2_102_X1 : LkO RX2 102 RX1 "UnfinishedFair$Kind" ⟨"UnfinishedFair$Kind", "tires", "()I"⟩ yX0_tires cX0_tires 1 (some .int) 0 := ⟨⟨(tb_t 443 (by decide +kernel) rfl), (tb_t 283 (by decide +kernel) rfl), (tb_t 281 (by decide +kernel) rfl), (tb_t 288 (by decide +kernel) rfl), (tb_t 285 (by decide +kernel) rfl), (tb_t 3 (by decide +kernel) rfl), (tb_t 286 (by decide +kernel) rfl), by decide, by decide, by decide +kernel⟩, cX4_tires, 1, (some .int), (tb_t 299 (by decide +kernel) rfl)⟩
theorem lkO_X2_102_X3 : LkO RX2 102 RX3 "UnfinishedFair$Kind" ⟨"UnfinishedFair$Kind", "tires", "()I"⟩ yX4_tires cX4_tires 1 (some .int) 0 := ⟨⟨(tb_t 443 (by decide +kernel) rfl), (tb_t 283 (by decide +kernel) rfl), (tb_t 281 (by decide +kernel) rfl), (tb_t 289 (by decide +kernel) rfl), (tb_t 281 (by decide +kernel) rfl), (tb_t 2 (by decide +kernel) rfl), (tb_t 299 (by decide +kernel) rfl), by decide, by decide, by decide +kernel⟩, cX4_tires, 1, (some .int), (tb_t 299 (by decide +kernel) rfl)⟩
theorem lkO_X2_102_X4 : LkO RX2 102 RX4 "UnfinishedFair$Kind" ⟨"UnfinishedFair$Kind", "tires", "()I"⟩ yX4_tires cX4_tires 1 (some .int) 0 := ⟨⟨(tb_t 443 (by decide +kernel) rfl), (tb_t 283 (by decide +kernel) rfl), (tb_t 281 (by decide +kernel) rfl), (tb_t 282 (by decide +kernel) rfl), (tb_t 281 (by decide +kernel) rfl), (tb_t 2 (by decide +kernel) rfl), (tb_t 299 (by decide +kernel) rfl), by decide, by decide, by decide +kernel⟩, cX4_tires, 1, (some .int), (tb_t 299 (by decide +kernel) rfl)⟩
theorem lkO_X2_102_X5 : LkO RX2 102 RX5 "UnfinishedFair$Kind" ⟨"UnfinishedFair$Kind", "tires", "()I"⟩ yX5_tires cX5_tires 1 (some .int) 0 := ⟨⟨(tb_t 443 (by decide +kernel) rfl), (tb_t 283 (by decide +kernel) rfl), (tb_t 281 (by decide +kernel) rfl), (tb_t 290 (by decide +kernel) rfl), (tb_t 291 (by decide +kernel) rfl), (tb_t 7 (by decide +kernel) rfl), (tb_t 292 (by decide +kernel) rfl), by decide, by decide, by decide +kernel⟩, cX4_tires, 1, (some .int), (tb_t 299 (by decide +kernel) rfl)⟩
theorem lkO_X2_102_X6 : LkO RX2 102 RX6 "UnfinishedFair$Kind" ⟨"UnfinishedFair$Kind", "tires", "()I"⟩ yX6_tires cX6_tires 1 (some .int) 0 := ⟨⟨(tb_t 443 (by decide +kernel) rfl), (tb_t 283 (by decide +kernel) rfl), (tb_t 281 (by decide +kernel) rfl), (tb_t 296 (by decide +kernel) rfl), (tb_t 297 (by decide +kernel) rfl), (tb_t 5 (by decide +kernel) rfl), (tb_t 298 (by decide +kernel) rfl), by decide, by decide, by decide +kernel⟩, cX4_tires, 1, (some .int), (tb_t 299 (by decide +kernel) rfl)⟩
theorem lkO_X2_113_X0 : LkO RX2 113 RX0 "UnfinishedFair$Kind" ⟨"UnfinishedFair$Kind", "bid", "(III)I"⟩ yX0_bid cX0_bid 4 (some .int) 3 := ⟨⟨(tb_t 420 (by decide +kernel) rfl), (tb_t 354 (by decide +kernel) rfl), (tb_t 352 (by decide +kernel) rfl), (tb_t 355 (by decide +kernel) rfl), (tb_t 356 (by decide +kernel) rfl), (tb_t 3 (by decide +kernel) rfl), (tb_t 357 (by decide +kernel) rfl), by decide, by decide, by decide +kernel⟩, cX4_bid, 4, (some .int), (tb_t 370 (by decide +kernel) rfl)⟩
theorem lkO_X2_113_X1 : LkO RX2 113 RX1 "UnfinishedFair$Kind" ⟨"UnfinishedFair$Kind", "bid", "(III)I"⟩ yX1_bid cX1_bid 4 (some .int) 3 := ⟨⟨(tb_t 420 (by decide +kernel) rfl), (tb_t 354 (by decide +kernel) rfl), (tb_t 352 (by decide +kernel) rfl), (tb_t 358 (by decide +kernel) rfl), (tb_t 359 (by decide +kernel) rfl), (tb_t 6 (by decide +kernel) rfl), (tb_t 360 (by decide +kernel) rfl), by decide, by decide, by decide +kernel⟩, cX4_bid, 4, (some .int), (tb_t 370 (by decide +kernel) rfl)⟩
theorem lkO_X2_113_X3 : LkO RX2 113 RX3 "UnfinishedFair$Kind" ⟨"UnfinishedFair$Kind", "bid", "(III)I"⟩ yX3_bid cX3_bid 4 (some .int) 3 := ⟨⟨(tb_t 420 (by decide +kernel) rfl), (tb_t 354 (by decide +kernel) rfl), (tb_t 352 (by decide +kernel) rfl), (tb_t 362 (by decide +kernel) rfl), (tb_t 363 (by decide +kernel) rfl), (tb_t 4 (by decide +kernel) rfl), (tb_t 364 (by decide +kernel) rfl), by decide, by decide, by decide +kernel⟩, cX4_bid, 4, (some .int), (tb_t 370 (by decide +kernel) rfl)⟩
theorem lkO_X2_113_X4 : LkO RX2 113 RX4 "UnfinishedFair$Kind" ⟨"UnfinishedFair$Kind", "bid", "(III)I"⟩ yX4_bid cX4_bid 4 (some .int) 3 := ⟨⟨(tb_t 420 (by decide +kernel) rfl), (tb_t 354 (by decide +kernel) rfl), (tb_t 352 (by decide +kernel) rfl), (tb_t 353 (by decide +kernel) rfl), (tb_t 352 (by decide +kernel) rfl), (tb_t 2 (by decide +kernel) rfl), (tb_t 370 (by decide +kernel) rfl), by decide, by decide, by decide +kernel⟩, cX4_bid, 4, (some .int), (tb_t 370 (by decide +kernel) rfl)⟩
theorem lkO_X2_113_X5 : LkO RX2 113 RX5 "UnfinishedFair$Kind" ⟨"UnfinishedFair$Kind", "bid", "(III)I"⟩ yX3_bid cX3_bid 4 (some .int) 3 := ⟨⟨(tb_t 420 (by decide +kernel) rfl), (tb_t 354 (by decide +kernel) rfl), (tb_t 352 (by decide +kernel) rfl), (tb_t 366 (by decide +kernel) rfl), (tb_t 363 (by decide +kernel) rfl), (tb_t 4 (by decide +kernel) rfl), (tb_t 364 (by decide +kernel) rfl), by decide, by decide, by decide +kernel⟩, cX4_bid, 4, (some .int), (tb_t 370 (by decide +kernel) rfl)⟩
theorem lkO_X2_113_X6 : LkO RX2 113 RX6 "UnfinishedFair$Kind" ⟨"UnfinishedFair$Kind", "bid", "(III)I"⟩ yX6_bid cX6_bid 4 (some .int) 3 := ⟨⟨(tb_t 420 (by decide +kernel) rfl), (tb_t 354 (by decide +kernel) rfl), (tb_t 352 (by decide +kernel) rfl), (tb_t 367 (by decide +kernel) rfl), (tb_t 368 (by decide +kernel) rfl), (tb_t 5 (by decide +kernel) rfl), (tb_t 369 (by decide +kernel) rfl), by decide, by decide, by decide +kernel⟩, cX4_bid, 4, (some .int), (tb_t 370 (by decide +kernel) rfl)⟩
theorem lkO_X2_116_X0 : LkO RX2 116 RX0 "UnfinishedFair$Kind" ⟨"UnfinishedFair$Kind", "asked", "(II)I"⟩ yX0_asked cX0_asked 3 (some .int) 2 := ⟨⟨(tb_t 421 (by decide +kernel) rfl), (tb_t 303 (by decide +kernel) rfl), (tb_t 301 (by decide +kernel) rfl), (tb_t 304 (by decide +kernel) rfl), (tb_t 305 (by decide +kernel) rfl), (tb_t 3 (by decide +kernel) rfl), (tb_t 306 (by decide +kernel) rfl), by decide, by decide, by decide +kernel⟩, cX4_asked, 3, (some .int), (tb_t 322 (by decide +kernel) rfl)⟩
theorem lkO_X2_116_X1 : LkO RX2 116 RX1 "UnfinishedFair$Kind" ⟨"UnfinishedFair$Kind", "asked", "(II)I"⟩ yX0_asked cX0_asked 3 (some .int) 2 := ⟨⟨(tb_t 421 (by decide +kernel) rfl), (tb_t 303 (by decide +kernel) rfl), (tb_t 301 (by decide +kernel) rfl), (tb_t 311 (by decide +kernel) rfl), (tb_t 305 (by decide +kernel) rfl), (tb_t 3 (by decide +kernel) rfl), (tb_t 306 (by decide +kernel) rfl), by decide, by decide, by decide +kernel⟩, cX4_asked, 3, (some .int), (tb_t 322 (by decide +kernel) rfl)⟩
theorem lkO_X2_116_X3 : LkO RX2 116 RX3 "UnfinishedFair$Kind" ⟨"UnfinishedFair$Kind", "asked", "(II)I"⟩ yX4_asked cX4_asked 3 (some .int) 2 := ⟨⟨(tb_t 421 (by decide +kernel) rfl), (tb_t 303 (by decide +kernel) rfl), (tb_t 301 (by decide +kernel) rfl), (tb_t 312 (by decide +kernel) rfl), (tb_t 301 (by decide +kernel) rfl), (tb_t 2 (by decide +kernel) rfl), (tb_t 322 (by decide +kernel) rfl), by decide, by decide, by decide +kernel⟩, cX4_asked, 3, (some .int), (tb_t 322 (by decide +kernel) rfl)⟩
theorem lkO_X2_116_X4 : LkO RX2 116 RX4 "UnfinishedFair$Kind" ⟨"UnfinishedFair$Kind", "asked", "(II)I"⟩ yX4_asked cX4_asked 3 (some .int) 2 := ⟨⟨(tb_t 421 (by decide +kernel) rfl), (tb_t 303 (by decide +kernel) rfl), (tb_t 301 (by decide +kernel) rfl), (tb_t 302 (by decide +kernel) rfl), (tb_t 301 (by decide +kernel) rfl), (tb_t 2 (by decide +kernel) rfl), (tb_t 322 (by decide +kernel) rfl), by decide, by decide, by decide +kernel⟩, cX4_asked, 3, (some .int), (tb_t 322 (by decide +kernel) rfl)⟩
theorem lkO_X2_116_X5 : LkO RX2 116 RX5 "UnfinishedFair$Kind" ⟨"UnfinishedFair$Kind", "asked", "(II)I"⟩ yX5_asked cX5_asked 3 (some .int) 2 := ⟨⟨(tb_t 421 (by decide +kernel) rfl), (tb_t 303 (by decide +kernel) rfl), (tb_t 301 (by decide +kernel) rfl), (tb_t 313 (by decide +kernel) rfl), (tb_t 314 (by decide +kernel) rfl), (tb_t 7 (by decide +kernel) rfl), (tb_t 315 (by decide +kernel) rfl), by decide, by decide, by decide +kernel⟩, cX4_asked, 3, (some .int), (tb_t 322 (by decide +kernel) rfl)⟩
theorem lkO_X2_116_X6 : LkO RX2 116 RX6 "UnfinishedFair$Kind" ⟨"UnfinishedFair$Kind", "asked", "(II)I"⟩ yX6_asked cX6_asked 3 (some .int) 2 := ⟨⟨(tb_t 421 (by decide +kernel) rfl), (tb_t 303 (by decide +kernel) rfl), (tb_t 301 (by decide +kernel) rfl), (tb_t 319 (by decide +kernel) rfl), (tb_t 320 (by decide +kernel) rfl), (tb_t 5 (by decide +kernel) rfl), (tb_t 321 (by decide +kernel) rfl), by decide, by decide, by decide +kernel⟩, cX4_asked, 3, (some .int), (tb_t 322 (by decide +kernel) rfl)⟩
theorem lkO_X2_90_X0 : LkO RX2 90 RX0 "UnfinishedFair$Kind" ⟨"UnfinishedFair$Kind", "goesOn", "(III)I"⟩ yX0_goesOn cX0_goesOn 4 (some .int) 3 := ⟨⟨(tb_t 439 (by decide +kernel) rfl), (tb_t 330 (by decide +kernel) rfl), (tb_t 328 (by decide +kernel) rfl), (tb_t 331 (by decide +kernel) rfl), (tb_t 332 (by decide +kernel) rfl), (tb_t 3 (by decide +kernel) rfl), (tb_t 333 (by decide +kernel) rfl), by decide, by decide, by decide +kernel⟩, cX4_goesOn, 4, (some .int), (tb_t 350 (by decide +kernel) rfl)⟩
theorem lkO_X2_90_X1 : LkO RX2 90 RX1 "UnfinishedFair$Kind" ⟨"UnfinishedFair$Kind", "goesOn", "(III)I"⟩ yX1_goesOn cX1_goesOn 4 (some .int) 3 := ⟨⟨(tb_t 439 (by decide +kernel) rfl), (tb_t 330 (by decide +kernel) rfl), (tb_t 328 (by decide +kernel) rfl), (tb_t 335 (by decide +kernel) rfl), (tb_t 336 (by decide +kernel) rfl), (tb_t 6 (by decide +kernel) rfl), (tb_t 337 (by decide +kernel) rfl), by decide, by decide, by decide +kernel⟩, cX4_goesOn, 4, (some .int), (tb_t 350 (by decide +kernel) rfl)⟩
theorem lkO_X2_90_X3 : LkO RX2 90 RX3 "UnfinishedFair$Kind" ⟨"UnfinishedFair$Kind", "goesOn", "(III)I"⟩ yX3_goesOn cX3_goesOn 4 (some .int) 3 := ⟨⟨(tb_t 439 (by decide +kernel) rfl), (tb_t 330 (by decide +kernel) rfl), (tb_t 328 (by decide +kernel) rfl), (tb_t 339 (by decide +kernel) rfl), (tb_t 340 (by decide +kernel) rfl), (tb_t 4 (by decide +kernel) rfl), (tb_t 341 (by decide +kernel) rfl), by decide, by decide, by decide +kernel⟩, cX4_goesOn, 4, (some .int), (tb_t 350 (by decide +kernel) rfl)⟩
theorem lkO_X2_90_X4 : LkO RX2 90 RX4 "UnfinishedFair$Kind" ⟨"UnfinishedFair$Kind", "goesOn", "(III)I"⟩ yX4_goesOn cX4_goesOn 4 (some .int) 3 := ⟨⟨(tb_t 439 (by decide +kernel) rfl), (tb_t 330 (by decide +kernel) rfl), (tb_t 328 (by decide +kernel) rfl), (tb_t 329 (by decide +kernel) rfl), (tb_t 328 (by decide +kernel) rfl), (tb_t 2 (by decide +kernel) rfl), (tb_t 350 (by decide +kernel) rfl), by decide, by decide, by decide +kernel⟩, cX4_goesOn, 4, (some .int), (tb_t 350 (by decide +kernel) rfl)⟩
theorem lkO_X2_90_X5 : LkO RX2 90 RX5 "UnfinishedFair$Kind" ⟨"UnfinishedFair$Kind", "goesOn", "(III)I"⟩ yX5_goesOn cX5_goesOn 5 (some .int) 3 := ⟨⟨(tb_t 439 (by decide +kernel) rfl), (tb_t 330 (by decide +kernel) rfl), (tb_t 328 (by decide +kernel) rfl), (tb_t 343 (by decide +kernel) rfl), (tb_t 344 (by decide +kernel) rfl), (tb_t 7 (by decide +kernel) rfl), (tb_t 345 (by decide +kernel) rfl), by decide, by decide, by decide +kernel⟩, cX4_goesOn, 4, (some .int), (tb_t 350 (by decide +kernel) rfl)⟩
theorem lkO_X2_90_X6 : LkO RX2 90 RX6 "UnfinishedFair$Kind" ⟨"UnfinishedFair$Kind", "goesOn", "(III)I"⟩ yX6_goesOn cX6_goesOn 4 (some .int) 3 := ⟨⟨(tb_t 439 (by decide +kernel) rfl), (tb_t 330 (by decide +kernel) rfl), (tb_t 328 (by decide +kernel) rfl), (tb_t 347 (by decide +kernel) rfl), (tb_t 348 (by decide +kernel) rfl), (tb_t 5 (by decide +kernel) rfl), (tb_t 349 (by decide +kernel) rfl), by decide, by decide, by decide +kernel⟩, cX4_goesOn, 4, (some .int), (tb_t 350 (by decide +kernel) rfl)⟩
theorem lkSN_X2_122 : Cond.initialized yX9_sum.cls ∈ TB ∧ Cond.static yX9_sum ∈ TB ∧ Cond.code yX9_sum cX9_sum 4 (some .int) ∈ TB ∧ yX9_sum.cls ≠ "java/lang/invoke/MethodHandle" ∧ yX9_sum.cls ≠ "java/lang/invoke/VarHandle" ∧ (parseMethodDescriptor yX9_sum.desc).map (fun d => d.parameters.length) = some 2 := ⟨(tb_t 1 (by decide +kernel) rfl), (tb_t 461 (by decide +kernel) rfl), (tb_t 462 (by decide +kernel) rfl), by decide, by decide, by decide +kernel⟩
theorem lkS_X2_40 : LkS RX2 40 yJ7_fill_53178 cJ7_fill_53178 4 none 2 := ⟨(tb_t 93 (by decide +kernel) rfl), (tb_t 94 (by decide +kernel) rfl), (tb_t 9 (by decide +kernel) rfl), (tb_t 95 (by decide +kernel) rfl), by decide, by decide, by decide +kernel⟩
theorem lkV_X2_106 : LkV RX2 106 RX2 yX2_letGo cX2_letGo 2 none 1 := ⟨(tb_t 444 (by decide +kernel) rfl), (tb_t 399 (by decide +kernel) rfl), (tb_t 400 (by decide +kernel) rfl), (tb_t 8 (by decide +kernel) rfl), (tb_t 401 (by decide +kernel) rfl), rfl, by decide, by decide, by decide +kernel⟩
theorem lkV_X2_109 : LkV RX2 109 RX2 yX2_takerOf cX2_takerOf 9 (some .int) 1 := ⟨(tb_t 451 (by decide +kernel) rfl), (tb_t 416 (by decide +kernel) rfl), (tb_t 417 (by decide +kernel) rfl), (tb_t 8 (by decide +kernel) rfl), (tb_t 418 (by decide +kernel) rfl), rfl, by decide, by decide, by decide +kernel⟩
theorem lkV_X2_119 : LkV RX2 119 RX2 yX2_finishedSet cX2_finishedSet 3 (some .int) 0 := ⟨(tb_t 504 (by decide +kernel) rfl), (tb_t 238 (by decide +kernel) rfl), (tb_t 239 (by decide +kernel) rfl), (tb_t 8 (by decide +kernel) rfl), (tb_t 240 (by decide +kernel) rfl), rfl, by decide, by decide, by decide +kernel⟩
theorem lkV_X2_59 : LkV RX2 59 RX2 yX2_isFull cX2_isFull 1 (some .boolean) 0 := ⟨(tb_t 267 (by decide +kernel) rfl), (tb_t 259 (by decide +kernel) rfl), (tb_t 260 (by decide +kernel) rfl), (tb_t 8 (by decide +kernel) rfl), (tb_t 261 (by decide +kernel) rfl), rfl, by decide, by decide, by decide +kernel⟩
theorem lkV_X2_63 : LkV RX2 63 RX2 yX2_isFinished cX2_isFinished 2 (some .boolean) 1 := ⟨(tb_t 241 (by decide +kernel) rfl), (tb_t 242 (by decide +kernel) rfl), (tb_t 243 (by decide +kernel) rfl), (tb_t 8 (by decide +kernel) rfl), (tb_t 244 (by decide +kernel) rfl), rfl, by decide, by decide, by decide +kernel⟩
theorem lkV_X2_67 : LkV RX2 67 RX2 yX2_goYear cX2_goYear 2 none 0 := ⟨(tb_t 431 (by decide +kernel) rfl), (tb_t 432 (by decide +kernel) rfl), (tb_t 433 (by decide +kernel) rfl), (tb_t 8 (by decide +kernel) rfl), (tb_t 434 (by decide +kernel) rfl), rfl, by decide, by decide, by decide +kernel⟩
theorem lkV_X2_70 : LkV RX2 70 RX2 yX2_canBeLeft cX2_canBeLeft 2 (some .boolean) 1 := ⟨(tb_t 414 (by decide +kernel) rfl), (tb_t 394 (by decide +kernel) rfl), (tb_t 395 (by decide +kernel) rfl), (tb_t 8 (by decide +kernel) rfl), (tb_t 396 (by decide +kernel) rfl), rfl, by decide, by decide, by decide +kernel⟩
theorem lkV_X2_73 : LkV RX2 73 RX2 yX2_workOn cX2_workOn 5 none 1 := ⟨(tb_t 435 (by decide +kernel) rfl), (tb_t 436 (by decide +kernel) rfl), (tb_t 437 (by decide +kernel) rfl), (tb_t 8 (by decide +kernel) rfl), (tb_t 438 (by decide +kernel) rfl), rfl, by decide, by decide, by decide +kernel⟩
theorem lkV_X2_77 : LkV RX2 77 RX2 yX2_countHeld cX2_countHeld 2 none 0 := ⟨(tb_t 445 (by decide +kernel) rfl), (tb_t 411 (by decide +kernel) rfl), (tb_t 412 (by decide +kernel) rfl), (tb_t 8 (by decide +kernel) rfl), (tb_t 413 (by decide +kernel) rfl), rfl, by decide, by decide, by decide +kernel⟩
theorem lkV_X2_80 : LkV RX2 80 RX2 yX2_isForTheFair cX2_isForTheFair 2 (some .boolean) 1 := ⟨(tb_t 446 (by decide +kernel) rfl), (tb_t 407 (by decide +kernel) rfl), (tb_t 408 (by decide +kernel) rfl), (tb_t 8 (by decide +kernel) rfl), (tb_t 409 (by decide +kernel) rfl), rfl, by decide, by decide, by decide +kernel⟩
theorem lkV_X2_83 : LkV RX2 83 RX2 yX2_offer cX2_offer 3 none 1 := ⟨(tb_t 447 (by decide +kernel) rfl), (tb_t 448 (by decide +kernel) rfl), (tb_t 449 (by decide +kernel) rfl), (tb_t 8 (by decide +kernel) rfl), (tb_t 450 (by decide +kernel) rfl), rfl, by decide, by decide, by decide +kernel⟩
theorem lkV_X2_86 : LkV RX2 86 RX2 yX2_natureOf cX2_natureOf 2 (some (.object "UnfinishedFair$Kind")) 1 := ⟨(tb_t 419 (by decide +kernel) rfl), (tb_t 277 (by decide +kernel) rfl), (tb_t 278 (by decide +kernel) rfl), (tb_t 8 (by decide +kernel) rfl), (tb_t 279 (by decide +kernel) rfl), rfl, by decide, by decide, by decide +kernel⟩
theorem lm_X2_96 : Cond.methodLink RX2 96 Lib.Math.min.name ∈ TB ∧ Cond.static Lib.Math.min.name ∈ TB ∧ Cond.initialized "java/lang/Math" ∈ TB ∧ Cond.code Lib.Math.min.name Lib.Math.min.code 2 (some .int) ∈ TB := ⟨(tb_t 440 (by decide +kernel) rfl), (tb_t 441 (by decide +kernel) rfl), (tb_t 14 (by decide +kernel) rfl), (tb_t 442 (by decide +kernel) rfl)⟩
theorem jk_X2_102 {l : Launch} {D : va_G} {ca : Nat → ClassId} {sd : Nat → Nat} {cc : ByteArray} {ret : Option FieldType} {R0 : Room} {k : Kx} {nL cells slots pc : Nat} {ws : va_W} {lv : List (Nat × Value)} {st : List Value} (C : Cx D ca sd cc RX2 ret R0 k nL) (nd : Nat → Nat) (p0 kk : Nat) (Q : Int32 → Prop) (hw : wpv_tires kk  Q) (hN : ∀ j, j < 6 → ws[p0 + j]? = some (nd (j + 1), .inr (ciK j, [.ref (sd (2 + j))]))) (hf : 3 ≤ R0.frames ∧ 80 ≤ R0.locals) (hc : cells ≤ R0.cells ∧ slots ≤ R0.slots) (hst : (st.map fun v => v.category).sum ≤ 8) (d : decode cc pc = .ok (.invokevirtual 102, 3)) : JR l D k nL cells slots pc ws lv ( .ref (nd (kk + 1)) :: st) st [] 0 0 (Ri D (fun (r : Int32) (_ : Unit) => Q r) (fun _ => [])) [.ref (nd (kk + 1))] := by
  match kk, hw with
  | 0, hw => exact jr_O C lkO_X2_102_X4 (c_X4_tires (nd 1) 4 (sd 2) rfl  hw) ⟨rfl, rfl, Nat.le_trans (by decide) hf.1, Nat.le_trans (by decide) hf.2, hc.1, hc.2⟩ [p0 + 0] (by simp [va_nd]) (by show [ws[p0 + 0]?] = _; rw [hN 0 (by decide)]; rfl) (fx_ro C) (p0 + 0) 4 (hN 0 (by decide)) rfl rfl rfl hst d
  | 1, hw => exact jr_O C lkO_X2_102_X0 (c_X0_tires (nd 2) 0 (sd 3) rfl  hw) ⟨rfl, rfl, Nat.le_trans (by decide) hf.1, Nat.le_trans (by decide) hf.2, hc.1, hc.2⟩ [p0 + 1] (by simp [va_nd]) (by show [ws[p0 + 1]?] = _; rw [hN 1 (by decide)]; rfl) (fx_ro C) (p0 + 1) 0 (hN 1 (by decide)) rfl rfl rfl hst d
  | 2, hw => exact jr_O C lkO_X2_102_X3 (c_X4_tires (nd 3) 3 (sd 4) rfl  hw) ⟨rfl, rfl, Nat.le_trans (by decide) hf.1, Nat.le_trans (by decide) hf.2, hc.1, hc.2⟩ [p0 + 2] (by simp [va_nd]) (by show [ws[p0 + 2]?] = _; rw [hN 2 (by decide)]; rfl) (fx_ro C) (p0 + 2) 3 (hN 2 (by decide)) rfl rfl rfl hst d
  | 3, hw => exact jr_O C lkO_X2_102_X6 (c_X6_tires (nd 4) 6 (sd 5) rfl  hw) ⟨rfl, rfl, Nat.le_trans (by decide) hf.1, Nat.le_trans (by decide) hf.2, hc.1, hc.2⟩ [p0 + 3] (by simp [va_nd]) (by show [ws[p0 + 3]?] = _; rw [hN 3 (by decide)]; rfl) (fx_ro C) (p0 + 3) 6 (hN 3 (by decide)) rfl rfl rfl hst d
  | 4, hw => exact jr_O C lkO_X2_102_X1 (c_X0_tires (nd 5) 1 (sd 6) rfl  hw) ⟨rfl, rfl, Nat.le_trans (by decide) hf.1, Nat.le_trans (by decide) hf.2, hc.1, hc.2⟩ [p0 + 4] (by simp [va_nd]) (by show [ws[p0 + 4]?] = _; rw [hN 4 (by decide)]; rfl) (fx_ro C) (p0 + 4) 1 (hN 4 (by decide)) rfl rfl rfl hst d
  | 5, hw => exact jr_O C lkO_X2_102_X5 (c_X5_tires (nd 6) 5 (sd 7) rfl  hw) ⟨rfl, rfl, Nat.le_trans (by decide) hf.1, Nat.le_trans (by decide) hf.2, hc.1, hc.2⟩ [p0 + 5] (by simp [va_nd]) (by show [ws[p0 + 5]?] = _; rw [hN 5 (by decide)]; rfl) (fx_ro C) (p0 + 5) 5 (hN 5 (by decide)) rfl rfl rfl hst d
  | n + 6, hw => exact hw.elim
theorem jk_X2_113 {l : Launch} {D : va_G} {ca : Nat → ClassId} {sd : Nat → Nat} {cc : ByteArray} {ret : Option FieldType} {R0 : Room} {k : Kx} {nL cells slots pc : Nat} {ws : va_W} {lv : List (Nat × Value)} {st : List Value} (C : Cx D ca sd cc RX2 ret R0 k nL) (nd : Nat → Nat) (p0 kk : Nat) (a1 a2 a3 : Int32) (Q : Int32 → Prop) (hw : wpv_bid kk a1 a2 a3 Q) (hN : ∀ j, j < 6 → ws[p0 + j]? = some (nd (j + 1), .inr (ciK j, [.ref (sd (2 + j))]))) (hf : 3 ≤ R0.frames ∧ 80 ≤ R0.locals) (hc : cells ≤ R0.cells ∧ slots ≤ R0.slots) (hst : (st.map fun v => v.category).sum ≤ 8) (d : decode cc pc = .ok (.invokevirtual 113, 3)) : JR l D k nL cells slots pc ws lv (.int a3 :: .int a2 :: .int a1 :: .ref (nd (kk + 1)) :: st) st [] 0 0 (Ri D (fun (r : Int32) (_ : Unit) => Q r) (fun _ => [])) [.ref (nd (kk + 1)), .int a1, .int a2, .int a3] := by
  match kk, hw with
  | 0, hw => exact jr_O C lkO_X2_113_X4 (c_X4_bid (nd 1) 4 (sd 2) rfl a1 a2 a3 hw) ⟨rfl, rfl, Nat.le_trans (by decide) hf.1, Nat.le_trans (by decide) hf.2, hc.1, hc.2⟩ [p0 + 0] (by simp [va_nd]) (by show [ws[p0 + 0]?] = _; rw [hN 0 (by decide)]; rfl) (fx_ro C) (p0 + 0) 4 (hN 0 (by decide)) rfl rfl rfl hst d
  | 1, hw => exact jr_O C lkO_X2_113_X0 (c_X0_bid (nd 2) 0 (sd 3) rfl a1 a2 a3 hw) ⟨rfl, rfl, Nat.le_trans (by decide) hf.1, Nat.le_trans (by decide) hf.2, hc.1, hc.2⟩ [p0 + 1] (by simp [va_nd]) (by show [ws[p0 + 1]?] = _; rw [hN 1 (by decide)]; rfl) (fx_ro C) (p0 + 1) 0 (hN 1 (by decide)) rfl rfl rfl hst d
  | 2, hw => exact jr_O C lkO_X2_113_X3 (c_X3_bid (nd 3) 3 (sd 4) rfl a1 a2 a3 hw) ⟨rfl, rfl, Nat.le_trans (by decide) hf.1, Nat.le_trans (by decide) hf.2, hc.1, hc.2⟩ [p0 + 2] (by simp [va_nd]) (by show [ws[p0 + 2]?] = _; rw [hN 2 (by decide)]; rfl) (fx_ro C) (p0 + 2) 3 (hN 2 (by decide)) rfl rfl rfl hst d
  | 3, hw => exact jr_O C lkO_X2_113_X6 (c_X6_bid (nd 4) 6 (sd 5) rfl a1 a2 a3 hw) ⟨rfl, rfl, Nat.le_trans (by decide) hf.1, Nat.le_trans (by decide) hf.2, hc.1, hc.2⟩ [p0 + 3] (by simp [va_nd]) (by show [ws[p0 + 3]?] = _; rw [hN 3 (by decide)]; rfl) (fx_ro C) (p0 + 3) 6 (hN 3 (by decide)) rfl rfl rfl hst d
  | 4, hw => exact jr_O C lkO_X2_113_X1 (c_X1_bid (nd 5) 1 (sd 6) rfl a1 a2 a3 hw) ⟨rfl, rfl, Nat.le_trans (by decide) hf.1, Nat.le_trans (by decide) hf.2, hc.1, hc.2⟩ [p0 + 4] (by simp [va_nd]) (by show [ws[p0 + 4]?] = _; rw [hN 4 (by decide)]; rfl) (fx_ro C) (p0 + 4) 1 (hN 4 (by decide)) rfl rfl rfl hst d
  | 5, hw => exact jr_O C lkO_X2_113_X5 (c_X3_bid (nd 6) 5 (sd 7) rfl a1 a2 a3 hw) ⟨rfl, rfl, Nat.le_trans (by decide) hf.1, Nat.le_trans (by decide) hf.2, hc.1, hc.2⟩ [p0 + 5] (by simp [va_nd]) (by show [ws[p0 + 5]?] = _; rw [hN 5 (by decide)]; rfl) (fx_ro C) (p0 + 5) 5 (hN 5 (by decide)) rfl rfl rfl hst d
  | n + 6, hw => exact hw.elim
theorem jk_X2_116 {l : Launch} {D : va_G} {ca : Nat → ClassId} {sd : Nat → Nat} {cc : ByteArray} {ret : Option FieldType} {R0 : Room} {k : Kx} {nL cells slots pc : Nat} {ws : va_W} {lv : List (Nat × Value)} {st : List Value} (C : Cx D ca sd cc RX2 ret R0 k nL) (nd : Nat → Nat) (p0 kk : Nat) (a1 a2 : Int32) (Q : Int32 → Prop) (hw : wpv_asked kk a1 a2 Q) (hN : ∀ j, j < 6 → ws[p0 + j]? = some (nd (j + 1), .inr (ciK j, [.ref (sd (2 + j))]))) (hf : 3 ≤ R0.frames ∧ 80 ≤ R0.locals) (hc : cells ≤ R0.cells ∧ slots ≤ R0.slots) (hst : (st.map fun v => v.category).sum ≤ 8) (d : decode cc pc = .ok (.invokevirtual 116, 3)) : JR l D k nL cells slots pc ws lv (.int a2 :: .int a1 :: .ref (nd (kk + 1)) :: st) st [] 0 0 (Ri D (fun (r : Int32) (_ : Unit) => Q r) (fun _ => [])) [.ref (nd (kk + 1)), .int a1, .int a2] := by
  match kk, hw with
  | 0, hw => exact jr_O C lkO_X2_116_X4 (c_X4_asked (nd 1) 4 (sd 2) rfl a1 a2 hw) ⟨rfl, rfl, Nat.le_trans (by decide) hf.1, Nat.le_trans (by decide) hf.2, hc.1, hc.2⟩ [p0 + 0] (by simp [va_nd]) (by show [ws[p0 + 0]?] = _; rw [hN 0 (by decide)]; rfl) (fx_ro C) (p0 + 0) 4 (hN 0 (by decide)) rfl rfl rfl hst d
  | 1, hw => exact jr_O C lkO_X2_116_X0 (c_X0_asked (nd 2) 0 (sd 3) rfl a1 a2 hw) ⟨rfl, rfl, Nat.le_trans (by decide) hf.1, Nat.le_trans (by decide) hf.2, hc.1, hc.2⟩ [p0 + 1] (by simp [va_nd]) (by show [ws[p0 + 1]?] = _; rw [hN 1 (by decide)]; rfl) (fx_ro C) (p0 + 1) 0 (hN 1 (by decide)) rfl rfl rfl hst d
  | 2, hw => exact jr_O C lkO_X2_116_X3 (c_X4_asked (nd 3) 3 (sd 4) rfl a1 a2 hw) ⟨rfl, rfl, Nat.le_trans (by decide) hf.1, Nat.le_trans (by decide) hf.2, hc.1, hc.2⟩ [p0 + 2] (by simp [va_nd]) (by show [ws[p0 + 2]?] = _; rw [hN 2 (by decide)]; rfl) (fx_ro C) (p0 + 2) 3 (hN 2 (by decide)) rfl rfl rfl hst d
  | 3, hw => exact jr_O C lkO_X2_116_X6 (c_X6_asked (nd 4) 6 (sd 5) rfl a1 a2 hw) ⟨rfl, rfl, Nat.le_trans (by decide) hf.1, Nat.le_trans (by decide) hf.2, hc.1, hc.2⟩ [p0 + 3] (by simp [va_nd]) (by show [ws[p0 + 3]?] = _; rw [hN 3 (by decide)]; rfl) (fx_ro C) (p0 + 3) 6 (hN 3 (by decide)) rfl rfl rfl hst d
  | 4, hw => exact jr_O C lkO_X2_116_X1 (c_X0_asked (nd 5) 1 (sd 6) rfl a1 a2 hw) ⟨rfl, rfl, Nat.le_trans (by decide) hf.1, Nat.le_trans (by decide) hf.2, hc.1, hc.2⟩ [p0 + 4] (by simp [va_nd]) (by show [ws[p0 + 4]?] = _; rw [hN 4 (by decide)]; rfl) (fx_ro C) (p0 + 4) 1 (hN 4 (by decide)) rfl rfl rfl hst d
  | 5, hw => exact jr_O C lkO_X2_116_X5 (c_X5_asked (nd 6) 5 (sd 7) rfl a1 a2 hw) ⟨rfl, rfl, Nat.le_trans (by decide) hf.1, Nat.le_trans (by decide) hf.2, hc.1, hc.2⟩ [p0 + 5] (by simp [va_nd]) (by show [ws[p0 + 5]?] = _; rw [hN 5 (by decide)]; rfl) (fx_ro C) (p0 + 5) 5 (hN 5 (by decide)) rfl rfl rfl hst d
  | n + 6, hw => exact hw.elim
theorem jk_X2_90 {l : Launch} {D : va_G} {ca : Nat → ClassId} {sd : Nat → Nat} {cc : ByteArray} {ret : Option FieldType} {R0 : Room} {k : Kx} {nL cells slots pc : Nat} {ws : va_W} {lv : List (Nat × Value)} {st : List Value} (C : Cx D ca sd cc RX2 ret R0 k nL) (nd : Nat → Nat) (p0 kk : Nat) (a1 a2 a3 : Int32) (Q : Int32 → Prop) (hw : wpv_goesOn kk a1 a2 a3 Q) (hN : ∀ j, j < 6 → ws[p0 + j]? = some (nd (j + 1), .inr (ciK j, [.ref (sd (2 + j))]))) (hf : 3 ≤ R0.frames ∧ 80 ≤ R0.locals) (hc : cells ≤ R0.cells ∧ slots ≤ R0.slots) (hst : (st.map fun v => v.category).sum ≤ 8) (d : decode cc pc = .ok (.invokevirtual 90, 3)) : JR l D k nL cells slots pc ws lv (.int a3 :: .int a2 :: .int a1 :: .ref (nd (kk + 1)) :: st) st [] 0 0 (Ri D (fun (r : Int32) (_ : Unit) => Q r) (fun _ => [])) [.ref (nd (kk + 1)), .int a1, .int a2, .int a3] := by
  match kk, hw with
  | 0, hw => exact jr_O C lkO_X2_90_X4 (c_X4_goesOn (nd 1) 4 (sd 2) rfl a1 a2 a3 hw) ⟨rfl, rfl, Nat.le_trans (by decide) hf.1, Nat.le_trans (by decide) hf.2, hc.1, hc.2⟩ [p0 + 0] (by simp [va_nd]) (by show [ws[p0 + 0]?] = _; rw [hN 0 (by decide)]; rfl) (fx_ro C) (p0 + 0) 4 (hN 0 (by decide)) rfl rfl rfl hst d
  | 1, hw => exact jr_O C lkO_X2_90_X0 (c_X0_goesOn (nd 2) 0 (sd 3) rfl a1 a2 a3 hw) ⟨rfl, rfl, Nat.le_trans (by decide) hf.1, Nat.le_trans (by decide) hf.2, hc.1, hc.2⟩ [p0 + 1] (by simp [va_nd]) (by show [ws[p0 + 1]?] = _; rw [hN 1 (by decide)]; rfl) (fx_ro C) (p0 + 1) 0 (hN 1 (by decide)) rfl rfl rfl hst d
  | 2, hw => exact jr_O C lkO_X2_90_X3 (c_X3_goesOn (nd 3) 3 (sd 4) rfl a1 a2 a3 hw) ⟨rfl, rfl, Nat.le_trans (by decide) hf.1, Nat.le_trans (by decide) hf.2, hc.1, hc.2⟩ [p0 + 2] (by simp [va_nd]) (by show [ws[p0 + 2]?] = _; rw [hN 2 (by decide)]; rfl) (fx_ro C) (p0 + 2) 3 (hN 2 (by decide)) rfl rfl rfl hst d
  | 3, hw => exact jr_O C lkO_X2_90_X6 (c_X6_goesOn (nd 4) 6 (sd 5) rfl a1 a2 a3 hw) ⟨rfl, rfl, Nat.le_trans (by decide) hf.1, Nat.le_trans (by decide) hf.2, hc.1, hc.2⟩ [p0 + 3] (by simp [va_nd]) (by show [ws[p0 + 3]?] = _; rw [hN 3 (by decide)]; rfl) (fx_ro C) (p0 + 3) 6 (hN 3 (by decide)) rfl rfl rfl hst d
  | 4, hw => exact jr_O C lkO_X2_90_X1 (c_X1_goesOn (nd 5) 1 (sd 6) rfl a1 a2 a3 hw) ⟨rfl, rfl, Nat.le_trans (by decide) hf.1, Nat.le_trans (by decide) hf.2, hc.1, hc.2⟩ [p0 + 4] (by simp [va_nd]) (by show [ws[p0 + 4]?] = _; rw [hN 4 (by decide)]; rfl) (fx_ro C) (p0 + 4) 1 (hN 4 (by decide)) rfl rfl rfl hst d
  | 5, hw => exact jr_O C lkO_X2_90_X5 (c_X5_goesOn (nd 6) 5 (sd 7) rfl a1 a2 a3 hw) ⟨rfl, rfl, Nat.le_trans (by decide) hf.1, Nat.le_trans (by decide) hf.2, hc.1, hc.2⟩ [p0 + 5] (by simp [va_nd]) (by show [ws[p0 + 5]?] = _; rw [hN 5 (by decide)]; rfl) (fx_ro C) (p0 + 5) 5 (hN 5 (by decide)) rfl rfl rfl hst d
  | n + 6, hw => exact hw.elim
def wp_X2_isFull (sz : Int32)   (Q : (Int32) → Prop) : Prop := (sz < 8 → Q 0) ∧ (¬ (sz < 8) → Q 1)
set_option maxRecDepth 100000 in
set_option maxHeartbeats 8000000 in
theorem c_X2_isFull {l : Launch} {D : va_G} {ca : Nat → ClassId} {sd : Nat → Nat}  (ad : Nat → Nat) (n0 : Nat) (sk : Nat → Int32) (ze : Nat → Int32) (ma : Nat → Int32) (ki : Nat → Int32) (dn : Nat → Int32) (wi : Nat → Int32) (du : Nat → Int32) (he : Nat → Int32) (yr : Int32) (sz : Int32)   {Q : (Int32) → Prop} (hw : wp_X2_isFull sz   Q) : Cn l D ca sd yX2_isFull cX2_isFull 1 (some .boolean) { frames := 0, cells := 0, slots := 0, locals := 0 } [.ref (ad 0)] (wC ca ad n0 sk ze ma ki dn wi du he yr sz) [] 0 0 (Ri D (fun (r : Int32) (u : Unit) => Q r ) (fun _ => [])) := by
  refine cn_ofR (by decide) (Nat.le_of_ble_eq_true rfl) (fun k C hR => ?_)
  have C : Cx D ca sd cX2_isFull RX2 (some .boolean) { frames := 0, cells := 0, slots := 0, locals := 0 } k 1 := C
  unfold wp_X2_isFull at hw
  show J l D k 1 0 0 0 (wC ca ad n0 sk ze ma ki dn wi du he yr sz) [(0, .ref (ad 0))] []
  refine j_aload_n C 0 dX2_isFull_0 rfl ?_
  refine j_get C fl_X2_56_2 0 dX2_isFull_1 rfl rfl ?_
  refine j_bipush C 8 dX2_isFull_4 (by decide) ?_
  refine j_icmp_lt C 13 dX2_isFull_6 (by decide) (fun z => ?_) (fun z => ?_)
  · replace hw := hw.1 z
    refine j_iconst C 0 dX2_isFull_13 (by decide) ?_
    exact j_zretR C hR (by decide) () rfl dX2_isFull_14 hw
  · replace hw := hw.2 z
    refine j_iconst C 1 dX2_isFull_9 (by decide) ?_
    refine j_goto C 14 dX2_isFull_10 (by decide) ?_
    exact j_zretR C hR (by decide) () rfl dX2_isFull_14 hw
def wp_X2_add (ki : Nat → Int32) (dn : Nat → Int32) (wi : Nat → Int32) (du : Nat → Int32) (sz : Int32)  (a1 : Int32) (a2 : Int32) (a3 : Int32) (a4 : Int32) (Q : (Nat → Int32) → (Nat → Int32) → (Nat → Int32) → (Nat → Int32) → (Int32) → Prop) : Prop := wp_X2_isFull sz (fun r1 => (r1 = 0 → vp_in sz 8 ∧ (vp_in sz 8 ∧ (vp_in sz 8 ∧ (vp_in sz 8 ∧ (Q (upd ki (sz.toNatClampNeg) a1) (upd dn (sz.toNatClampNeg) a2) (upd wi (sz.toNatClampNeg) a3) (upd du (sz.toNatClampNeg) a4) (sz + 1)))))) ∧ (¬ (r1 = 0) → Q ki dn wi du sz))
set_option maxRecDepth 100000 in
set_option maxHeartbeats 8000000 in
theorem c_X2_add {l : Launch} {D : va_G} {ca : Nat → ClassId} {sd : Nat → Nat}  (ad : Nat → Nat) (n0 : Nat) (sk : Nat → Int32) (ze : Nat → Int32) (ma : Nat → Int32) (ki : Nat → Int32) (dn : Nat → Int32) (wi : Nat → Int32) (du : Nat → Int32) (he : Nat → Int32) (yr : Int32) (sz : Int32)  (a1 : Int32) (a2 : Int32) (a3 : Int32) (a4 : Int32) {Q : (Nat → Int32) → (Nat → Int32) → (Nat → Int32) → (Nat → Int32) → (Int32) → Prop} (hw : wp_X2_add ki dn wi du sz  a1 a2 a3 a4 Q) : Cn l D ca sd yX2_add cX2_add 5 none { frames := 1, cells := 0, slots := 0, locals := 20 } [.ref (ad 0), .int a1, .int a2, .int a3, .int a4] (wC ca ad n0 sk ze ma ki dn wi du he yr sz) (wC ca ad n0 sk ze ma ki dn wi du he yr sz) 0 0 (Rv D (fun u : (Nat → Int32) × (Nat → Int32) × (Nat → Int32) × (Nat → Int32) × (Int32) => Q u.1 u.2.1 u.2.2.1 u.2.2.2.1 u.2.2.2.2) (fun u => (wC ca ad n0 sk ze ma u.1 u.2.1 u.2.2.1 u.2.2.2.1 he yr u.2.2.2.2))) := by
  refine cn_of (by decide) (Nat.le_of_ble_eq_true rfl) (fun k C hR hB _ => ?_)
  have C : Cx D ca sd cX2_add RX2 none { frames := 1, cells := 0, slots := 0, locals := 20 } k 5 := C
  unfold wp_X2_add at hw
  show J l D k 5 0 0 0 (wC ca ad n0 sk ze ma ki dn wi du he yr sz) [(0, .ref (ad 0)), (1, .int a1), (2, .int a2), (3, .int a3), (4, .int a4)] []
  refine j_aload_n C 0 dX2_add_0 rfl ?_
  refine j_ciZ C (jr_V C lkV_X2_59 (c_X2_isFull ad n0 sk ze ma ki dn wi du he yr sz hw) ⟨rfl, rfl, by decide, by decide, by decide, by decide⟩ [0, 1, 2, 3, 4, 5, 6, 7, 8] (by decide) rfl (fx_ro C) 0 2 rfl rfl rfl rfl (Nat.le_of_ble_eq_true rfl) dX2_add_1) (fun r1 u1 hw => ?_)
  refine j_if_eq C 8 dX2_add_4 (by decide) (fun z => ?_) (fun z => ?_)
  · replace hw := hw.1 z
    refine j_aload_n C 0 dX2_add_8 rfl ?_
    refine j_get C fl_X2_21_2 0 dX2_add_9 rfl rfl ?_
    refine j_aload_n C 0 dX2_add_12 rfl ?_
    refine j_get C fl_X2_56_2 0 dX2_add_13 rfl rfl ?_
    refine j_iload_n C 1 dX2_add_16 rfl ?_
    have hi2 := hw.1
    replace hw := hw.2
    refine j_iast C hB 4 (wC ca ad n0 sk ze ma (upd ki (sz.toNatClampNeg) a1) dn wi du he yr sz) dX2_add_17 rfl hi2 rfl ?_
    refine j_aload_n C 0 dX2_add_18 rfl ?_
    refine j_get C fl_X2_24_2 0 dX2_add_19 rfl rfl ?_
    refine j_aload_n C 0 dX2_add_22 rfl ?_
    refine j_get C fl_X2_56_2 0 dX2_add_23 rfl rfl ?_
    refine j_iload_n C 2 dX2_add_26 rfl ?_
    have hi3 := hw.1
    replace hw := hw.2
    refine j_iast C hB 5 (wC ca ad n0 sk ze ma (upd ki (sz.toNatClampNeg) a1) (upd dn (sz.toNatClampNeg) a2) wi du he yr sz) dX2_add_27 rfl hi3 rfl ?_
    refine j_aload_n C 0 dX2_add_28 rfl ?_
    refine j_get C fl_X2_27_2 0 dX2_add_29 rfl rfl ?_
    refine j_aload_n C 0 dX2_add_32 rfl ?_
    refine j_get C fl_X2_56_2 0 dX2_add_33 rfl rfl ?_
    refine j_iload_n C 3 dX2_add_36 rfl ?_
    have hi4 := hw.1
    replace hw := hw.2
    refine j_iast C hB 6 (wC ca ad n0 sk ze ma (upd ki (sz.toNatClampNeg) a1) (upd dn (sz.toNatClampNeg) a2) (upd wi (sz.toNatClampNeg) a3) du he yr sz) dX2_add_37 rfl hi4 rfl ?_
    refine j_aload_n C 0 dX2_add_38 rfl ?_
    refine j_get C fl_X2_30_2 0 dX2_add_39 rfl rfl ?_
    refine j_aload_n C 0 dX2_add_42 rfl ?_
    refine j_get C fl_X2_56_2 0 dX2_add_43 rfl rfl ?_
    refine j_iload C 4 dX2_add_46 rfl ?_
    have hi5 := hw.1
    replace hw := hw.2
    refine j_iast C hB 7 (wC ca ad n0 sk ze ma (upd ki (sz.toNatClampNeg) a1) (upd dn (sz.toNatClampNeg) a2) (upd wi (sz.toNatClampNeg) a3) (upd du (sz.toNatClampNeg) a4) he yr sz) dX2_add_48 rfl hi5 rfl ?_
    refine j_aload_n C 0 dX2_add_49 rfl ?_
    refine j_dup C dX2_add_50 rfl ?_
    refine j_get C fl_X2_56_2 0 dX2_add_51 rfl rfl ?_
    refine j_iconst C 1 dX2_add_54 (by decide) ?_
    refine j_iadd C dX2_add_55 ?_
    refine j_put C hB fw_X2_56_2 0 (wC ca ad n0 sk ze ma (upd ki (sz.toNatClampNeg) a1) (upd dn (sz.toNatClampNeg) a2) (upd wi (sz.toNatClampNeg) a3) (upd du (sz.toNatClampNeg) a4) he yr (sz + 1)) dX2_add_56 rfl rfl rfl (Nat.le_of_ble_eq_true rfl) rfl ?_
    exact j_vret C hB hR (upd ki (sz.toNatClampNeg) a1, upd dn (sz.toNatClampNeg) a2, upd wi (sz.toNatClampNeg) a3, upd du (sz.toNatClampNeg) a4, sz + 1) rfl dX2_add_59 hw rfl
  · replace hw := hw.2 z
    exact j_vret C hB hR (ki, dn, wi, du, sz) rfl dX2_add_7 hw rfl
def wp_X2_isFinished (dn : Nat → Int32)  (a1 : Int32) (Q : (Int32) → Prop) : Prop := vp_in a1 8 ∧ (((dn (a1.toNatClampNeg)) < 100 → Q 0) ∧ (¬ ((dn (a1.toNatClampNeg)) < 100) → Q 1))
set_option maxRecDepth 100000 in
set_option maxHeartbeats 8000000 in
theorem c_X2_isFinished {l : Launch} {D : va_G} {ca : Nat → ClassId} {sd : Nat → Nat}  (ad : Nat → Nat) (n0 : Nat) (sk : Nat → Int32) (ze : Nat → Int32) (ma : Nat → Int32) (ki : Nat → Int32) (dn : Nat → Int32) (wi : Nat → Int32) (du : Nat → Int32) (he : Nat → Int32) (yr : Int32) (sz : Int32)  (a1 : Int32) {Q : (Int32) → Prop} (hw : wp_X2_isFinished dn  a1 Q) : Cn l D ca sd yX2_isFinished cX2_isFinished 2 (some .boolean) { frames := 0, cells := 0, slots := 0, locals := 0 } [.ref (ad 0), .int a1] (wC ca ad n0 sk ze ma ki dn wi du he yr sz) [] 0 0 (Ri D (fun (r : Int32) (u : Unit) => Q r ) (fun _ => [])) := by
  refine cn_ofR (by decide) (Nat.le_of_ble_eq_true rfl) (fun k C hR => ?_)
  have C : Cx D ca sd cX2_isFinished RX2 (some .boolean) { frames := 0, cells := 0, slots := 0, locals := 0 } k 2 := C
  unfold wp_X2_isFinished at hw
  show J l D k 2 0 0 0 (wC ca ad n0 sk ze ma ki dn wi du he yr sz) [(0, .ref (ad 0)), (1, .int a1)] []
  refine j_aload_n C 0 dX2_isFinished_0 rfl ?_
  refine j_get C fl_X2_24_2 0 dX2_isFinished_1 rfl rfl ?_
  refine j_iload_n C 1 dX2_isFinished_4 rfl ?_
  have hi1 := hw.1
  replace hw := hw.2
  refine j_iald C 5 dX2_isFinished_5 rfl hi1 ?_
  refine j_bipush C 100 dX2_isFinished_6 (by decide) ?_
  refine j_icmp_lt C 15 dX2_isFinished_8 (by decide) (fun z => ?_) (fun z => ?_)
  · replace hw := hw.1 z
    refine j_iconst C 0 dX2_isFinished_15 (by decide) ?_
    exact j_zretR C hR (by decide) () rfl dX2_isFinished_16 hw
  · replace hw := hw.2 z
    refine j_iconst C 1 dX2_isFinished_11 (by decide) ?_
    refine j_goto C 16 dX2_isFinished_12 (by decide) ?_
    exact j_zretR C hR (by decide) () rfl dX2_isFinished_16 hw
def wp_X2_canBeLeft (dn : Nat → Int32) (wi : Nat → Int32)  (a1 : Int32) (Q : (Int32) → Prop) : Prop := vp_in a1 8 ∧ (((wi (a1.toNatClampNeg)) = (-1) → Q 0) ∧ (¬ ((wi (a1.toNatClampNeg)) = (-1)) → wp_X2_isFinished dn a1 (fun r2 => (r2 = 0 → Q 1) ∧ (¬ (r2 = 0) → Q 0))))
set_option maxRecDepth 100000 in
set_option maxHeartbeats 8000000 in
theorem c_X2_canBeLeft {l : Launch} {D : va_G} {ca : Nat → ClassId} {sd : Nat → Nat}  (ad : Nat → Nat) (n0 : Nat) (sk : Nat → Int32) (ze : Nat → Int32) (ma : Nat → Int32) (ki : Nat → Int32) (dn : Nat → Int32) (wi : Nat → Int32) (du : Nat → Int32) (he : Nat → Int32) (yr : Int32) (sz : Int32)  (a1 : Int32) {Q : (Int32) → Prop} (hw : wp_X2_canBeLeft dn wi  a1 Q) : Cn l D ca sd yX2_canBeLeft cX2_canBeLeft 2 (some .boolean) { frames := 1, cells := 0, slots := 0, locals := 21 } [.ref (ad 0), .int a1] (wC ca ad n0 sk ze ma ki dn wi du he yr sz) [] 0 0 (Ri D (fun (r : Int32) (u : Unit) => Q r ) (fun _ => [])) := by
  refine cn_ofR (by decide) (Nat.le_of_ble_eq_true rfl) (fun k C hR => ?_)
  have C : Cx D ca sd cX2_canBeLeft RX2 (some .boolean) { frames := 1, cells := 0, slots := 0, locals := 21 } k 2 := C
  unfold wp_X2_canBeLeft at hw
  show J l D k 2 0 0 0 (wC ca ad n0 sk ze ma ki dn wi du he yr sz) [(0, .ref (ad 0)), (1, .int a1)] []
  refine j_aload_n C 0 dX2_canBeLeft_0 rfl ?_
  refine j_get C fl_X2_27_2 0 dX2_canBeLeft_1 rfl rfl ?_
  refine j_iload_n C 1 dX2_canBeLeft_4 rfl ?_
  have hi1 := hw.1
  replace hw := hw.2
  refine j_iald C 6 dX2_canBeLeft_5 rfl hi1 ?_
  refine j_iconst C (-1) dX2_canBeLeft_6 (by decide) ?_
  refine j_icmp_eq C 22 dX2_canBeLeft_7 (by decide) (fun z => ?_) (fun z => ?_)
  · replace hw := hw.1 z
    refine j_iconst C 0 dX2_canBeLeft_22 (by decide) ?_
    exact j_zretR C hR (by decide) () rfl dX2_canBeLeft_23 hw
  · replace hw := hw.2 z
    refine j_aload_n C 0 dX2_canBeLeft_10 rfl ?_
    refine j_iload_n C 1 dX2_canBeLeft_11 rfl ?_
    refine j_ciZ C (jr_V C lkV_X2_63 (c_X2_isFinished ad n0 sk ze ma ki dn wi du he yr sz a1 hw) ⟨rfl, rfl, by decide, by decide, by decide, by decide⟩ [0, 1, 2, 3, 4, 5, 6, 7, 8] (by decide) rfl (fx_ro C) 0 2 rfl rfl rfl rfl (Nat.le_of_ble_eq_true rfl) dX2_canBeLeft_12) (fun r2 u2 hw => ?_)
    refine j_if_ne C 22 dX2_canBeLeft_15 (by decide) (fun z => ?_) (fun z => ?_)
    · replace hw := hw.2 z
      refine j_iconst C 0 dX2_canBeLeft_22 (by decide) ?_
      exact j_zretR C hR (by decide) () rfl dX2_canBeLeft_23 hw
    · replace hw := hw.1 z
      refine j_iconst C 1 dX2_canBeLeft_18 (by decide) ?_
      refine j_goto C 23 dX2_canBeLeft_19 (by decide) ?_
      exact j_zretR C hR (by decide) () rfl dX2_canBeLeft_23 hw
def wp_X2_isForTheFair (dn : Nat → Int32) (wi : Nat → Int32)  (a1 : Int32) (Q : (Int32) → Prop) : Prop := vp_in a1 8 ∧ (((wi (a1.toNatClampNeg)) = (-1) → wp_X2_isFinished dn a1 (fun r2 => (r2 = 0 → Q 1) ∧ (¬ (r2 = 0) → Q 0))) ∧ (¬ ((wi (a1.toNatClampNeg)) = (-1)) → Q 0))
set_option maxRecDepth 100000 in
set_option maxHeartbeats 8000000 in
theorem c_X2_isForTheFair {l : Launch} {D : va_G} {ca : Nat → ClassId} {sd : Nat → Nat}  (ad : Nat → Nat) (n0 : Nat) (sk : Nat → Int32) (ze : Nat → Int32) (ma : Nat → Int32) (ki : Nat → Int32) (dn : Nat → Int32) (wi : Nat → Int32) (du : Nat → Int32) (he : Nat → Int32) (yr : Int32) (sz : Int32)  (a1 : Int32) {Q : (Int32) → Prop} (hw : wp_X2_isForTheFair dn wi  a1 Q) : Cn l D ca sd yX2_isForTheFair cX2_isForTheFair 2 (some .boolean) { frames := 1, cells := 0, slots := 0, locals := 21 } [.ref (ad 0), .int a1] (wC ca ad n0 sk ze ma ki dn wi du he yr sz) [] 0 0 (Ri D (fun (r : Int32) (u : Unit) => Q r ) (fun _ => [])) := by
  refine cn_ofR (by decide) (Nat.le_of_ble_eq_true rfl) (fun k C hR => ?_)
  have C : Cx D ca sd cX2_isForTheFair RX2 (some .boolean) { frames := 1, cells := 0, slots := 0, locals := 21 } k 2 := C
  unfold wp_X2_isForTheFair at hw
  show J l D k 2 0 0 0 (wC ca ad n0 sk ze ma ki dn wi du he yr sz) [(0, .ref (ad 0)), (1, .int a1)] []
  refine j_aload_n C 0 dX2_isForTheFair_0 rfl ?_
  refine j_get C fl_X2_27_2 0 dX2_isForTheFair_1 rfl rfl ?_
  refine j_iload_n C 1 dX2_isForTheFair_4 rfl ?_
  have hi1 := hw.1
  replace hw := hw.2
  refine j_iald C 6 dX2_isForTheFair_5 rfl hi1 ?_
  refine j_iconst C (-1) dX2_isForTheFair_6 (by decide) ?_
  refine j_icmp_ne C 22 dX2_isForTheFair_7 (by decide) (fun z => ?_) (fun z => ?_)
  · replace hw := hw.2 z
    refine j_iconst C 0 dX2_isForTheFair_22 (by decide) ?_
    exact j_zretR C hR (by decide) () rfl dX2_isForTheFair_23 hw
  · replace hw := hw.1 z
    refine j_aload_n C 0 dX2_isForTheFair_10 rfl ?_
    refine j_iload_n C 1 dX2_isForTheFair_11 rfl ?_
    refine j_ciZ C (jr_V C lkV_X2_63 (c_X2_isFinished ad n0 sk ze ma ki dn wi du he yr sz a1 hw) ⟨rfl, rfl, by decide, by decide, by decide, by decide⟩ [0, 1, 2, 3, 4, 5, 6, 7, 8] (by decide) rfl (fx_ro C) 0 2 rfl rfl rfl rfl (Nat.le_of_ble_eq_true rfl) dX2_isForTheFair_12) (fun r2 u2 hw => ?_)
    refine j_if_ne C 22 dX2_isForTheFair_15 (by decide) (fun z => ?_) (fun z => ?_)
    · replace hw := hw.2 z
      refine j_iconst C 0 dX2_isForTheFair_22 (by decide) ?_
      exact j_zretR C hR (by decide) () rfl dX2_isForTheFair_23 hw
    · replace hw := hw.1 z
      refine j_iconst C 1 dX2_isForTheFair_18 (by decide) ?_
      refine j_goto C 23 dX2_isForTheFair_19 (by decide) ?_
      exact j_zretR C hR (by decide) () rfl dX2_isForTheFair_23 hw
def wp_X2_letGo (ze : Nat → Int32) (wi : Nat → Int32) (du : Nat → Int32)  (a1 : Int32) (Q : (Nat → Int32) → (Nat → Int32) → (Nat → Int32) → Prop) : Prop := vp_in a1 8 ∧ (vp_in (wi (a1.toNatClampNeg)) 6 ∧ (vp_in a1 8 ∧ (vp_in a1 8 ∧ (Q (upd ze ((wi (a1.toNatClampNeg)).toNatClampNeg) 4) (upd wi (a1.toNatClampNeg) (-1)) (upd du (a1.toNatClampNeg) 0)))))
set_option maxRecDepth 100000 in
set_option maxHeartbeats 8000000 in
theorem c_X2_letGo {l : Launch} {D : va_G} {ca : Nat → ClassId} {sd : Nat → Nat}  (ad : Nat → Nat) (n0 : Nat) (sk : Nat → Int32) (ze : Nat → Int32) (ma : Nat → Int32) (ki : Nat → Int32) (dn : Nat → Int32) (wi : Nat → Int32) (du : Nat → Int32) (he : Nat → Int32) (yr : Int32) (sz : Int32)  (a1 : Int32) {Q : (Nat → Int32) → (Nat → Int32) → (Nat → Int32) → Prop} (hw : wp_X2_letGo ze wi du  a1 Q) : Cn l D ca sd yX2_letGo cX2_letGo 2 none { frames := 0, cells := 0, slots := 0, locals := 0 } [.ref (ad 0), .int a1] (wC ca ad n0 sk ze ma ki dn wi du he yr sz) (wC ca ad n0 sk ze ma ki dn wi du he yr sz) 0 0 (Rv D (fun u : (Nat → Int32) × (Nat → Int32) × (Nat → Int32) => Q u.1 u.2.1 u.2.2) (fun u => (wC ca ad n0 sk u.1 ma ki dn u.2.1 u.2.2 he yr sz))) := by
  refine cn_of (by decide) (Nat.le_of_ble_eq_true rfl) (fun k C hR hB _ => ?_)
  have C : Cx D ca sd cX2_letGo RX2 none { frames := 0, cells := 0, slots := 0, locals := 0 } k 2 := C
  unfold wp_X2_letGo at hw
  show J l D k 2 0 0 0 (wC ca ad n0 sk ze ma ki dn wi du he yr sz) [(0, .ref (ad 0)), (1, .int a1)] []
  refine j_aload_n C 0 dX2_letGo_0 rfl ?_
  refine j_get C fl_X2_15_2 0 dX2_letGo_1 rfl rfl ?_
  refine j_aload_n C 0 dX2_letGo_4 rfl ?_
  refine j_get C fl_X2_27_2 0 dX2_letGo_5 rfl rfl ?_
  refine j_iload_n C 1 dX2_letGo_8 rfl ?_
  have hi1 := hw.1
  replace hw := hw.2
  refine j_iald C 6 dX2_letGo_9 rfl hi1 ?_
  refine j_iconst C 4 dX2_letGo_10 (by decide) ?_
  have hi2 := hw.1
  replace hw := hw.2
  refine j_iast C hB 2 (wC ca ad n0 sk (upd ze ((wi (a1.toNatClampNeg)).toNatClampNeg) 4) ma ki dn wi du he yr sz) dX2_letGo_11 rfl hi2 rfl ?_
  refine j_aload_n C 0 dX2_letGo_12 rfl ?_
  refine j_get C fl_X2_27_2 0 dX2_letGo_13 rfl rfl ?_
  refine j_iload_n C 1 dX2_letGo_16 rfl ?_
  refine j_iconst C (-1) dX2_letGo_17 (by decide) ?_
  have hi3 := hw.1
  replace hw := hw.2
  refine j_iast C hB 6 (wC ca ad n0 sk (upd ze ((wi (a1.toNatClampNeg)).toNatClampNeg) 4) ma ki dn (upd wi (a1.toNatClampNeg) (-1)) du he yr sz) dX2_letGo_18 rfl hi3 rfl ?_
  refine j_aload_n C 0 dX2_letGo_19 rfl ?_
  refine j_get C fl_X2_30_2 0 dX2_letGo_20 rfl rfl ?_
  refine j_iload_n C 1 dX2_letGo_23 rfl ?_
  refine j_iconst C 0 dX2_letGo_24 (by decide) ?_
  have hi4 := hw.1
  replace hw := hw.2
  refine j_iast C hB 7 (wC ca ad n0 sk (upd ze ((wi (a1.toNatClampNeg)).toNatClampNeg) 4) ma ki dn (upd wi (a1.toNatClampNeg) (-1)) (upd du (a1.toNatClampNeg) 0) he yr sz) dX2_letGo_25 rfl hi4 rfl ?_
  exact j_vret C hB hR (upd ze ((wi (a1.toNatClampNeg)).toNatClampNeg) 4, upd wi (a1.toNatClampNeg) (-1), upd du (a1.toNatClampNeg) 0) rfl dX2_letGo_26 hw rfl
def wpl_X2_countHeld_10 (dn : Nat → Int32) (wi : Nat → Int32) (sz : Int32) (K : (Int32) → (Nat → Int32) → Prop) : Nat → (Int32) → (Nat → Int32) → Prop
  | 0, _, _ => False
  | n + 1, x1, he => (sz ≤ x1 → K x1 he) ∧ (¬ (sz ≤ x1) → wp_X2_canBeLeft dn wi x1 (fun r2 => (r2 = 0 → wpl_X2_countHeld_10 dn wi sz  K n (x1 + 1) he) ∧ (¬ (r2 = 0) → vp_in x1 8 ∧ (vp_in (wi (x1.toNatClampNeg)) 6 ∧ (vp_in (wi (x1.toNatClampNeg)) 6 ∧ (wpl_X2_countHeld_10 dn wi sz  K n (x1 + 1) (upd he ((wi (x1.toNatClampNeg)).toNatClampNeg) ((he ((wi (x1.toNatClampNeg)).toNatClampNeg)) + 1))))))))
def wp_X2_countHeld (dn : Nat → Int32) (wi : Nat → Int32) (he : Nat → Int32) (sz : Int32)   (Q : (Nat → Int32) → Prop) : Prop := wp_J7_fill_53178 he 6 0 (fun c1_0 => ∃ n6 : Nat, wpl_X2_countHeld_10 dn wi sz  (fun y6_1 y6_he => Q y6_he) n6 0 c1_0)
set_option maxRecDepth 100000 in
set_option maxHeartbeats 8000000 in
theorem ml_X2_countHeld_10 {l : Launch} {D : va_G} {ca : Nat → ClassId} {sd : Nat → Nat}  {k : Kx} (ad : Nat → Nat) (n0 : Nat)  (sk : Nat → Int32) (ze : Nat → Int32) (ma : Nat → Int32) (ki : Nat → Int32) (dn : Nat → Int32) (wi : Nat → Int32) (du : Nat → Int32) (yr : Int32) (sz : Int32) (C : Cx D ca sd cX2_countHeld RX2 none { frames := 2, cells := 0, slots := 0, locals := 42 } k 2) {Q : (Nat → Int32) → Prop} (hR : Rx (Rv D (fun u : (Nat → Int32) => Q u) (fun u => (wC ca ad n0 sk ze ma ki dn wi du u yr sz))) 0 0 k) (hB : Wx k) {K : (Int32) → (Nat → Int32) → Prop} (hK : ∀ (x1' : Int32) (he' : Nat → Int32), K x1' he' → J l D k 2 0 0 47 (wC ca ad n0 sk ze ma ki dn wi du he' yr sz) [(0, .ref (ad 0)), (1, .int x1')] []) : ∀ (n : Nat) (x1 : Int32) (he : Nat → Int32), wpl_X2_countHeld_10 dn wi sz  K n x1 he → J l D k 2 0 0 10 (wC ca ad n0 sk ze ma ki dn wi du he yr sz) [(0, .ref (ad 0)), (1, .int x1)] [] := by
  intro n
  induction n with
  | zero =>
    intro x1 he hw
    rw [wpl_X2_countHeld_10] at hw
    exact hw.elim
  | succ n ih =>
    intro x1 he hw
    rw [wpl_X2_countHeld_10] at hw
    refine j_iload_n C 1 dX2_countHeld_10 rfl ?_
    refine j_aload_n C 0 dX2_countHeld_11 rfl ?_
    refine j_get C fl_X2_56_2 0 dX2_countHeld_12 rfl rfl ?_
    refine j_icmp_ge C 47 dX2_countHeld_15 (by decide) (fun z => ?_) (fun z => ?_)
    · replace hw := hw.1 z
      exact hK x1 he hw
    · replace hw := hw.2 z
      refine j_aload_n C 0 dX2_countHeld_18 rfl ?_
      refine j_iload_n C 1 dX2_countHeld_19 rfl ?_
      refine j_ciZ C (jr_V C lkV_X2_70 (c_X2_canBeLeft ad n0 sk ze ma ki dn wi du he yr sz x1 hw) ⟨rfl, rfl, by decide, by decide, by decide, by decide⟩ [0, 1, 2, 3, 4, 5, 6, 7, 8] (by decide) rfl (fx_ro C) 0 2 rfl rfl rfl rfl (Nat.le_of_ble_eq_true rfl) dX2_countHeld_20) (fun r2 u2 hw => ?_)
      refine j_if_eq C 41 dX2_countHeld_23 (by decide) (fun z => ?_) (fun z => ?_)
      · replace hw := hw.1 z
        refine j_iinc C 1 (x1 + 1) [(1, .int (x1 + 1)), (0, .ref (ad 0))] dX2_countHeld_41 rfl rfl (by decide) rfl ?_
        refine j_goto C 10 dX2_countHeld_44 (by decide) ?_
        refine j_lsub [1, 0] [(0, .ref (ad 0)), (1, .int (x1 + 1))] rfl ?_
        exact ih (x1 + 1) he hw
      · replace hw := hw.2 z
        refine j_aload_n C 0 dX2_countHeld_26 rfl ?_
        refine j_get C fl_X2_33_2 0 dX2_countHeld_27 rfl rfl ?_
        refine j_aload_n C 0 dX2_countHeld_30 rfl ?_
        refine j_get C fl_X2_27_2 0 dX2_countHeld_31 rfl rfl ?_
        refine j_iload_n C 1 dX2_countHeld_34 rfl ?_
        have hi3 := hw.1
        replace hw := hw.2
        refine j_iald C 6 dX2_countHeld_35 rfl hi3 ?_
        refine j_dup2 C dX2_countHeld_36 rfl rfl ?_
        have hi4 := hw.1
        replace hw := hw.2
        refine j_iald C 8 dX2_countHeld_37 rfl hi4 ?_
        refine j_iconst C 1 dX2_countHeld_38 (by decide) ?_
        refine j_iadd C dX2_countHeld_39 ?_
        have hi5 := hw.1
        replace hw := hw.2
        refine j_iast C hB 8 (wC ca ad n0 sk ze ma ki dn wi du (upd he ((wi (x1.toNatClampNeg)).toNatClampNeg) ((he ((wi (x1.toNatClampNeg)).toNatClampNeg)) + 1)) yr sz) dX2_countHeld_40 rfl hi5 rfl ?_
        refine j_iinc C 1 (x1 + 1) [(1, .int (x1 + 1)), (0, .ref (ad 0))] dX2_countHeld_41 rfl rfl (by decide) rfl ?_
        refine j_goto C 10 dX2_countHeld_44 (by decide) ?_
        refine j_lsub [1, 0] [(0, .ref (ad 0)), (1, .int (x1 + 1))] rfl ?_
        exact ih (x1 + 1) (upd he ((wi (x1.toNatClampNeg)).toNatClampNeg) ((he ((wi (x1.toNatClampNeg)).toNatClampNeg)) + 1)) hw
set_option maxRecDepth 100000 in
set_option maxHeartbeats 8000000 in
theorem c_X2_countHeld {l : Launch} {D : va_G} {ca : Nat → ClassId} {sd : Nat → Nat}  (ad : Nat → Nat) (n0 : Nat) (sk : Nat → Int32) (ze : Nat → Int32) (ma : Nat → Int32) (ki : Nat → Int32) (dn : Nat → Int32) (wi : Nat → Int32) (du : Nat → Int32) (he : Nat → Int32) (yr : Int32) (sz : Int32)   {Q : (Nat → Int32) → Prop} (hw : wp_X2_countHeld dn wi he sz   Q) : Cn l D ca sd yX2_countHeld cX2_countHeld 2 none { frames := 2, cells := 0, slots := 0, locals := 42 } [.ref (ad 0)] (wC ca ad n0 sk ze ma ki dn wi du he yr sz) (wC ca ad n0 sk ze ma ki dn wi du he yr sz) 0 0 (Rv D (fun u : (Nat → Int32) => Q u) (fun u => (wC ca ad n0 sk ze ma ki dn wi du u yr sz))) := by
  refine cn_of (by decide) (Nat.le_of_ble_eq_true rfl) (fun k C hR hB _ => ?_)
  have C : Cx D ca sd cX2_countHeld RX2 none { frames := 2, cells := 0, slots := 0, locals := 42 } k 2 := C
  unfold wp_X2_countHeld at hw
  show J l D k 2 0 0 0 (wC ca ad n0 sk ze ma ki dn wi du he yr sz) [(0, .ref (ad 0))] []
  refine j_aload_n C 0 dX2_countHeld_0 rfl ?_
  refine j_get C fl_X2_33_2 0 dX2_countHeld_1 rfl rfl ?_
  refine j_iconst C 0 dX2_countHeld_4 (by decide) ?_
  refine j_cvT C hB 8 9 (fun u1 => (wC ca ad n0 sk ze ma ki dn wi du u1 yr sz)) rfl (fun _ => rfl) (jr_S C lkS_X2_40 (c_J7_fill_53178 (ad 8) 6 he 0 hw) ⟨rfl, rfl, by decide, by decide, by decide, by decide⟩ [8] (by decide) rfl (fx_rw C hB [8] rfl) rfl rfl (Nat.le_of_ble_eq_true rfl) dX2_countHeld_5) (fun u1 hw => ?_)
  refine j_iconst C 0 dX2_countHeld_8 (by decide) ?_
  refine j_istore_n C [(1, .int 0), (0, .ref (ad 0))] dX2_countHeld_9 (by decide) rfl ?_
  refine j_lsub [1, 0] [(0, .ref (ad 0)), (1, .int 0)] rfl ?_
  obtain ⟨n6, hw⟩ := hw
  refine ml_X2_countHeld_10 ad n0  sk ze ma ki dn wi du yr sz C hR hB (fun y6_1 y6_he hw => ?_) n6 0 u1 hw
  exact j_vret C hB hR y6_he rfl dX2_countHeld_47 hw rfl
def wpl_X2_finishedSet_4 (dn : Nat → Int32) (sz : Int32) (K : (Int32) → (Int32) → Prop) : Nat → (Int32) → (Int32) → Prop
  | 0, _, _ => False
  | n + 1, x1, x2 => (sz ≤ x2 → K x1 x2) ∧ (¬ (sz ≤ x2) → wp_X2_isFinished dn x2 (fun r1 => (r1 = 0 → wpl_X2_finishedSet_4 dn sz  K n x1 (x2 + 1)) ∧ (¬ (r1 = 0) → wpl_X2_finishedSet_4 dn sz  K n (x1 ||| (1 <<< (x2 &&& 31))) (x2 + 1))))
def wp_X2_finishedSet (dn : Nat → Int32) (sz : Int32)   (Q : (Int32) → Prop) : Prop := ∃ n2 : Nat, wpl_X2_finishedSet_4 dn sz  (fun y2_1 y2_2 => Q y2_1) n2 0 0
set_option maxRecDepth 100000 in
set_option maxHeartbeats 8000000 in
theorem ml_X2_finishedSet_4 {l : Launch} {D : va_G} {ca : Nat → ClassId} {sd : Nat → Nat}  {k : Kx} (ad : Nat → Nat) (n0 : Nat)  (sk : Nat → Int32) (ze : Nat → Int32) (ma : Nat → Int32) (ki : Nat → Int32) (dn : Nat → Int32) (wi : Nat → Int32) (du : Nat → Int32) (he : Nat → Int32) (yr : Int32) (sz : Int32) (C : Cx D ca sd cX2_finishedSet RX2 (some .int) { frames := 1, cells := 0, slots := 0, locals := 21 } k 3) {Q : (Int32) → Prop} (hR : Rx (Ri D (fun (r : Int32) (u : Unit) => Q r ) (fun _ => [])) 0 0 k) {K : (Int32) → (Int32) → Prop} (hK : ∀ (x1' : Int32) (x2' : Int32), K x1' x2' → J l D k 3 0 0 32 (wC ca ad n0 sk ze ma ki dn wi du he yr sz) [(0, .ref (ad 0)), (1, .int x1'), (2, .int x2')] []) : ∀ (n : Nat) (x1 : Int32) (x2 : Int32), wpl_X2_finishedSet_4 dn sz  K n x1 x2 → J l D k 3 0 0 4 (wC ca ad n0 sk ze ma ki dn wi du he yr sz) [(0, .ref (ad 0)), (1, .int x1), (2, .int x2)] [] := by
  intro n
  induction n with
  | zero =>
    intro x1 x2 hw
    rw [wpl_X2_finishedSet_4] at hw
    exact hw.elim
  | succ n ih =>
    intro x1 x2 hw
    rw [wpl_X2_finishedSet_4] at hw
    refine j_iload_n C 2 dX2_finishedSet_4 rfl ?_
    refine j_aload_n C 0 dX2_finishedSet_5 rfl ?_
    refine j_get C fl_X2_56_2 0 dX2_finishedSet_6 rfl rfl ?_
    refine j_icmp_ge C 32 dX2_finishedSet_9 (by decide) (fun z => ?_) (fun z => ?_)
    · replace hw := hw.1 z
      exact hK x1 x2 hw
    · replace hw := hw.2 z
      refine j_aload_n C 0 dX2_finishedSet_12 rfl ?_
      refine j_iload_n C 2 dX2_finishedSet_13 rfl ?_
      refine j_ciZ C (jr_V C lkV_X2_63 (c_X2_isFinished ad n0 sk ze ma ki dn wi du he yr sz x2 hw) ⟨rfl, rfl, by decide, by decide, by decide, by decide⟩ [0, 1, 2, 3, 4, 5, 6, 7, 8] (by decide) rfl (fx_ro C) 0 2 rfl rfl rfl rfl (Nat.le_of_ble_eq_true rfl) dX2_finishedSet_14) (fun r1 u1 hw => ?_)
      refine j_if_eq C 26 dX2_finishedSet_17 (by decide) (fun z => ?_) (fun z => ?_)
      · replace hw := hw.1 z
        refine j_iinc C 2 (x2 + 1) [(2, .int (x2 + 1)), (0, .ref (ad 0)), (1, .int x1)] dX2_finishedSet_26 rfl rfl (by decide) rfl ?_
        refine j_goto C 4 dX2_finishedSet_29 (by decide) ?_
        refine j_lsub [1, 2, 0] [(0, .ref (ad 0)), (1, .int x1), (2, .int (x2 + 1))] rfl ?_
        exact ih x1 (x2 + 1) hw
      · replace hw := hw.2 z
        refine j_iload_n C 1 dX2_finishedSet_20 rfl ?_
        refine j_iconst C 1 dX2_finishedSet_21 (by decide) ?_
        refine j_iload_n C 2 dX2_finishedSet_22 rfl ?_
        refine j_ishl C dX2_finishedSet_23 ?_
        refine j_ior C dX2_finishedSet_24 ?_
        refine j_istore_n C [(1, .int (x1 ||| (1 <<< (x2 &&& 31)))), (0, .ref (ad 0)), (2, .int x2)] dX2_finishedSet_25 (by decide) rfl ?_
        refine j_iinc C 2 (x2 + 1) [(2, .int (x2 + 1)), (1, .int (x1 ||| (1 <<< (x2 &&& 31)))), (0, .ref (ad 0))] dX2_finishedSet_26 rfl rfl (by decide) rfl ?_
        refine j_goto C 4 dX2_finishedSet_29 (by decide) ?_
        refine j_lsub [2, 1, 0] [(0, .ref (ad 0)), (1, .int (x1 ||| (1 <<< (x2 &&& 31)))), (2, .int (x2 + 1))] rfl ?_
        exact ih (x1 ||| (1 <<< (x2 &&& 31))) (x2 + 1) hw
set_option maxRecDepth 100000 in
set_option maxHeartbeats 8000000 in
theorem c_X2_finishedSet {l : Launch} {D : va_G} {ca : Nat → ClassId} {sd : Nat → Nat}  (ad : Nat → Nat) (n0 : Nat) (sk : Nat → Int32) (ze : Nat → Int32) (ma : Nat → Int32) (ki : Nat → Int32) (dn : Nat → Int32) (wi : Nat → Int32) (du : Nat → Int32) (he : Nat → Int32) (yr : Int32) (sz : Int32)   {Q : (Int32) → Prop} (hw : wp_X2_finishedSet dn sz   Q) : Cn l D ca sd yX2_finishedSet cX2_finishedSet 3 (some .int) { frames := 1, cells := 0, slots := 0, locals := 21 } [.ref (ad 0)] (wC ca ad n0 sk ze ma ki dn wi du he yr sz) [] 0 0 (Ri D (fun (r : Int32) (u : Unit) => Q r ) (fun _ => [])) := by
  refine cn_ofR (by decide) (Nat.le_of_ble_eq_true rfl) (fun k C hR => ?_)
  have C : Cx D ca sd cX2_finishedSet RX2 (some .int) { frames := 1, cells := 0, slots := 0, locals := 21 } k 3 := C
  unfold wp_X2_finishedSet at hw
  show J l D k 3 0 0 0 (wC ca ad n0 sk ze ma ki dn wi du he yr sz) [(0, .ref (ad 0))] []
  refine j_iconst C 0 dX2_finishedSet_0 (by decide) ?_
  refine j_istore_n C [(1, .int 0), (0, .ref (ad 0))] dX2_finishedSet_1 (by decide) rfl ?_
  refine j_iconst C 0 dX2_finishedSet_2 (by decide) ?_
  refine j_istore_n C [(2, .int 0), (1, .int 0), (0, .ref (ad 0))] dX2_finishedSet_3 (by decide) rfl ?_
  refine j_lsub [2, 1, 0] [(0, .ref (ad 0)), (1, .int 0), (2, .int 0)] rfl ?_
  obtain ⟨n2, hw⟩ := hw
  refine ml_X2_finishedSet_4 ad n0  sk ze ma ki dn wi du he yr sz C hR (fun y2_1 y2_2 hw => ?_) n2 0 0 hw
  refine j_iload_n C 1 dX2_finishedSet_32 rfl ?_
  exact j_iretR C hR () rfl dX2_finishedSet_33 hw
def wp_X2_isAllFinished (dn : Nat → Int32) (sz : Int32)   (Q : (Int32) → Prop) : Prop := wp_X2_finishedSet dn sz (fun r1 => (r1 = ((1 <<< (sz &&& 31)) - 1) → Q 1) ∧ (¬ (r1 = ((1 <<< (sz &&& 31)) - 1)) → Q 0))
set_option maxRecDepth 100000 in
set_option maxHeartbeats 8000000 in
theorem c_X2_isAllFinished {l : Launch} {D : va_G} {ca : Nat → ClassId} {sd : Nat → Nat}  (ad : Nat → Nat) (n0 : Nat) (sk : Nat → Int32) (ze : Nat → Int32) (ma : Nat → Int32) (ki : Nat → Int32) (dn : Nat → Int32) (wi : Nat → Int32) (du : Nat → Int32) (he : Nat → Int32) (yr : Int32) (sz : Int32)   {Q : (Int32) → Prop} (hw : wp_X2_isAllFinished dn sz   Q) : Cn l D ca sd yX2_isAllFinished cX2_isAllFinished 1 (some .boolean) { frames := 2, cells := 0, slots := 0, locals := 43 } [.ref (ad 0)] (wC ca ad n0 sk ze ma ki dn wi du he yr sz) [] 0 0 (Ri D (fun (r : Int32) (u : Unit) => Q r ) (fun _ => [])) := by
  refine cn_ofR (by decide) (Nat.le_of_ble_eq_true rfl) (fun k C hR => ?_)
  have C : Cx D ca sd cX2_isAllFinished RX2 (some .boolean) { frames := 2, cells := 0, slots := 0, locals := 43 } k 1 := C
  unfold wp_X2_isAllFinished at hw
  show J l D k 1 0 0 0 (wC ca ad n0 sk ze ma ki dn wi du he yr sz) [(0, .ref (ad 0))] []
  refine j_aload_n C 0 dX2_isAllFinished_0 rfl ?_
  refine j_ciZ C (jr_V C lkV_X2_119 (c_X2_finishedSet ad n0 sk ze ma ki dn wi du he yr sz hw) ⟨rfl, rfl, by decide, by decide, by decide, by decide⟩ [0, 1, 2, 3, 4, 5, 6, 7, 8] (by decide) rfl (fx_ro C) 0 2 rfl rfl rfl rfl (Nat.le_of_ble_eq_true rfl) dX2_isAllFinished_1) (fun r1 u1 hw => ?_)
  refine j_iconst C 1 dX2_isAllFinished_4 (by decide) ?_
  refine j_aload_n C 0 dX2_isAllFinished_5 rfl ?_
  refine j_get C fl_X2_56_2 0 dX2_isAllFinished_6 rfl rfl ?_
  refine j_ishl C dX2_isAllFinished_9 ?_
  refine j_iconst C 1 dX2_isAllFinished_10 (by decide) ?_
  refine j_isub C dX2_isAllFinished_11 ?_
  refine j_icmp_ne C 19 dX2_isAllFinished_12 (by decide) (fun z => ?_) (fun z => ?_)
  · replace hw := hw.2 z
    refine j_iconst C 0 dX2_isAllFinished_19 (by decide) ?_
    exact j_zretR C hR (by decide) () rfl dX2_isAllFinished_20 hw
  · replace hw := hw.1 z
    refine j_iconst C 1 dX2_isAllFinished_15 (by decide) ?_
    refine j_goto C 20 dX2_isAllFinished_16 (by decide) ?_
    exact j_zretR C hR (by decide) () rfl dX2_isAllFinished_20 hw
def wpl_X2_heldSet_4 (wi : Nat → Int32) (sz : Int32) (x1 : Int32) (K : (Int32) → (Int32) → Prop) : Nat → (Int32) → (Int32) → Prop
  | 0, _, _ => False
  | n + 1, x2, x3 => (sz ≤ x3 → K x2 x3) ∧ (¬ (sz ≤ x3) → vp_in x3 8 ∧ (((wi (x3.toNatClampNeg)) = x1 → wpl_X2_heldSet_4 wi sz x1  K n (x2 ||| (1 <<< (x3 &&& 31))) (x3 + 1)) ∧ (¬ ((wi (x3.toNatClampNeg)) = x1) → wpl_X2_heldSet_4 wi sz x1  K n x2 (x3 + 1))))
def wp_X2_heldSet (wi : Nat → Int32) (sz : Int32)  (a1 : Int32) (Q : (Int32) → Prop) : Prop := ∃ n2 : Nat, wpl_X2_heldSet_4 wi sz a1  (fun y2_2 y2_3 => Q y2_2) n2 0 0
set_option maxRecDepth 100000 in
set_option maxHeartbeats 8000000 in
theorem ml_X2_heldSet_4 {l : Launch} {D : va_G} {ca : Nat → ClassId} {sd : Nat → Nat}  {k : Kx} (ad : Nat → Nat) (n0 : Nat)  (sk : Nat → Int32) (ze : Nat → Int32) (ma : Nat → Int32) (ki : Nat → Int32) (dn : Nat → Int32) (wi : Nat → Int32) (du : Nat → Int32) (he : Nat → Int32) (yr : Int32) (sz : Int32) (x1 : Int32) (C : Cx D ca sd cX2_heldSet RX2 (some .int) { frames := 0, cells := 0, slots := 0, locals := 0 } k 4) {Q : (Int32) → Prop} (hR : Rx (Ri D (fun (r : Int32) (u : Unit) => Q r ) (fun _ => [])) 0 0 k) {K : (Int32) → (Int32) → Prop} (hK : ∀ (x2' : Int32) (x3' : Int32), K x2' x3' → J l D k 4 0 0 34 (wC ca ad n0 sk ze ma ki dn wi du he yr sz) [(0, .ref (ad 0)), (1, .int x1), (2, .int x2'), (3, .int x3')] []) : ∀ (n : Nat) (x2 : Int32) (x3 : Int32), wpl_X2_heldSet_4 wi sz x1  K n x2 x3 → J l D k 4 0 0 4 (wC ca ad n0 sk ze ma ki dn wi du he yr sz) [(0, .ref (ad 0)), (1, .int x1), (2, .int x2), (3, .int x3)] [] := by
  intro n
  induction n with
  | zero =>
    intro x2 x3 hw
    rw [wpl_X2_heldSet_4] at hw
    exact hw.elim
  | succ n ih =>
    intro x2 x3 hw
    rw [wpl_X2_heldSet_4] at hw
    refine j_iload_n C 3 dX2_heldSet_4 rfl ?_
    refine j_aload_n C 0 dX2_heldSet_5 rfl ?_
    refine j_get C fl_X2_56_2 0 dX2_heldSet_6 rfl rfl ?_
    refine j_icmp_ge C 34 dX2_heldSet_9 (by decide) (fun z => ?_) (fun z => ?_)
    · replace hw := hw.1 z
      exact hK x2 x3 hw
    · replace hw := hw.2 z
      refine j_aload_n C 0 dX2_heldSet_12 rfl ?_
      refine j_get C fl_X2_27_2 0 dX2_heldSet_13 rfl rfl ?_
      refine j_iload_n C 3 dX2_heldSet_16 rfl ?_
      have hi1 := hw.1
      replace hw := hw.2
      refine j_iald C 6 dX2_heldSet_17 rfl hi1 ?_
      refine j_iload_n C 1 dX2_heldSet_18 rfl ?_
      refine j_icmp_ne C 28 dX2_heldSet_19 (by decide) (fun z => ?_) (fun z => ?_)
      · replace hw := hw.2 z
        refine j_iinc C 3 (x3 + 1) [(3, .int (x3 + 1)), (0, .ref (ad 0)), (1, .int x1), (2, .int x2)] dX2_heldSet_28 rfl rfl (by decide) rfl ?_
        refine j_goto C 4 dX2_heldSet_31 (by decide) ?_
        refine j_lsub [1, 2, 3, 0] [(0, .ref (ad 0)), (1, .int x1), (2, .int x2), (3, .int (x3 + 1))] rfl ?_
        exact ih x2 (x3 + 1) hw
      · replace hw := hw.1 z
        refine j_iload_n C 2 dX2_heldSet_22 rfl ?_
        refine j_iconst C 1 dX2_heldSet_23 (by decide) ?_
        refine j_iload_n C 3 dX2_heldSet_24 rfl ?_
        refine j_ishl C dX2_heldSet_25 ?_
        refine j_ior C dX2_heldSet_26 ?_
        refine j_istore_n C [(2, .int (x2 ||| (1 <<< (x3 &&& 31)))), (0, .ref (ad 0)), (1, .int x1), (3, .int x3)] dX2_heldSet_27 (by decide) rfl ?_
        refine j_iinc C 3 (x3 + 1) [(3, .int (x3 + 1)), (2, .int (x2 ||| (1 <<< (x3 &&& 31)))), (0, .ref (ad 0)), (1, .int x1)] dX2_heldSet_28 rfl rfl (by decide) rfl ?_
        refine j_goto C 4 dX2_heldSet_31 (by decide) ?_
        refine j_lsub [2, 3, 1, 0] [(0, .ref (ad 0)), (1, .int x1), (2, .int (x2 ||| (1 <<< (x3 &&& 31)))), (3, .int (x3 + 1))] rfl ?_
        exact ih (x2 ||| (1 <<< (x3 &&& 31))) (x3 + 1) hw
set_option maxRecDepth 100000 in
set_option maxHeartbeats 8000000 in
theorem c_X2_heldSet {l : Launch} {D : va_G} {ca : Nat → ClassId} {sd : Nat → Nat}  (ad : Nat → Nat) (n0 : Nat) (sk : Nat → Int32) (ze : Nat → Int32) (ma : Nat → Int32) (ki : Nat → Int32) (dn : Nat → Int32) (wi : Nat → Int32) (du : Nat → Int32) (he : Nat → Int32) (yr : Int32) (sz : Int32)  (a1 : Int32) {Q : (Int32) → Prop} (hw : wp_X2_heldSet wi sz  a1 Q) : Cn l D ca sd yX2_heldSet cX2_heldSet 4 (some .int) { frames := 0, cells := 0, slots := 0, locals := 0 } [.ref (ad 0), .int a1] (wC ca ad n0 sk ze ma ki dn wi du he yr sz) [] 0 0 (Ri D (fun (r : Int32) (u : Unit) => Q r ) (fun _ => [])) := by
  refine cn_ofR (by decide) (Nat.le_of_ble_eq_true rfl) (fun k C hR => ?_)
  have C : Cx D ca sd cX2_heldSet RX2 (some .int) { frames := 0, cells := 0, slots := 0, locals := 0 } k 4 := C
  unfold wp_X2_heldSet at hw
  show J l D k 4 0 0 0 (wC ca ad n0 sk ze ma ki dn wi du he yr sz) [(0, .ref (ad 0)), (1, .int a1)] []
  refine j_iconst C 0 dX2_heldSet_0 (by decide) ?_
  refine j_istore_n C [(2, .int 0), (0, .ref (ad 0)), (1, .int a1)] dX2_heldSet_1 (by decide) rfl ?_
  refine j_iconst C 0 dX2_heldSet_2 (by decide) ?_
  refine j_istore_n C [(3, .int 0), (2, .int 0), (0, .ref (ad 0)), (1, .int a1)] dX2_heldSet_3 (by decide) rfl ?_
  refine j_lsub [2, 3, 1, 0] [(0, .ref (ad 0)), (1, .int a1), (2, .int 0), (3, .int 0)] rfl ?_
  obtain ⟨n2, hw⟩ := hw
  refine ml_X2_heldSet_4 ad n0  sk ze ma ki dn wi du he yr sz a1 C hR (fun y2_2 y2_3 hw => ?_) n2 0 0 hw
  refine j_iload_n C 2 dX2_heldSet_34 rfl ?_
  exact j_iretR C hR () rfl dX2_heldSet_35 hw
def wp_X2_doneOfAll (dn : Nat → Int32) (sz : Int32)   (Q : (Int32) → Prop) : Prop := wp_X9_sum dn 8 sz (fun r1 => Q r1)
set_option maxRecDepth 100000 in
set_option maxHeartbeats 8000000 in
theorem c_X2_doneOfAll {l : Launch} {D : va_G} {ca : Nat → ClassId} {sd : Nat → Nat}  (ad : Nat → Nat) (n0 : Nat) (sk : Nat → Int32) (ze : Nat → Int32) (ma : Nat → Int32) (ki : Nat → Int32) (dn : Nat → Int32) (wi : Nat → Int32) (du : Nat → Int32) (he : Nat → Int32) (yr : Int32) (sz : Int32)   {Q : (Int32) → Prop} (hw : wp_X2_doneOfAll dn sz   Q) : Cn l D ca sd yX2_doneOfAll cX2_doneOfAll 1 (some .int) { frames := 1, cells := 0, slots := 0, locals := 23 } [.ref (ad 0)] (wC ca ad n0 sk ze ma ki dn wi du he yr sz) [] 0 0 (Ri D (fun (r : Int32) (u : Unit) => Q r ) (fun _ => [])) := by
  refine cn_ofR (by decide) (Nat.le_of_ble_eq_true rfl) (fun k C hR => ?_)
  have C : Cx D ca sd cX2_doneOfAll RX2 (some .int) { frames := 1, cells := 0, slots := 0, locals := 23 } k 1 := C
  unfold wp_X2_doneOfAll at hw
  show J l D k 1 0 0 0 (wC ca ad n0 sk ze ma ki dn wi du he yr sz) [(0, .ref (ad 0))] []
  refine j_aload_n C 0 dX2_doneOfAll_0 rfl ?_
  refine j_get C fl_X2_24_2 0 dX2_doneOfAll_1 rfl rfl ?_
  refine j_aload_n C 0 dX2_doneOfAll_4 rfl ?_
  refine j_get C fl_X2_56_2 0 dX2_doneOfAll_5 rfl rfl ?_
  refine j_ciZ C (jr_SN C (host := "UnfinishedFair") (by decide +kernel) lkSN_X2_122 (c_X9_sum (ad 5) 8 dn sz hw) ⟨rfl, rfl, by decide, by decide, by decide, by decide⟩ [5] (by decide) rfl (fx_ro C) rfl rfl (Nat.le_of_ble_eq_true rfl) dX2_doneOfAll_8) (fun r1 u1 hw => ?_)
  exact j_iretR C hR () rfl dX2_doneOfAll_11 hw
def wp_X2_dustOfAll (du : Nat → Int32) (sz : Int32)   (Q : (Int32) → Prop) : Prop := wp_X9_sum du 8 sz (fun r1 => Q r1)
set_option maxRecDepth 100000 in
set_option maxHeartbeats 8000000 in
theorem c_X2_dustOfAll {l : Launch} {D : va_G} {ca : Nat → ClassId} {sd : Nat → Nat}  (ad : Nat → Nat) (n0 : Nat) (sk : Nat → Int32) (ze : Nat → Int32) (ma : Nat → Int32) (ki : Nat → Int32) (dn : Nat → Int32) (wi : Nat → Int32) (du : Nat → Int32) (he : Nat → Int32) (yr : Int32) (sz : Int32)   {Q : (Int32) → Prop} (hw : wp_X2_dustOfAll du sz   Q) : Cn l D ca sd yX2_dustOfAll cX2_dustOfAll 1 (some .int) { frames := 1, cells := 0, slots := 0, locals := 23 } [.ref (ad 0)] (wC ca ad n0 sk ze ma ki dn wi du he yr sz) [] 0 0 (Ri D (fun (r : Int32) (u : Unit) => Q r ) (fun _ => [])) := by
  refine cn_ofR (by decide) (Nat.le_of_ble_eq_true rfl) (fun k C hR => ?_)
  have C : Cx D ca sd cX2_dustOfAll RX2 (some .int) { frames := 1, cells := 0, slots := 0, locals := 23 } k 1 := C
  unfold wp_X2_dustOfAll at hw
  show J l D k 1 0 0 0 (wC ca ad n0 sk ze ma ki dn wi du he yr sz) [(0, .ref (ad 0))] []
  refine j_aload_n C 0 dX2_dustOfAll_0 rfl ?_
  refine j_get C fl_X2_30_2 0 dX2_dustOfAll_1 rfl rfl ?_
  refine j_aload_n C 0 dX2_dustOfAll_4 rfl ?_
  refine j_get C fl_X2_56_2 0 dX2_dustOfAll_5 rfl rfl ?_
  refine j_ciZ C (jr_SN C (host := "UnfinishedFair") (by decide +kernel) lkSN_X2_122 (c_X9_sum (ad 7) 8 du sz hw) ⟨rfl, rfl, by decide, by decide, by decide, by decide⟩ [7] (by decide) rfl (fx_ro C) rfl rfl (Nat.le_of_ble_eq_true rfl) dX2_dustOfAll_8) (fun r1 u1 hw => ?_)
  exact j_iretR C hR () rfl dX2_dustOfAll_11 hw
def wp_X2_madeOfAll (ma : Nat → Int32)   (Q : (Int32) → Prop) : Prop := wp_X9_sum ma 6 6 (fun r1 => Q r1)
set_option maxRecDepth 100000 in
set_option maxHeartbeats 8000000 in
theorem c_X2_madeOfAll {l : Launch} {D : va_G} {ca : Nat → ClassId} {sd : Nat → Nat}  (ad : Nat → Nat) (n0 : Nat) (sk : Nat → Int32) (ze : Nat → Int32) (ma : Nat → Int32) (ki : Nat → Int32) (dn : Nat → Int32) (wi : Nat → Int32) (du : Nat → Int32) (he : Nat → Int32) (yr : Int32) (sz : Int32)   {Q : (Int32) → Prop} (hw : wp_X2_madeOfAll ma   Q) : Cn l D ca sd yX2_madeOfAll cX2_madeOfAll 1 (some .int) { frames := 1, cells := 0, slots := 0, locals := 23 } [.ref (ad 0)] (wC ca ad n0 sk ze ma ki dn wi du he yr sz) [] 0 0 (Ri D (fun (r : Int32) (u : Unit) => Q r ) (fun _ => [])) := by
  refine cn_ofR (by decide) (Nat.le_of_ble_eq_true rfl) (fun k C hR => ?_)
  have C : Cx D ca sd cX2_madeOfAll RX2 (some .int) { frames := 1, cells := 0, slots := 0, locals := 23 } k 1 := C
  unfold wp_X2_madeOfAll at hw
  show J l D k 1 0 0 0 (wC ca ad n0 sk ze ma ki dn wi du he yr sz) [(0, .ref (ad 0))] []
  refine j_aload_n C 0 dX2_madeOfAll_0 rfl ?_
  refine j_get C fl_X2_18_2 0 dX2_madeOfAll_1 rfl rfl ?_
  refine j_bipush C 6 dX2_madeOfAll_4 (by decide) ?_
  refine j_ciZ C (jr_SN C (host := "UnfinishedFair") (by decide +kernel) lkSN_X2_122 (c_X9_sum (ad 3) 6 ma 6 hw) ⟨rfl, rfl, by decide, by decide, by decide, by decide⟩ [3] (by decide) rfl (fx_ro C) rfl rfl (Nat.le_of_ble_eq_true rfl) dX2_madeOfAll_6) (fun r1 u1 hw => ?_)
  exact j_iretR C hR () rfl dX2_madeOfAll_9 hw
def wp_X2_natureOf (ki : Nat → Int32)  (a1 : Int32) (Q : (Nat) → Prop) : Prop := vp_in a1 8 ∧ (vp_in (ki (a1.toNatClampNeg)) 6 ∧ (Q ((ki (a1.toNatClampNeg)).toNatClampNeg)))
set_option maxRecDepth 100000 in
set_option maxHeartbeats 8000000 in
theorem c_X2_natureOf {l : Launch} {D : va_G} {ca : Nat → ClassId} {sd : Nat → Nat}  (nd : Nat → Nat) (ad : Nat → Nat) (sk : Nat → Int32) (ze : Nat → Int32) (ma : Nat → Int32) (ki : Nat → Int32) (dn : Nat → Int32) (wi : Nat → Int32) (du : Nat → Int32) (he : Nat → Int32) (yr : Int32) (sz : Int32)  (a1 : Int32) {Q : (Nat) → Prop} (hw : wp_X2_natureOf ki  a1 Q) : Cn l D ca sd yX2_natureOf cX2_natureOf 2 (some (.object "UnfinishedFair$Kind")) { frames := 0, cells := 0, slots := 0, locals := 0 } [.ref (ad 0), .int a1] ((wN ca nd sd) ++ (wC ca ad (nd 0) sk ze ma ki dn wi du he yr sz)) [] 0 0 (Rr D (fun u : Nat => Q u) (fun u => nd (u + 1)) (fun _ => [])) := by
  refine cn_ofR (by decide) (Nat.le_of_ble_eq_true rfl) (fun k C hR => ?_)
  have C : Cx D ca sd cX2_natureOf RX2 (some (.object "UnfinishedFair$Kind")) { frames := 0, cells := 0, slots := 0, locals := 0 } k 2 := C
  unfold wp_X2_natureOf at hw
  show J l D k 2 0 0 0 ((wN ca nd sd) ++ (wC ca ad (nd 0) sk ze ma ki dn wi du he yr sz)) [(0, .ref (ad 0)), (1, .int a1)] []
  refine j_aload_n C 0 dX2_natureOf_0 rfl ?_
  refine j_get C fl_X2_36_2 7 dX2_natureOf_1 rfl rfl ?_
  refine j_aload_n C 0 dX2_natureOf_4 rfl ?_
  refine j_get C fl_X2_21_2 7 dX2_natureOf_5 rfl rfl ?_
  refine j_iload_n C 1 dX2_natureOf_8 rfl ?_
  have hi1 := hw.1
  replace hw := hw.2
  refine j_iald C 11 dX2_natureOf_9 rfl hi1 ?_
  have hi2 := hw.1
  replace hw := hw.2
  refine j_aald C (E := "UnfinishedFair$Kind") 0 dX2_natureOf_10 rfl rfl hi2 rfl ?_
  exact j_aretR C hR ((ki (a1.toNatClampNeg)).toNatClampNeg) rfl dX2_natureOf_11 hw rfl
def wpl_X2_takerOf_30 (sk : Nat → Int32) (he : Nat → Int32) (kk2 : Nat) (x3 : Int32) (x4 : Int32) (K : (Int32) → (Int32) → (Int32) → Prop) : Nat → (Int32) → (Int32) → (Int32) → Prop
  | 0, _, _, _ => False
  | n + 1, x5, x6, x7 => (6 ≤ x7 → K x5 x6 x7) ∧ (¬ (6 ≤ x7) → vp_in x7 6 ∧ ((2 ≤ (he (x7.toNatClampNeg)) → ((-1) ≤ x6 → wpl_X2_takerOf_30 sk he kk2 x3 x4  K n x5 x6 (x7 + 1)) ∧ (¬ ((-1) ≤ x6) → wpl_X2_takerOf_30 sk he kk2 x3 x4  K n x7 (-1) (x7 + 1))) ∧ (¬ (2 ≤ (he (x7.toNatClampNeg))) → vp_in x7 6 ∧ (wpv_bid kk2 (sk (x7.toNatClampNeg)) x3 x4 (fun r6 => (r6 ≤ x6 → wpl_X2_takerOf_30 sk he kk2 x3 x4  K n x5 x6 (x7 + 1)) ∧ (¬ (r6 ≤ x6) → wpl_X2_takerOf_30 sk he kk2 x3 x4  K n x7 r6 (x7 + 1)))))))
def wp_X2_takerOf (sk : Nat → Int32) (ki : Nat → Int32) (dn : Nat → Int32) (du : Nat → Int32) (he : Nat → Int32)  (a1 : Int32) (Q : (Int32) → Prop) : Prop := wp_X2_natureOf ki a1 (fun c1_0 => vp_in a1 8 ∧ (vp_in a1 8 ∧ (∃ n7 : Nat, wpl_X2_takerOf_30 sk he c1_0 (dn (a1.toNatClampNeg)) (du (a1.toNatClampNeg))  (fun y7_5 y7_6 y7_7 => wpv_asked c1_0 (dn (a1.toNatClampNeg)) (du (a1.toNatClampNeg)) (fun r8 => (y7_6 < r8 → Q (-1)) ∧ (¬ (y7_6 < r8) → Q y7_5))) n7 (-1) (-1) 0)))
set_option maxRecDepth 100000 in
set_option maxHeartbeats 8000000 in
theorem ml_X2_takerOf_30 {l : Launch} {D : va_G} {ca : Nat → ClassId} {sd : Nat → Nat}  {k : Kx} (nd : Nat → Nat) (ad : Nat → Nat)  (sk : Nat → Int32) (ze : Nat → Int32) (ma : Nat → Int32) (ki : Nat → Int32) (dn : Nat → Int32) (wi : Nat → Int32) (du : Nat → Int32) (he : Nat → Int32) (yr : Int32) (sz : Int32) (x1 : Int32) (kk2 : Nat) (x3 : Int32) (x4 : Int32) (C : Cx D ca sd cX2_takerOf RX2 (some .int) { frames := 4, cells := 0, slots := 0, locals := 110 } k 9) {Q : (Int32) → Prop} (hR : Rx (Ri D (fun (r : Int32) (u : Unit) => Q r ) (fun _ => [])) 0 0 k) {K : (Int32) → (Int32) → (Int32) → Prop} (hK : ∀ (x5' : Int32) (x6' : Int32) (x7' : Int32), K x5' x6' x7' → J l D k 9 0 0 89 ((wN ca nd sd) ++ (wC ca ad (nd 0) sk ze ma ki dn wi du he yr sz)) [(0, .ref (ad 0)), (1, .int x1), (2, .ref (nd (kk2 + 1))), (3, .int x3), (4, .int x4), (5, .int x5'), (6, .int x6'), (7, .int x7')] []) : ∀ (n : Nat) (x5 : Int32) (x6 : Int32) (x7 : Int32), wpl_X2_takerOf_30 sk he kk2 x3 x4  K n x5 x6 x7 → J l D k 9 0 0 30 ((wN ca nd sd) ++ (wC ca ad (nd 0) sk ze ma ki dn wi du he yr sz)) [(0, .ref (ad 0)), (1, .int x1), (2, .ref (nd (kk2 + 1))), (3, .int x3), (4, .int x4), (5, .int x5), (6, .int x6), (7, .int x7)] [] := by
  intro n
  induction n with
  | zero =>
    intro x5 x6 x7 hw
    rw [wpl_X2_takerOf_30] at hw
    exact hw.elim
  | succ n ih =>
    intro x5 x6 x7 hw
    rw [wpl_X2_takerOf_30] at hw
    refine j_iload C 7 dX2_takerOf_30 rfl ?_
    refine j_bipush C 6 dX2_takerOf_32 (by decide) ?_
    refine j_icmp_ge C 89 dX2_takerOf_34 (by decide) (fun z => ?_) (fun z => ?_)
    · replace hw := hw.1 z
      exact hK x5 x6 x7 hw
    · replace hw := hw.2 z
      refine j_aload_n C 0 dX2_takerOf_37 rfl ?_
      refine j_get C fl_X2_33_2 7 dX2_takerOf_38 rfl rfl ?_
      refine j_iload C 7 dX2_takerOf_41 rfl ?_
      have hi4 := hw.1
      replace hw := hw.2
      refine j_iald C 15 dX2_takerOf_43 rfl hi4 ?_
      refine j_iconst C 2 dX2_takerOf_44 (by decide) ?_
      refine j_icmp_ge C 65 dX2_takerOf_45 (by decide) (fun z => ?_) (fun z => ?_)
      · replace hw := hw.1 z
        refine j_iconst C (-1) dX2_takerOf_65 (by decide) ?_
        refine j_istore C [(8, .int (-1)), (0, .ref (ad 0)), (1, .int x1), (2, .ref (nd (kk2 + 1))), (3, .int x3), (4, .int x4), (5, .int x5), (6, .int x6), (7, .int x7)] dX2_takerOf_66 (by decide) rfl ?_
        refine j_iload C 0 dX2_takerOf_68 rfl ?_
        refine j_iload C 7 dX2_takerOf_70 rfl ?_
        refine j_icmp_le C 83 dX2_takerOf_72 (by decide) (fun z => ?_) (fun z => ?_)
        · replace hw := hw.1 z
          refine j_iinc C 8 (x7 + 1) [(7, .int (x7 + 1)), (8, .int (-1)), (0, .ref (ad 0)), (1, .int x1), (2, .ref (nd (kk2 + 1))), (3, .int x3), (4, .int x4), (5, .int x5), (6, .int x6)] dX2_takerOf_83 rfl rfl (by decide) rfl ?_
          refine j_goto C 30 dX2_takerOf_86 (by decide) ?_
          refine j_lsub [2, 3, 4, 5, 6, 7, 8, 0] [(0, .ref (ad 0)), (1, .int x1), (2, .ref (nd (kk2 + 1))), (3, .int x3), (4, .int x4), (5, .int x5), (6, .int x6), (7, .int (x7 + 1))] rfl ?_
          exact ih x5 x6 (x7 + 1) hw
        · replace hw := hw.2 z
          refine j_iload C 8 dX2_takerOf_75 rfl ?_
          refine j_istore C [(5, .int x7), (8, .int (-1)), (0, .ref (ad 0)), (1, .int x1), (2, .ref (nd (kk2 + 1))), (3, .int x3), (4, .int x4), (6, .int x6), (7, .int x7)] dX2_takerOf_77 (by decide) rfl ?_
          refine j_iload C 1 dX2_takerOf_79 rfl ?_
          refine j_istore C [(6, .int (-1)), (5, .int x7), (8, .int (-1)), (0, .ref (ad 0)), (1, .int x1), (2, .ref (nd (kk2 + 1))), (3, .int x3), (4, .int x4), (7, .int x7)] dX2_takerOf_81 (by decide) rfl ?_
          refine j_iinc C 8 (x7 + 1) [(7, .int (x7 + 1)), (6, .int (-1)), (5, .int x7), (8, .int (-1)), (0, .ref (ad 0)), (1, .int x1), (2, .ref (nd (kk2 + 1))), (3, .int x3), (4, .int x4)] dX2_takerOf_83 rfl rfl (by decide) rfl ?_
          refine j_goto C 30 dX2_takerOf_86 (by decide) ?_
          refine j_lsub [4, 5, 6, 7, 8, 2, 1, 0] [(0, .ref (ad 0)), (1, .int x1), (2, .ref (nd (kk2 + 1))), (3, .int x3), (4, .int x4), (5, .int x7), (6, .int (-1)), (7, .int (x7 + 1))] rfl ?_
          exact ih x7 (-1) (x7 + 1) hw
      · replace hw := hw.2 z
        refine j_aload_n C 2 dX2_takerOf_48 rfl ?_
        refine j_aload_n C 0 dX2_takerOf_49 rfl ?_
        refine j_get C fl_X2_9_2 7 dX2_takerOf_50 rfl rfl ?_
        refine j_iload C 7 dX2_takerOf_53 rfl ?_
        have hi5 := hw.1
        replace hw := hw.2
        refine j_iald C 8 dX2_takerOf_55 rfl hi5 ?_
        refine j_iload_n C 3 dX2_takerOf_56 rfl ?_
        refine j_iload C 4 dX2_takerOf_57 rfl ?_
        refine j_ciZ C (jk_X2_113 C nd 1 kk2 (sk (x7.toNatClampNeg)) x3 x4 _ hw (by intro j hj; match j, hj with | 0, _ => rfl | 1, _ => rfl | 2, _ => rfl | 3, _ => rfl | 4, _ => rfl | 5, _ => rfl) (by decide) (by decide) (Nat.le_of_ble_eq_true rfl) dX2_takerOf_59) (fun r6 u6 hw => ?_)
        refine j_goto C 66 dX2_takerOf_62 (by decide) ?_
        refine j_istore C [(8, .int r6), (0, .ref (ad 0)), (1, .int x1), (2, .ref (nd (kk2 + 1))), (3, .int x3), (4, .int x4), (5, .int x5), (6, .int x6), (7, .int x7)] dX2_takerOf_66 (by decide) rfl ?_
        refine j_iload C 0 dX2_takerOf_68 rfl ?_
        refine j_iload C 7 dX2_takerOf_70 rfl ?_
        refine j_icmp_le C 83 dX2_takerOf_72 (by decide) (fun z => ?_) (fun z => ?_)
        · replace hw := hw.1 z
          refine j_iinc C 8 (x7 + 1) [(7, .int (x7 + 1)), (8, .int r6), (0, .ref (ad 0)), (1, .int x1), (2, .ref (nd (kk2 + 1))), (3, .int x3), (4, .int x4), (5, .int x5), (6, .int x6)] dX2_takerOf_83 rfl rfl (by decide) rfl ?_
          refine j_goto C 30 dX2_takerOf_86 (by decide) ?_
          refine j_lsub [2, 3, 4, 5, 6, 7, 8, 0] [(0, .ref (ad 0)), (1, .int x1), (2, .ref (nd (kk2 + 1))), (3, .int x3), (4, .int x4), (5, .int x5), (6, .int x6), (7, .int (x7 + 1))] rfl ?_
          exact ih x5 x6 (x7 + 1) hw
        · replace hw := hw.2 z
          refine j_iload C 8 dX2_takerOf_75 rfl ?_
          refine j_istore C [(5, .int x7), (8, .int r6), (0, .ref (ad 0)), (1, .int x1), (2, .ref (nd (kk2 + 1))), (3, .int x3), (4, .int x4), (6, .int x6), (7, .int x7)] dX2_takerOf_77 (by decide) rfl ?_
          refine j_iload C 1 dX2_takerOf_79 rfl ?_
          refine j_istore C [(6, .int r6), (5, .int x7), (8, .int r6), (0, .ref (ad 0)), (1, .int x1), (2, .ref (nd (kk2 + 1))), (3, .int x3), (4, .int x4), (7, .int x7)] dX2_takerOf_81 (by decide) rfl ?_
          refine j_iinc C 8 (x7 + 1) [(7, .int (x7 + 1)), (6, .int r6), (5, .int x7), (8, .int r6), (0, .ref (ad 0)), (1, .int x1), (2, .ref (nd (kk2 + 1))), (3, .int x3), (4, .int x4)] dX2_takerOf_83 rfl rfl (by decide) rfl ?_
          refine j_goto C 30 dX2_takerOf_86 (by decide) ?_
          refine j_lsub [4, 5, 6, 7, 8, 2, 1, 0] [(0, .ref (ad 0)), (1, .int x1), (2, .ref (nd (kk2 + 1))), (3, .int x3), (4, .int x4), (5, .int x7), (6, .int r6), (7, .int (x7 + 1))] rfl ?_
          exact ih x7 r6 (x7 + 1) hw
set_option maxRecDepth 100000 in
set_option maxHeartbeats 8000000 in
theorem c_X2_takerOf {l : Launch} {D : va_G} {ca : Nat → ClassId} {sd : Nat → Nat}  (nd : Nat → Nat) (ad : Nat → Nat) (sk : Nat → Int32) (ze : Nat → Int32) (ma : Nat → Int32) (ki : Nat → Int32) (dn : Nat → Int32) (wi : Nat → Int32) (du : Nat → Int32) (he : Nat → Int32) (yr : Int32) (sz : Int32)  (a1 : Int32) {Q : (Int32) → Prop} (hw : wp_X2_takerOf sk ki dn du he  a1 Q) : Cn l D ca sd yX2_takerOf cX2_takerOf 9 (some .int) { frames := 4, cells := 0, slots := 0, locals := 110 } [.ref (ad 0), .int a1] ((wN ca nd sd) ++ (wC ca ad (nd 0) sk ze ma ki dn wi du he yr sz)) [] 0 0 (Ri D (fun (r : Int32) (u : Unit) => Q r ) (fun _ => [])) := by
  refine cn_ofR (by decide) (Nat.le_of_ble_eq_true rfl) (fun k C hR => ?_)
  have C : Cx D ca sd cX2_takerOf RX2 (some .int) { frames := 4, cells := 0, slots := 0, locals := 110 } k 9 := C
  unfold wp_X2_takerOf at hw
  show J l D k 9 0 0 0 ((wN ca nd sd) ++ (wC ca ad (nd 0) sk ze ma ki dn wi du he yr sz)) [(0, .ref (ad 0)), (1, .int a1)] []
  refine j_aload_n C 0 dX2_takerOf_0 rfl ?_
  refine j_iload_n C 1 dX2_takerOf_1 rfl ?_
  refine j_crZ C (jr_V C lkV_X2_86 (c_X2_natureOf nd ad sk ze ma ki dn wi du he yr sz a1 hw) ⟨rfl, rfl, by decide, by decide, by decide, by decide⟩ [0, 1, 2, 3, 4, 5, 6, 7, 8, 9, 10, 11, 12, 13, 14, 15] rfl rfl (fx_ro C) 7 2 rfl rfl rfl rfl (Nat.le_of_ble_eq_true rfl) dX2_takerOf_2) (fun u1 hw => ?_)
  refine j_astore_n C [(2, .ref (nd (u1 + 1))), (0, .ref (ad 0)), (1, .int a1)] dX2_takerOf_5 (by decide) rfl ?_
  refine j_aload_n C 1 dX2_takerOf_6 rfl ?_
  refine j_get C fl_X2_24_2 7 dX2_takerOf_7 rfl rfl ?_
  refine j_iload_n C 2 dX2_takerOf_10 rfl ?_
  have hi2 := hw.1
  replace hw := hw.2
  refine j_iald C 12 dX2_takerOf_11 rfl hi2 ?_
  refine j_istore_n C [(3, .int (dn (a1.toNatClampNeg))), (2, .ref (nd (u1 + 1))), (0, .ref (ad 0)), (1, .int a1)] dX2_takerOf_12 (by decide) rfl ?_
  refine j_aload_n C 2 dX2_takerOf_13 rfl ?_
  refine j_get C fl_X2_30_2 7 dX2_takerOf_14 rfl rfl ?_
  refine j_iload_n C 3 dX2_takerOf_17 rfl ?_
  have hi3 := hw.1
  replace hw := hw.2
  refine j_iald C 14 dX2_takerOf_18 rfl hi3 ?_
  refine j_istore C [(4, .int (du (a1.toNatClampNeg))), (3, .int (dn (a1.toNatClampNeg))), (2, .ref (nd (u1 + 1))), (0, .ref (ad 0)), (1, .int a1)] dX2_takerOf_19 (by decide) rfl ?_
  refine j_iconst C (-1) dX2_takerOf_21 (by decide) ?_
  refine j_istore C [(5, .int (-1)), (4, .int (du (a1.toNatClampNeg))), (3, .int (dn (a1.toNatClampNeg))), (2, .ref (nd (u1 + 1))), (0, .ref (ad 0)), (1, .int a1)] dX2_takerOf_22 (by decide) rfl ?_
  refine j_iconst C (-1) dX2_takerOf_24 (by decide) ?_
  refine j_istore C [(6, .int (-1)), (5, .int (-1)), (4, .int (du (a1.toNatClampNeg))), (3, .int (dn (a1.toNatClampNeg))), (2, .ref (nd (u1 + 1))), (0, .ref (ad 0)), (1, .int a1)] dX2_takerOf_25 (by decide) rfl ?_
  refine j_iconst C 0 dX2_takerOf_27 (by decide) ?_
  refine j_istore C [(7, .int 0), (6, .int (-1)), (5, .int (-1)), (4, .int (du (a1.toNatClampNeg))), (3, .int (dn (a1.toNatClampNeg))), (2, .ref (nd (u1 + 1))), (0, .ref (ad 0)), (1, .int a1)] dX2_takerOf_28 (by decide) rfl ?_
  refine j_lsub [6, 7, 5, 4, 3, 2, 1, 0] [(0, .ref (ad 0)), (1, .int a1), (2, .ref (nd (u1 + 1))), (3, .int (dn (a1.toNatClampNeg))), (4, .int (du (a1.toNatClampNeg))), (5, .int (-1)), (6, .int (-1)), (7, .int 0)] rfl ?_
  obtain ⟨n7, hw⟩ := hw
  refine ml_X2_takerOf_30 nd ad  sk ze ma ki dn wi du he yr sz a1 u1 (dn (a1.toNatClampNeg)) (du (a1.toNatClampNeg)) C hR (fun y7_5 y7_6 y7_7 hw => ?_) n7 (-1) (-1) 0 hw
  refine j_iload C 6 dX2_takerOf_89 rfl ?_
  refine j_aload_n C 2 dX2_takerOf_91 rfl ?_
  refine j_iload_n C 3 dX2_takerOf_92 rfl ?_
  refine j_iload C 4 dX2_takerOf_93 rfl ?_
  refine j_ciZ C (jk_X2_116 C nd 1 u1 (dn (a1.toNatClampNeg)) (du (a1.toNatClampNeg)) _ hw (by intro j hj; match j, hj with | 0, _ => rfl | 1, _ => rfl | 2, _ => rfl | 3, _ => rfl | 4, _ => rfl | 5, _ => rfl) (by decide) (by decide) (Nat.le_of_ble_eq_true rfl) dX2_takerOf_95) (fun r8 u8 hw => ?_)
  refine j_icmp_lt C 106 dX2_takerOf_98 (by decide) (fun z => ?_) (fun z => ?_)
  · replace hw := hw.1 z
    refine j_iconst C (-1) dX2_takerOf_106 (by decide) ?_
    exact j_iretR C hR () rfl dX2_takerOf_107 hw
  · replace hw := hw.2 z
    refine j_iload C 5 dX2_takerOf_101 rfl ?_
    refine j_goto C 107 dX2_takerOf_103 (by decide) ?_
    exact j_iretR C hR () rfl dX2_takerOf_107 hw
def wp_X2_workOn (sk : Nat → Int32) (ze : Nat → Int32) (ma : Nat → Int32) (ki : Nat → Int32) (dn : Nat → Int32) (wi : Nat → Int32) (du : Nat → Int32)  (a1 : Int32) (Q : (Nat → Int32) → (Nat → Int32) → (Nat → Int32) → (Nat → Int32) → (Nat → Int32) → Prop) : Prop := vp_in a1 8 ∧ (wp_X2_natureOf ki a1 (fun c2_0 => vp_in (wi (a1.toNatClampNeg)) 6 ∧ (vp_in a1 8 ∧ (vp_in a1 8 ∧ (wpv_goesOn c2_0 (sk ((wi (a1.toNatClampNeg)).toNatClampNeg)) (dn (a1.toNatClampNeg)) (du (a1.toNatClampNeg)) (fun r6 => vp_in a1 8 ∧ (vp_in a1 8 ∧ (wp_X2_isFinished (upd dn (a1.toNatClampNeg) (if ((dn (a1.toNatClampNeg)) + r6) < 100 then ((dn (a1.toNatClampNeg)) + r6) else 100)) a1 (fun r9 => (r9 = 0 → vp_in (wi (a1.toNatClampNeg)) 6 ∧ (wpv_tires c2_0 (fun r11 => vp_in (wi (a1.toNatClampNeg)) 6 ∧ (vp_in (wi (a1.toNatClampNeg)) 6 ∧ ((0 < ((upd ze ((wi (a1.toNatClampNeg)).toNatClampNeg) ((ze ((wi (a1.toNatClampNeg)).toNatClampNeg)) - r11)) ((wi (a1.toNatClampNeg)).toNatClampNeg)) → Q (upd ze ((wi (a1.toNatClampNeg)).toNatClampNeg) ((ze ((wi (a1.toNatClampNeg)).toNatClampNeg)) - r11)) ma (upd dn (a1.toNatClampNeg) (if ((dn (a1.toNatClampNeg)) + r6) < 100 then ((dn (a1.toNatClampNeg)) + r6) else 100)) wi du) ∧ (¬ (0 < ((upd ze ((wi (a1.toNatClampNeg)).toNatClampNeg) ((ze ((wi (a1.toNatClampNeg)).toNatClampNeg)) - r11)) ((wi (a1.toNatClampNeg)).toNatClampNeg))) → wp_X2_letGo (upd ze ((wi (a1.toNatClampNeg)).toNatClampNeg) ((ze ((wi (a1.toNatClampNeg)).toNatClampNeg)) - r11)) wi du a1 (fun c14_0 c14_1 c14_2 => Q c14_0 ma (upd dn (a1.toNatClampNeg) (if ((dn (a1.toNatClampNeg)) + r6) < 100 then ((dn (a1.toNatClampNeg)) + r6) else 100)) c14_1 c14_2))))))) ∧ (¬ (r9 = 0) → vp_in (wi (a1.toNatClampNeg)) 6 ∧ (vp_in (wi (a1.toNatClampNeg)) 6 ∧ (vp_in (wi (a1.toNatClampNeg)) 6 ∧ (vp_in (wi (a1.toNatClampNeg)) 6 ∧ (Q (upd ze ((wi (a1.toNatClampNeg)).toNatClampNeg) (if ((ze ((wi (a1.toNatClampNeg)).toNatClampNeg)) + 2) < 9 then ((ze ((wi (a1.toNatClampNeg)).toNatClampNeg)) + 2) else 9)) (upd ma ((wi (a1.toNatClampNeg)).toNatClampNeg) (if ((ma ((wi (a1.toNatClampNeg)).toNatClampNeg)) + 1) < 999 then ((ma ((wi (a1.toNatClampNeg)).toNatClampNeg)) + 1) else 999)) (upd dn (a1.toNatClampNeg) (if ((dn (a1.toNatClampNeg)) + r6) < 100 then ((dn (a1.toNatClampNeg)) + r6) else 100)) wi du))))))))))))))
set_option maxRecDepth 100000 in
set_option maxHeartbeats 8000000 in
theorem c_X2_workOn {l : Launch} {D : va_G} {ca : Nat → ClassId} {sd : Nat → Nat}  (nd : Nat → Nat) (ad : Nat → Nat) (sk : Nat → Int32) (ze : Nat → Int32) (ma : Nat → Int32) (ki : Nat → Int32) (dn : Nat → Int32) (wi : Nat → Int32) (du : Nat → Int32) (he : Nat → Int32) (yr : Int32) (sz : Int32)  (a1 : Int32) {Q : (Nat → Int32) → (Nat → Int32) → (Nat → Int32) → (Nat → Int32) → (Nat → Int32) → Prop} (hw : wp_X2_workOn sk ze ma ki dn wi du  a1 Q) : Cn l D ca sd yX2_workOn cX2_workOn 5 none { frames := 4, cells := 0, slots := 0, locals := 110 } [.ref (ad 0), .int a1] ((wN ca nd sd) ++ (wC ca ad (nd 0) sk ze ma ki dn wi du he yr sz)) ((wN ca nd sd) ++ (wC ca ad (nd 0) sk ze ma ki dn wi du he yr sz)) 0 0 (Rv D (fun u : (Nat → Int32) × (Nat → Int32) × (Nat → Int32) × (Nat → Int32) × (Nat → Int32) => Q u.1 u.2.1 u.2.2.1 u.2.2.2.1 u.2.2.2.2) (fun u => ((wN ca nd sd) ++ (wC ca ad (nd 0) sk u.1 u.2.1 ki u.2.2.1 u.2.2.2.1 u.2.2.2.2 he yr sz)))) := by
  refine cn_of (by decide) (Nat.le_of_ble_eq_true rfl) (fun k C hR hB _ => ?_)
  have C : Cx D ca sd cX2_workOn RX2 none { frames := 4, cells := 0, slots := 0, locals := 110 } k 5 := C
  unfold wp_X2_workOn at hw
  show J l D k 5 0 0 0 ((wN ca nd sd) ++ (wC ca ad (nd 0) sk ze ma ki dn wi du he yr sz)) [(0, .ref (ad 0)), (1, .int a1)] []
  refine j_aload_n C 0 dX2_workOn_0 rfl ?_
  refine j_get C fl_X2_27_2 7 dX2_workOn_1 rfl rfl ?_
  refine j_iload_n C 1 dX2_workOn_4 rfl ?_
  have hi1 := hw.1
  replace hw := hw.2
  refine j_iald C 13 dX2_workOn_5 rfl hi1 ?_
  refine j_istore_n C [(2, .int (wi (a1.toNatClampNeg))), (0, .ref (ad 0)), (1, .int a1)] dX2_workOn_6 (by decide) rfl ?_
  refine j_aload_n C 1 dX2_workOn_7 rfl ?_
  refine j_iload_n C 2 dX2_workOn_8 rfl ?_
  refine j_crZ C (jr_V C lkV_X2_86 (c_X2_natureOf nd ad sk ze ma ki dn wi du he yr sz a1 hw) ⟨rfl, rfl, by decide, by decide, by decide, by decide⟩ [0, 1, 2, 3, 4, 5, 6, 7, 8, 9, 10, 11, 12, 13, 14, 15] rfl rfl (fx_ro C) 7 2 rfl rfl rfl rfl (Nat.le_of_ble_eq_true rfl) dX2_workOn_9) (fun u2 hw => ?_)
  refine j_astore_n C [(3, .ref (nd (u2 + 1))), (2, .int (wi (a1.toNatClampNeg))), (0, .ref (ad 0)), (1, .int a1)] dX2_workOn_12 (by decide) rfl ?_
  refine j_aload_n C 0 dX2_workOn_13 rfl ?_
  refine j_aload_n C 2 dX2_workOn_14 rfl ?_
  refine j_get C fl_X2_9_2 7 dX2_workOn_15 rfl rfl ?_
  refine j_iload_n C 1 dX2_workOn_18 rfl ?_
  have hi3 := hw.1
  replace hw := hw.2
  refine j_iald C 8 dX2_workOn_19 rfl hi3 ?_
  refine j_aload_n C 2 dX2_workOn_20 rfl ?_
  refine j_get C fl_X2_24_2 7 dX2_workOn_21 rfl rfl ?_
  refine j_iload_n C 3 dX2_workOn_24 rfl ?_
  have hi4 := hw.1
  replace hw := hw.2
  refine j_iald C 12 dX2_workOn_25 rfl hi4 ?_
  refine j_aload_n C 2 dX2_workOn_26 rfl ?_
  refine j_get C fl_X2_30_2 7 dX2_workOn_27 rfl rfl ?_
  refine j_iload_n C 3 dX2_workOn_30 rfl ?_
  have hi5 := hw.1
  replace hw := hw.2
  refine j_iald C 14 dX2_workOn_31 rfl hi5 ?_
  refine j_ciZ C (jk_X2_90 C nd 1 u2 (sk ((wi (a1.toNatClampNeg)).toNatClampNeg)) (dn (a1.toNatClampNeg)) (du (a1.toNatClampNeg)) _ hw (by intro j hj; match j, hj with | 0, _ => rfl | 1, _ => rfl | 2, _ => rfl | 3, _ => rfl | 4, _ => rfl | 5, _ => rfl) (by decide) (by decide) (Nat.le_of_ble_eq_true rfl) dX2_workOn_32) (fun r6 u6 hw => ?_)
  refine j_istore C [(4, .int r6), (3, .ref (nd (u2 + 1))), (2, .int (wi (a1.toNatClampNeg))), (0, .ref (ad 0)), (1, .int a1)] dX2_workOn_35 (by decide) rfl ?_
  refine j_aload_n C 3 dX2_workOn_37 rfl ?_
  refine j_get C fl_X2_24_2 7 dX2_workOn_38 rfl rfl ?_
  refine j_iload_n C 4 dX2_workOn_41 rfl ?_
  refine j_bipush C 100 dX2_workOn_42 (by decide) ?_
  refine j_aload_n C 3 dX2_workOn_44 rfl ?_
  refine j_get C fl_X2_24_2 7 dX2_workOn_45 rfl rfl ?_
  refine j_iload_n C 4 dX2_workOn_48 rfl ?_
  have hi7 := hw.1
  replace hw := hw.2
  refine j_iald C 12 dX2_workOn_49 rfl hi7 ?_
  refine j_iload C 0 dX2_workOn_50 rfl ?_
  refine j_iadd C dX2_workOn_52 ?_
  refine j_min C lm_X2_96 (by decide) (Nat.le_of_ble_eq_true rfl) (by decide) (by decide) dX2_workOn_53 ?_
  have hi8 := hw.1
  replace hw := hw.2
  refine j_iast C hB 12 ((wN ca nd sd) ++ (wC ca ad (nd 0) sk ze ma ki (upd dn (a1.toNatClampNeg) (if ((dn (a1.toNatClampNeg)) + r6) < 100 then ((dn (a1.toNatClampNeg)) + r6) else 100)) wi du he yr sz)) dX2_workOn_56 rfl hi8 rfl ?_
  refine j_aload_n C 3 dX2_workOn_57 rfl ?_
  refine j_iload_n C 4 dX2_workOn_58 rfl ?_
  refine j_ciZ C (jr_V C lkV_X2_63 (c_X2_isFinished ad (nd 0) sk ze ma ki (upd dn (a1.toNatClampNeg) (if ((dn (a1.toNatClampNeg)) + r6) < 100 then ((dn (a1.toNatClampNeg)) + r6) else 100)) wi du he yr sz a1 hw) ⟨rfl, rfl, by decide, by decide, by decide, by decide⟩ [7, 8, 9, 10, 11, 12, 13, 14, 15] (by decide) rfl (fx_ro C) 7 2 rfl rfl rfl rfl (Nat.le_of_ble_eq_true rfl) dX2_workOn_59) (fun r9 u9 hw => ?_)
  refine j_if_eq C 105 dX2_workOn_62 (by decide) (fun z => ?_) (fun z => ?_)
  · replace hw := hw.1 z
    refine j_aload_n C 3 dX2_workOn_105 rfl ?_
    refine j_get C fl_X2_15_2 7 dX2_workOn_106 rfl rfl ?_
    refine j_iload_n C 2 dX2_workOn_109 rfl ?_
    refine j_dup2 C dX2_workOn_110 rfl rfl ?_
    have hi10 := hw.1
    replace hw := hw.2
    refine j_iald C 9 dX2_workOn_111 rfl hi10 ?_
    refine j_aload_n C 1 dX2_workOn_112 rfl ?_
    refine j_ciZ C (jk_X2_102 C nd 1 u2  _ hw (by intro j hj; match j, hj with | 0, _ => rfl | 1, _ => rfl | 2, _ => rfl | 3, _ => rfl | 4, _ => rfl | 5, _ => rfl) (by decide) (by decide) (Nat.le_of_ble_eq_true rfl) dX2_workOn_113) (fun r11 u11 hw => ?_)
    refine j_isub C dX2_workOn_116 ?_
    have hi12 := hw.1
    replace hw := hw.2
    refine j_iast C hB 9 ((wN ca nd sd) ++ (wC ca ad (nd 0) sk (upd ze ((wi (a1.toNatClampNeg)).toNatClampNeg) ((ze ((wi (a1.toNatClampNeg)).toNatClampNeg)) - r11)) ma ki (upd dn (a1.toNatClampNeg) (if ((dn (a1.toNatClampNeg)) + r6) < 100 then ((dn (a1.toNatClampNeg)) + r6) else 100)) wi du he yr sz)) dX2_workOn_117 rfl hi12 rfl ?_
    refine j_aload_n C 3 dX2_workOn_118 rfl ?_
    refine j_get C fl_X2_15_2 7 dX2_workOn_119 rfl rfl ?_
    refine j_iload_n C 2 dX2_workOn_122 rfl ?_
    have hi13 := hw.1
    replace hw := hw.2
    refine j_iald C 9 dX2_workOn_123 rfl hi13 ?_
    refine j_if_gt C 132 dX2_workOn_124 (by decide) (fun z => ?_) (fun z => ?_)
    · replace hw := hw.1 z
      exact j_vret C hB hR (upd ze ((wi (a1.toNatClampNeg)).toNatClampNeg) ((ze ((wi (a1.toNatClampNeg)).toNatClampNeg)) - r11), ma, upd dn (a1.toNatClampNeg) (if ((dn (a1.toNatClampNeg)) + r6) < 100 then ((dn (a1.toNatClampNeg)) + r6) else 100), wi, du) rfl dX2_workOn_132 hw rfl
    · replace hw := hw.2 z
      refine j_aload_n C 3 dX2_workOn_127 rfl ?_
      refine j_iload_n C 4 dX2_workOn_128 rfl ?_
      refine j_cvT C hB 7 16 (fun u14 => ((wN ca nd sd) ++ (wC ca ad (nd 0) sk u14.1 ma ki (upd dn (a1.toNatClampNeg) (if ((dn (a1.toNatClampNeg)) + r6) < 100 then ((dn (a1.toNatClampNeg)) + r6) else 100)) u14.2.1 u14.2.2 he yr sz))) rfl (fun _ => rfl) (jr_V C lkV_X2_106 (c_X2_letGo ad (nd 0) sk (upd ze ((wi (a1.toNatClampNeg)).toNatClampNeg) ((ze ((wi (a1.toNatClampNeg)).toNatClampNeg)) - r11)) ma ki (upd dn (a1.toNatClampNeg) (if ((dn (a1.toNatClampNeg)) + r6) < 100 then ((dn (a1.toNatClampNeg)) + r6) else 100)) wi du he yr sz a1 hw) ⟨rfl, rfl, by decide, by decide, by decide, by decide⟩ [7, 8, 9, 10, 11, 12, 13, 14, 15] (by decide) rfl (fx_rw C hB [7, 8, 9, 10, 11, 12, 13, 14, 15] rfl) 7 2 rfl rfl rfl rfl (Nat.le_of_ble_eq_true rfl) dX2_workOn_129) (fun u14 hw => ?_)
      exact j_vret C hB hR (u14.1, ma, upd dn (a1.toNatClampNeg) (if ((dn (a1.toNatClampNeg)) + r6) < 100 then ((dn (a1.toNatClampNeg)) + r6) else 100), u14.2.1, u14.2.2) rfl dX2_workOn_132 hw rfl
  · replace hw := hw.2 z
    refine j_aload_n C 3 dX2_workOn_65 rfl ?_
    refine j_get C fl_X2_18_2 7 dX2_workOn_66 rfl rfl ?_
    refine j_iload_n C 2 dX2_workOn_69 rfl ?_
    refine j_sipush C 999 dX2_workOn_70 (by decide) ?_
    refine j_aload_n C 3 dX2_workOn_73 rfl ?_
    refine j_get C fl_X2_18_2 7 dX2_workOn_74 rfl rfl ?_
    refine j_iload_n C 2 dX2_workOn_77 rfl ?_
    have hi15 := hw.1
    replace hw := hw.2
    refine j_iald C 10 dX2_workOn_78 rfl hi15 ?_
    refine j_iconst C 1 dX2_workOn_79 (by decide) ?_
    refine j_iadd C dX2_workOn_80 ?_
    refine j_min C lm_X2_96 (by decide) (Nat.le_of_ble_eq_true rfl) (by decide) (by decide) dX2_workOn_81 ?_
    have hi16 := hw.1
    replace hw := hw.2
    refine j_iast C hB 10 ((wN ca nd sd) ++ (wC ca ad (nd 0) sk ze (upd ma ((wi (a1.toNatClampNeg)).toNatClampNeg) (if ((ma ((wi (a1.toNatClampNeg)).toNatClampNeg)) + 1) < 999 then ((ma ((wi (a1.toNatClampNeg)).toNatClampNeg)) + 1) else 999)) ki (upd dn (a1.toNatClampNeg) (if ((dn (a1.toNatClampNeg)) + r6) < 100 then ((dn (a1.toNatClampNeg)) + r6) else 100)) wi du he yr sz)) dX2_workOn_84 rfl hi16 rfl ?_
    refine j_aload_n C 3 dX2_workOn_85 rfl ?_
    refine j_get C fl_X2_15_2 7 dX2_workOn_86 rfl rfl ?_
    refine j_iload_n C 2 dX2_workOn_89 rfl ?_
    refine j_bipush C 9 dX2_workOn_90 (by decide) ?_
    refine j_aload_n C 3 dX2_workOn_92 rfl ?_
    refine j_get C fl_X2_15_2 7 dX2_workOn_93 rfl rfl ?_
    refine j_iload_n C 2 dX2_workOn_96 rfl ?_
    have hi17 := hw.1
    replace hw := hw.2
    refine j_iald C 9 dX2_workOn_97 rfl hi17 ?_
    refine j_iconst C 2 dX2_workOn_98 (by decide) ?_
    refine j_iadd C dX2_workOn_99 ?_
    refine j_min C lm_X2_96 (by decide) (Nat.le_of_ble_eq_true rfl) (by decide) (by decide) dX2_workOn_100 ?_
    have hi18 := hw.1
    replace hw := hw.2
    refine j_iast C hB 9 ((wN ca nd sd) ++ (wC ca ad (nd 0) sk (upd ze ((wi (a1.toNatClampNeg)).toNatClampNeg) (if ((ze ((wi (a1.toNatClampNeg)).toNatClampNeg)) + 2) < 9 then ((ze ((wi (a1.toNatClampNeg)).toNatClampNeg)) + 2) else 9)) (upd ma ((wi (a1.toNatClampNeg)).toNatClampNeg) (if ((ma ((wi (a1.toNatClampNeg)).toNatClampNeg)) + 1) < 999 then ((ma ((wi (a1.toNatClampNeg)).toNatClampNeg)) + 1) else 999)) ki (upd dn (a1.toNatClampNeg) (if ((dn (a1.toNatClampNeg)) + r6) < 100 then ((dn (a1.toNatClampNeg)) + r6) else 100)) wi du he yr sz)) dX2_workOn_103 rfl hi18 rfl ?_
    exact j_vret C hB hR (upd ze ((wi (a1.toNatClampNeg)).toNatClampNeg) (if ((ze ((wi (a1.toNatClampNeg)).toNatClampNeg)) + 2) < 9 then ((ze ((wi (a1.toNatClampNeg)).toNatClampNeg)) + 2) else 9), upd ma ((wi (a1.toNatClampNeg)).toNatClampNeg) (if ((ma ((wi (a1.toNatClampNeg)).toNatClampNeg)) + 1) < 999 then ((ma ((wi (a1.toNatClampNeg)).toNatClampNeg)) + 1) else 999), upd dn (a1.toNatClampNeg) (if ((dn (a1.toNatClampNeg)) + r6) < 100 then ((dn (a1.toNatClampNeg)) + r6) else 100), wi, du) rfl dX2_workOn_104 hw rfl
def wp_X2_offer (sk : Nat → Int32) (ki : Nat → Int32) (dn : Nat → Int32) (wi : Nat → Int32) (du : Nat → Int32) (he : Nat → Int32)  (a1 : Int32) (Q : (Nat → Int32) → (Nat → Int32) → (Nat → Int32) → Prop) : Prop := vp_in a1 8 ∧ (vp_in a1 8 ∧ (wp_X2_takerOf sk ki dn (upd du (a1.toNatClampNeg) (if ((du (a1.toNatClampNeg)) + 1) < 999 then ((du (a1.toNatClampNeg)) + 1) else 999)) he a1 (fun r3 => (r3 = (-1) → Q wi (upd du (a1.toNatClampNeg) (if ((du (a1.toNatClampNeg)) + 1) < 999 then ((du (a1.toNatClampNeg)) + 1) else 999)) he) ∧ (¬ (r3 = (-1)) → vp_in a1 8 ∧ (vp_in r3 6 ∧ (vp_in r3 6 ∧ (Q (upd wi (a1.toNatClampNeg) r3) (upd du (a1.toNatClampNeg) (if ((du (a1.toNatClampNeg)) + 1) < 999 then ((du (a1.toNatClampNeg)) + 1) else 999)) (upd he (r3.toNatClampNeg) ((he (r3.toNatClampNeg)) + 1)))))))))
set_option maxRecDepth 100000 in
set_option maxHeartbeats 8000000 in
theorem c_X2_offer {l : Launch} {D : va_G} {ca : Nat → ClassId} {sd : Nat → Nat}  (nd : Nat → Nat) (ad : Nat → Nat) (sk : Nat → Int32) (ze : Nat → Int32) (ma : Nat → Int32) (ki : Nat → Int32) (dn : Nat → Int32) (wi : Nat → Int32) (du : Nat → Int32) (he : Nat → Int32) (yr : Int32) (sz : Int32)  (a1 : Int32) {Q : (Nat → Int32) → (Nat → Int32) → (Nat → Int32) → Prop} (hw : wp_X2_offer sk ki dn wi du he  a1 Q) : Cn l D ca sd yX2_offer cX2_offer 3 none { frames := 5, cells := 0, slots := 0, locals := 138 } [.ref (ad 0), .int a1] ((wN ca nd sd) ++ (wC ca ad (nd 0) sk ze ma ki dn wi du he yr sz)) ((wN ca nd sd) ++ (wC ca ad (nd 0) sk ze ma ki dn wi du he yr sz)) 0 0 (Rv D (fun u : (Nat → Int32) × (Nat → Int32) × (Nat → Int32) => Q u.1 u.2.1 u.2.2) (fun u => ((wN ca nd sd) ++ (wC ca ad (nd 0) sk ze ma ki dn u.1 u.2.1 u.2.2 yr sz)))) := by
  refine cn_of (by decide) (Nat.le_of_ble_eq_true rfl) (fun k C hR hB _ => ?_)
  have C : Cx D ca sd cX2_offer RX2 none { frames := 5, cells := 0, slots := 0, locals := 138 } k 3 := C
  unfold wp_X2_offer at hw
  show J l D k 3 0 0 0 ((wN ca nd sd) ++ (wC ca ad (nd 0) sk ze ma ki dn wi du he yr sz)) [(0, .ref (ad 0)), (1, .int a1)] []
  refine j_aload_n C 0 dX2_offer_0 rfl ?_
  refine j_get C fl_X2_30_2 7 dX2_offer_1 rfl rfl ?_
  refine j_iload_n C 1 dX2_offer_4 rfl ?_
  refine j_sipush C 999 dX2_offer_5 (by decide) ?_
  refine j_aload_n C 0 dX2_offer_8 rfl ?_
  refine j_get C fl_X2_30_2 7 dX2_offer_9 rfl rfl ?_
  refine j_iload_n C 1 dX2_offer_12 rfl ?_
  have hi1 := hw.1
  replace hw := hw.2
  refine j_iald C 14 dX2_offer_13 rfl hi1 ?_
  refine j_iconst C 1 dX2_offer_14 (by decide) ?_
  refine j_iadd C dX2_offer_15 ?_
  refine j_min C lm_X2_96 (by decide) (Nat.le_of_ble_eq_true rfl) (by decide) (by decide) dX2_offer_16 ?_
  have hi2 := hw.1
  replace hw := hw.2
  refine j_iast C hB 14 ((wN ca nd sd) ++ (wC ca ad (nd 0) sk ze ma ki dn wi (upd du (a1.toNatClampNeg) (if ((du (a1.toNatClampNeg)) + 1) < 999 then ((du (a1.toNatClampNeg)) + 1) else 999)) he yr sz)) dX2_offer_19 rfl hi2 rfl ?_
  refine j_aload_n C 0 dX2_offer_20 rfl ?_
  refine j_iload_n C 1 dX2_offer_21 rfl ?_
  refine j_ciZ C (jr_V C lkV_X2_109 (c_X2_takerOf nd ad sk ze ma ki dn wi (upd du (a1.toNatClampNeg) (if ((du (a1.toNatClampNeg)) + 1) < 999 then ((du (a1.toNatClampNeg)) + 1) else 999)) he yr sz a1 hw) ⟨rfl, rfl, by decide, by decide, by decide, by decide⟩ [0, 1, 2, 3, 4, 5, 6, 7, 8, 9, 10, 11, 12, 13, 14, 15] rfl rfl (fx_ro C) 7 2 rfl rfl rfl rfl (Nat.le_of_ble_eq_true rfl) dX2_offer_22) (fun r3 u3 hw => ?_)
  refine j_istore_n C [(2, .int r3), (0, .ref (ad 0)), (1, .int a1)] dX2_offer_25 (by decide) rfl ?_
  refine j_iload_n C 0 dX2_offer_26 rfl ?_
  refine j_iconst C (-1) dX2_offer_27 (by decide) ?_
  refine j_icmp_eq C 48 dX2_offer_28 (by decide) (fun z => ?_) (fun z => ?_)
  · replace hw := hw.1 z
    exact j_vret C hB hR (wi, upd du (a1.toNatClampNeg) (if ((du (a1.toNatClampNeg)) + 1) < 999 then ((du (a1.toNatClampNeg)) + 1) else 999), he) rfl dX2_offer_48 hw rfl
  · replace hw := hw.2 z
    refine j_aload_n C 1 dX2_offer_31 rfl ?_
    refine j_get C fl_X2_27_2 7 dX2_offer_32 rfl rfl ?_
    refine j_iload_n C 2 dX2_offer_35 rfl ?_
    refine j_iload_n C 0 dX2_offer_36 rfl ?_
    have hi4 := hw.1
    replace hw := hw.2
    refine j_iast C hB 13 ((wN ca nd sd) ++ (wC ca ad (nd 0) sk ze ma ki dn (upd wi (a1.toNatClampNeg) r3) (upd du (a1.toNatClampNeg) (if ((du (a1.toNatClampNeg)) + 1) < 999 then ((du (a1.toNatClampNeg)) + 1) else 999)) he yr sz)) dX2_offer_37 rfl hi4 rfl ?_
    refine j_aload_n C 1 dX2_offer_38 rfl ?_
    refine j_get C fl_X2_33_2 7 dX2_offer_39 rfl rfl ?_
    refine j_iload_n C 0 dX2_offer_42 rfl ?_
    refine j_dup2 C dX2_offer_43 rfl rfl ?_
    have hi5 := hw.1
    replace hw := hw.2
    refine j_iald C 15 dX2_offer_44 rfl hi5 ?_
    refine j_iconst C 1 dX2_offer_45 (by decide) ?_
    refine j_iadd C dX2_offer_46 ?_
    have hi6 := hw.1
    replace hw := hw.2
    refine j_iast C hB 15 ((wN ca nd sd) ++ (wC ca ad (nd 0) sk ze ma ki dn (upd wi (a1.toNatClampNeg) r3) (upd du (a1.toNatClampNeg) (if ((du (a1.toNatClampNeg)) + 1) < 999 then ((du (a1.toNatClampNeg)) + 1) else 999)) (upd he (r3.toNatClampNeg) ((he (r3.toNatClampNeg)) + 1)) yr sz)) dX2_offer_47 rfl hi6 rfl ?_
    exact j_vret C hB hR (upd wi (a1.toNatClampNeg) r3, upd du (a1.toNatClampNeg) (if ((du (a1.toNatClampNeg)) + 1) < 999 then ((du (a1.toNatClampNeg)) + 1) else 999), upd he (r3.toNatClampNeg) ((he (r3.toNatClampNeg)) + 1)) rfl dX2_offer_48 hw rfl
def wpl_X2_goYear_2 (sk : Nat → Int32) (ki : Nat → Int32) (sz : Int32) (K : (Int32) → (Nat → Int32) → (Nat → Int32) → (Nat → Int32) → (Nat → Int32) → (Nat → Int32) → Prop) : Nat → (Int32) → (Nat → Int32) → (Nat → Int32) → (Nat → Int32) → (Nat → Int32) → (Nat → Int32) → Prop
  | 0, _, _, _, _, _, _ => False
  | n + 1, x1, ze, ma, dn, wi, du => (sz ≤ x1 → K x1 ze ma dn wi du) ∧ (¬ (sz ≤ x1) → wp_X2_canBeLeft dn wi x1 (fun r1 => (r1 = 0 → wpl_X2_goYear_2 sk ki sz  K n (x1 + 1) ze ma dn wi du) ∧ (¬ (r1 = 0) → wp_X2_workOn sk ze ma ki dn wi du x1 (fun c2_0 c2_1 c2_2 c2_3 c2_4 => wpl_X2_goYear_2 sk ki sz  K n (x1 + 1) c2_0 c2_1 c2_2 c2_3 c2_4))))
def wpl_X2_goYear_35 (sk : Nat → Int32) (ki : Nat → Int32) (dn : Nat → Int32) (sz : Int32) (K : (Int32) → (Nat → Int32) → (Nat → Int32) → (Nat → Int32) → Prop) : Nat → (Int32) → (Nat → Int32) → (Nat → Int32) → (Nat → Int32) → Prop
  | 0, _, _, _, _ => False
  | n + 1, x1, wi, du, he => (sz ≤ x1 → K x1 wi du he) ∧ (¬ (sz ≤ x1) → wp_X2_isForTheFair dn wi x1 (fun r5 => (r5 = 0 → wpl_X2_goYear_35 sk ki dn sz  K n (x1 + 1) wi du he) ∧ (¬ (r5 = 0) → wp_X2_offer sk ki dn wi du he x1 (fun c6_0 c6_1 c6_2 => wpl_X2_goYear_35 sk ki dn sz  K n (x1 + 1) c6_0 c6_1 c6_2))))
def wp_X2_goYear (sk : Nat → Int32) (ze : Nat → Int32) (ma : Nat → Int32) (ki : Nat → Int32) (dn : Nat → Int32) (wi : Nat → Int32) (du : Nat → Int32) (he : Nat → Int32) (yr : Int32) (sz : Int32)   (Q : (Nat → Int32) → (Nat → Int32) → (Nat → Int32) → (Nat → Int32) → (Nat → Int32) → (Nat → Int32) → (Int32) → Prop) : Prop := ∃ n3 : Nat, wpl_X2_goYear_2 sk ki sz  (fun y3_1 y3_ze y3_ma y3_dn y3_wi y3_du => wp_X2_countHeld y3_dn y3_wi he sz (fun c4_0 => ∃ n7 : Nat, wpl_X2_goYear_35 sk ki y3_dn sz  (fun y7_1 y7_wi y7_du y7_he => Q y3_ze y3_ma y3_dn y7_wi y7_du y7_he (yr + 1)) n7 0 y3_wi y3_du c4_0)) n3 0 ze ma dn wi du
set_option maxRecDepth 100000 in
set_option maxHeartbeats 8000000 in
theorem ml_X2_goYear_2 {l : Launch} {D : va_G} {ca : Nat → ClassId} {sd : Nat → Nat}  {k : Kx} (nd : Nat → Nat) (ad : Nat → Nat)  (sk : Nat → Int32) (ki : Nat → Int32) (he : Nat → Int32) (yr : Int32) (sz : Int32) (C : Cx D ca sd cX2_goYear RX2 none { frames := 6, cells := 0, slots := 0, locals := 160 } k 2) {Q : (Nat → Int32) → (Nat → Int32) → (Nat → Int32) → (Nat → Int32) → (Nat → Int32) → (Nat → Int32) → (Int32) → Prop} (hR : Rx (Rv D (fun u : (Nat → Int32) × (Nat → Int32) × (Nat → Int32) × (Nat → Int32) × (Nat → Int32) × (Nat → Int32) × (Int32) => Q u.1 u.2.1 u.2.2.1 u.2.2.2.1 u.2.2.2.2.1 u.2.2.2.2.2.1 u.2.2.2.2.2.2) (fun u => ((wN ca nd sd) ++ (wC ca ad (nd 0) sk u.1 u.2.1 ki u.2.2.1 u.2.2.2.1 u.2.2.2.2.1 u.2.2.2.2.2.1 u.2.2.2.2.2.2 sz)))) 0 0 k) (hB : Wx k) {K : (Int32) → (Nat → Int32) → (Nat → Int32) → (Nat → Int32) → (Nat → Int32) → (Nat → Int32) → Prop} (hK : ∀ (x1' : Int32) (ze' : Nat → Int32) (ma' : Nat → Int32) (dn' : Nat → Int32) (wi' : Nat → Int32) (du' : Nat → Int32), K x1' ze' ma' dn' wi' du' → J l D k 2 0 0 29 ((wN ca nd sd) ++ (wC ca ad (nd 0) sk ze' ma' ki dn' wi' du' he yr sz)) [(0, .ref (ad 0)), (1, .int x1')] []) : ∀ (n : Nat) (x1 : Int32) (ze : Nat → Int32) (ma : Nat → Int32) (dn : Nat → Int32) (wi : Nat → Int32) (du : Nat → Int32), wpl_X2_goYear_2 sk ki sz  K n x1 ze ma dn wi du → J l D k 2 0 0 2 ((wN ca nd sd) ++ (wC ca ad (nd 0) sk ze ma ki dn wi du he yr sz)) [(0, .ref (ad 0)), (1, .int x1)] [] := by
  intro n
  induction n with
  | zero =>
    intro x1 ze ma dn wi du hw
    rw [wpl_X2_goYear_2] at hw
    exact hw.elim
  | succ n ih =>
    intro x1 ze ma dn wi du hw
    rw [wpl_X2_goYear_2] at hw
    refine j_iload_n C 1 dX2_goYear_2 rfl ?_
    refine j_aload_n C 0 dX2_goYear_3 rfl ?_
    refine j_get C fl_X2_56_2 7 dX2_goYear_4 rfl rfl ?_
    refine j_icmp_ge C 29 dX2_goYear_7 (by decide) (fun z => ?_) (fun z => ?_)
    · replace hw := hw.1 z
      exact hK x1 ze ma dn wi du hw
    · replace hw := hw.2 z
      refine j_aload_n C 0 dX2_goYear_10 rfl ?_
      refine j_iload_n C 1 dX2_goYear_11 rfl ?_
      refine j_ciZ C (jr_V C lkV_X2_70 (c_X2_canBeLeft ad (nd 0) sk ze ma ki dn wi du he yr sz x1 hw) ⟨rfl, rfl, by decide, by decide, by decide, by decide⟩ [7, 8, 9, 10, 11, 12, 13, 14, 15] (by decide) rfl (fx_ro C) 7 2 rfl rfl rfl rfl (Nat.le_of_ble_eq_true rfl) dX2_goYear_12) (fun r1 u1 hw => ?_)
      refine j_if_eq C 23 dX2_goYear_15 (by decide) (fun z => ?_) (fun z => ?_)
      · replace hw := hw.1 z
        refine j_iinc C 1 (x1 + 1) [(1, .int (x1 + 1)), (0, .ref (ad 0))] dX2_goYear_23 rfl rfl (by decide) rfl ?_
        refine j_goto C 2 dX2_goYear_26 (by decide) ?_
        refine j_lsub [1, 0] [(0, .ref (ad 0)), (1, .int (x1 + 1))] rfl ?_
        exact ih (x1 + 1) ze ma dn wi du hw
      · replace hw := hw.2 z
        refine j_aload_n C 0 dX2_goYear_18 rfl ?_
        refine j_iload_n C 1 dX2_goYear_19 rfl ?_
        refine j_cvT C hB 0 16 (fun u2 => ((wN ca nd sd) ++ (wC ca ad (nd 0) sk u2.1 u2.2.1 ki u2.2.2.1 u2.2.2.2.1 u2.2.2.2.2 he yr sz))) rfl (fun _ => rfl) (jr_V C lkV_X2_73 (c_X2_workOn nd ad sk ze ma ki dn wi du he yr sz x1 hw) ⟨rfl, rfl, by decide, by decide, by decide, by decide⟩ [0, 1, 2, 3, 4, 5, 6, 7, 8, 9, 10, 11, 12, 13, 14, 15] rfl rfl (fx_rw C hB [0, 1, 2, 3, 4, 5, 6, 7, 8, 9, 10, 11, 12, 13, 14, 15] rfl) 7 2 rfl rfl rfl rfl (Nat.le_of_ble_eq_true rfl) dX2_goYear_20) (fun u2 hw => ?_)
        refine j_iinc C 1 (x1 + 1) [(1, .int (x1 + 1)), (0, .ref (ad 0))] dX2_goYear_23 rfl rfl (by decide) rfl ?_
        refine j_goto C 2 dX2_goYear_26 (by decide) ?_
        refine j_lsub [1, 0] [(0, .ref (ad 0)), (1, .int (x1 + 1))] rfl ?_
        exact ih (x1 + 1) u2.1 u2.2.1 u2.2.2.1 u2.2.2.2.1 u2.2.2.2.2 hw
set_option maxRecDepth 100000 in
set_option maxHeartbeats 8000000 in
theorem ml_X2_goYear_35 {l : Launch} {D : va_G} {ca : Nat → ClassId} {sd : Nat → Nat}  {k : Kx} (nd : Nat → Nat) (ad : Nat → Nat)  (sk : Nat → Int32) (ze : Nat → Int32) (ma : Nat → Int32) (ki : Nat → Int32) (dn : Nat → Int32) (yr : Int32) (sz : Int32) (C : Cx D ca sd cX2_goYear RX2 none { frames := 6, cells := 0, slots := 0, locals := 160 } k 2) {Q : (Nat → Int32) → (Nat → Int32) → (Nat → Int32) → (Nat → Int32) → (Nat → Int32) → (Nat → Int32) → (Int32) → Prop} (hR : Rx (Rv D (fun u : (Nat → Int32) × (Nat → Int32) × (Nat → Int32) × (Nat → Int32) × (Nat → Int32) × (Nat → Int32) × (Int32) => Q u.1 u.2.1 u.2.2.1 u.2.2.2.1 u.2.2.2.2.1 u.2.2.2.2.2.1 u.2.2.2.2.2.2) (fun u => ((wN ca nd sd) ++ (wC ca ad (nd 0) sk u.1 u.2.1 ki u.2.2.1 u.2.2.2.1 u.2.2.2.2.1 u.2.2.2.2.2.1 u.2.2.2.2.2.2 sz)))) 0 0 k) (hB : Wx k) {K : (Int32) → (Nat → Int32) → (Nat → Int32) → (Nat → Int32) → Prop} (hK : ∀ (x1' : Int32) (wi' : Nat → Int32) (du' : Nat → Int32) (he' : Nat → Int32), K x1' wi' du' he' → J l D k 2 0 0 62 ((wN ca nd sd) ++ (wC ca ad (nd 0) sk ze ma ki dn wi' du' he' yr sz)) [(0, .ref (ad 0)), (1, .int x1')] []) : ∀ (n : Nat) (x1 : Int32) (wi : Nat → Int32) (du : Nat → Int32) (he : Nat → Int32), wpl_X2_goYear_35 sk ki dn sz  K n x1 wi du he → J l D k 2 0 0 35 ((wN ca nd sd) ++ (wC ca ad (nd 0) sk ze ma ki dn wi du he yr sz)) [(0, .ref (ad 0)), (1, .int x1)] [] := by
  intro n
  induction n with
  | zero =>
    intro x1 wi du he hw
    rw [wpl_X2_goYear_35] at hw
    exact hw.elim
  | succ n ih =>
    intro x1 wi du he hw
    rw [wpl_X2_goYear_35] at hw
    refine j_iload_n C 1 dX2_goYear_35 rfl ?_
    refine j_aload_n C 0 dX2_goYear_36 rfl ?_
    refine j_get C fl_X2_56_2 7 dX2_goYear_37 rfl rfl ?_
    refine j_icmp_ge C 62 dX2_goYear_40 (by decide) (fun z => ?_) (fun z => ?_)
    · replace hw := hw.1 z
      exact hK x1 wi du he hw
    · replace hw := hw.2 z
      refine j_aload_n C 0 dX2_goYear_43 rfl ?_
      refine j_iload_n C 1 dX2_goYear_44 rfl ?_
      refine j_ciZ C (jr_V C lkV_X2_80 (c_X2_isForTheFair ad (nd 0) sk ze ma ki dn wi du he yr sz x1 hw) ⟨rfl, rfl, by decide, by decide, by decide, by decide⟩ [7, 8, 9, 10, 11, 12, 13, 14, 15] (by decide) rfl (fx_ro C) 7 2 rfl rfl rfl rfl (Nat.le_of_ble_eq_true rfl) dX2_goYear_45) (fun r5 u5 hw => ?_)
      refine j_if_eq C 56 dX2_goYear_48 (by decide) (fun z => ?_) (fun z => ?_)
      · replace hw := hw.1 z
        refine j_iinc C 1 (x1 + 1) [(1, .int (x1 + 1)), (0, .ref (ad 0))] dX2_goYear_56 rfl rfl (by decide) rfl ?_
        refine j_goto C 35 dX2_goYear_59 (by decide) ?_
        refine j_lsub [1, 0] [(0, .ref (ad 0)), (1, .int (x1 + 1))] rfl ?_
        exact ih (x1 + 1) wi du he hw
      · replace hw := hw.2 z
        refine j_aload_n C 0 dX2_goYear_51 rfl ?_
        refine j_iload_n C 1 dX2_goYear_52 rfl ?_
        refine j_cvT C hB 0 16 (fun u6 => ((wN ca nd sd) ++ (wC ca ad (nd 0) sk ze ma ki dn u6.1 u6.2.1 u6.2.2 yr sz))) rfl (fun _ => rfl) (jr_V C lkV_X2_83 (c_X2_offer nd ad sk ze ma ki dn wi du he yr sz x1 hw) ⟨rfl, rfl, by decide, by decide, by decide, by decide⟩ [0, 1, 2, 3, 4, 5, 6, 7, 8, 9, 10, 11, 12, 13, 14, 15] rfl rfl (fx_rw C hB [0, 1, 2, 3, 4, 5, 6, 7, 8, 9, 10, 11, 12, 13, 14, 15] rfl) 7 2 rfl rfl rfl rfl (Nat.le_of_ble_eq_true rfl) dX2_goYear_53) (fun u6 hw => ?_)
        refine j_iinc C 1 (x1 + 1) [(1, .int (x1 + 1)), (0, .ref (ad 0))] dX2_goYear_56 rfl rfl (by decide) rfl ?_
        refine j_goto C 35 dX2_goYear_59 (by decide) ?_
        refine j_lsub [1, 0] [(0, .ref (ad 0)), (1, .int (x1 + 1))] rfl ?_
        exact ih (x1 + 1) u6.1 u6.2.1 u6.2.2 hw
set_option maxRecDepth 100000 in
set_option maxHeartbeats 8000000 in
theorem c_X2_goYear {l : Launch} {D : va_G} {ca : Nat → ClassId} {sd : Nat → Nat}  (nd : Nat → Nat) (ad : Nat → Nat) (sk : Nat → Int32) (ze : Nat → Int32) (ma : Nat → Int32) (ki : Nat → Int32) (dn : Nat → Int32) (wi : Nat → Int32) (du : Nat → Int32) (he : Nat → Int32) (yr : Int32) (sz : Int32)   {Q : (Nat → Int32) → (Nat → Int32) → (Nat → Int32) → (Nat → Int32) → (Nat → Int32) → (Nat → Int32) → (Int32) → Prop} (hw : wp_X2_goYear sk ze ma ki dn wi du he yr sz   Q) : Cn l D ca sd yX2_goYear cX2_goYear 2 none { frames := 6, cells := 0, slots := 0, locals := 160 } [.ref (ad 0)] ((wN ca nd sd) ++ (wC ca ad (nd 0) sk ze ma ki dn wi du he yr sz)) ((wN ca nd sd) ++ (wC ca ad (nd 0) sk ze ma ki dn wi du he yr sz)) 0 0 (Rv D (fun u : (Nat → Int32) × (Nat → Int32) × (Nat → Int32) × (Nat → Int32) × (Nat → Int32) × (Nat → Int32) × (Int32) => Q u.1 u.2.1 u.2.2.1 u.2.2.2.1 u.2.2.2.2.1 u.2.2.2.2.2.1 u.2.2.2.2.2.2) (fun u => ((wN ca nd sd) ++ (wC ca ad (nd 0) sk u.1 u.2.1 ki u.2.2.1 u.2.2.2.1 u.2.2.2.2.1 u.2.2.2.2.2.1 u.2.2.2.2.2.2 sz)))) := by
  refine cn_of (by decide) (Nat.le_of_ble_eq_true rfl) (fun k C hR hB _ => ?_)
  have C : Cx D ca sd cX2_goYear RX2 none { frames := 6, cells := 0, slots := 0, locals := 160 } k 2 := C
  unfold wp_X2_goYear at hw
  show J l D k 2 0 0 0 ((wN ca nd sd) ++ (wC ca ad (nd 0) sk ze ma ki dn wi du he yr sz)) [(0, .ref (ad 0))] []
  refine j_iconst C 0 dX2_goYear_0 (by decide) ?_
  refine j_istore_n C [(1, .int 0), (0, .ref (ad 0))] dX2_goYear_1 (by decide) rfl ?_
  refine j_lsub [1, 0] [(0, .ref (ad 0)), (1, .int 0)] rfl ?_
  obtain ⟨n3, hw⟩ := hw
  refine ml_X2_goYear_2 nd ad  sk ki he yr sz C hR hB (fun y3_1 y3_ze y3_ma y3_dn y3_wi y3_du hw => ?_) n3 0 ze ma dn wi du hw
  refine j_aload_n C 0 dX2_goYear_29 rfl ?_
  refine j_cvT C hB 7 16 (fun u4 => ((wN ca nd sd) ++ (wC ca ad (nd 0) sk y3_ze y3_ma ki y3_dn y3_wi y3_du u4 yr sz))) rfl (fun _ => rfl) (jr_V C lkV_X2_77 (c_X2_countHeld ad (nd 0) sk y3_ze y3_ma ki y3_dn y3_wi y3_du he yr sz hw) ⟨rfl, rfl, by decide, by decide, by decide, by decide⟩ [7, 8, 9, 10, 11, 12, 13, 14, 15] (by decide) rfl (fx_rw C hB [7, 8, 9, 10, 11, 12, 13, 14, 15] rfl) 7 2 rfl rfl rfl rfl (Nat.le_of_ble_eq_true rfl) dX2_goYear_30) (fun u4 hw => ?_)
  refine j_iconst C 0 dX2_goYear_33 (by decide) ?_
  refine j_istore_n C [(1, .int 0), (0, .ref (ad 0))] dX2_goYear_34 (by decide) rfl ?_
  refine j_lsub [1, 0] [(0, .ref (ad 0)), (1, .int 0)] rfl ?_
  obtain ⟨n7, hw⟩ := hw
  refine ml_X2_goYear_35 nd ad  sk y3_ze y3_ma ki y3_dn yr sz C hR hB (fun y7_1 y7_wi y7_du y7_he hw => ?_) n7 0 y3_wi y3_du u4 hw
  refine j_aload_n C 0 dX2_goYear_62 rfl ?_
  refine j_dup C dX2_goYear_63 rfl ?_
  refine j_get C fl_X2_52_2 7 dX2_goYear_64 rfl rfl ?_
  refine j_iconst C 1 dX2_goYear_67 (by decide) ?_
  refine j_iadd C dX2_goYear_68 ?_
  refine j_put C hB fw_X2_52_2 7 ((wN ca nd sd) ++ (wC ca ad (nd 0) sk y3_ze y3_ma ki y3_dn y7_wi y7_du y7_he (yr + 1) sz)) dX2_goYear_69 rfl rfl rfl (Nat.le_of_ble_eq_true rfl) rfl ?_
  exact j_vret C hB hR (y3_ze, y3_ma, y3_dn, y7_wi, y7_du, y7_he, yr + 1) rfl dX2_goYear_72 hw rfl
def wpl_X2_goYears_2 (sk : Nat → Int32) (ki : Nat → Int32) (sz : Int32) (x1 : Int32) (K : (Int32) → (Nat → Int32) → (Nat → Int32) → (Nat → Int32) → (Nat → Int32) → (Nat → Int32) → (Nat → Int32) → (Int32) → Prop) : Nat → (Int32) → (Nat → Int32) → (Nat → Int32) → (Nat → Int32) → (Nat → Int32) → (Nat → Int32) → (Nat → Int32) → (Int32) → Prop
  | 0, _, _, _, _, _, _, _, _ => False
  | n + 1, x2, ze, ma, dn, wi, du, he, yr => (x1 ≤ x2 → K x2 ze ma dn wi du he yr) ∧ (¬ (x1 ≤ x2) → wp_X2_goYear sk ze ma ki dn wi du he yr sz (fun c1_0 c1_1 c1_2 c1_3 c1_4 c1_5 c1_6 => wpl_X2_goYears_2 sk ki sz x1  K n (x2 + 1) c1_0 c1_1 c1_2 c1_3 c1_4 c1_5 c1_6))
def wp_X2_goYears (sk : Nat → Int32) (ze : Nat → Int32) (ma : Nat → Int32) (ki : Nat → Int32) (dn : Nat → Int32) (wi : Nat → Int32) (du : Nat → Int32) (he : Nat → Int32) (yr : Int32) (sz : Int32)  (a1 : Int32) (Q : (Nat → Int32) → (Nat → Int32) → (Nat → Int32) → (Nat → Int32) → (Nat → Int32) → (Nat → Int32) → (Int32) → Prop) : Prop := ∃ n2 : Nat, wpl_X2_goYears_2 sk ki sz a1  (fun y2_2 y2_ze y2_ma y2_dn y2_wi y2_du y2_he y2_yr => Q y2_ze y2_ma y2_dn y2_wi y2_du y2_he y2_yr) n2 0 ze ma dn wi du he yr
set_option maxRecDepth 100000 in
set_option maxHeartbeats 8000000 in
theorem ml_X2_goYears_2 {l : Launch} {D : va_G} {ca : Nat → ClassId} {sd : Nat → Nat}  {k : Kx} (nd : Nat → Nat) (ad : Nat → Nat)  (sk : Nat → Int32) (ki : Nat → Int32) (sz : Int32) (x1 : Int32) (C : Cx D ca sd cX2_goYears RX2 none { frames := 7, cells := 0, slots := 0, locals := 181 } k 3) {Q : (Nat → Int32) → (Nat → Int32) → (Nat → Int32) → (Nat → Int32) → (Nat → Int32) → (Nat → Int32) → (Int32) → Prop} (hR : Rx (Rv D (fun u : (Nat → Int32) × (Nat → Int32) × (Nat → Int32) × (Nat → Int32) × (Nat → Int32) × (Nat → Int32) × (Int32) => Q u.1 u.2.1 u.2.2.1 u.2.2.2.1 u.2.2.2.2.1 u.2.2.2.2.2.1 u.2.2.2.2.2.2) (fun u => ((wN ca nd sd) ++ (wC ca ad (nd 0) sk u.1 u.2.1 ki u.2.2.1 u.2.2.2.1 u.2.2.2.2.1 u.2.2.2.2.2.1 u.2.2.2.2.2.2 sz)))) 0 0 k) (hB : Wx k) {K : (Int32) → (Nat → Int32) → (Nat → Int32) → (Nat → Int32) → (Nat → Int32) → (Nat → Int32) → (Nat → Int32) → (Int32) → Prop} (hK : ∀ (x2' : Int32) (ze' : Nat → Int32) (ma' : Nat → Int32) (dn' : Nat → Int32) (wi' : Nat → Int32) (du' : Nat → Int32) (he' : Nat → Int32) (yr' : Int32), K x2' ze' ma' dn' wi' du' he' yr' → J l D k 3 0 0 17 ((wN ca nd sd) ++ (wC ca ad (nd 0) sk ze' ma' ki dn' wi' du' he' yr' sz)) [(0, .ref (ad 0)), (1, .int x1), (2, .int x2')] []) : ∀ (n : Nat) (x2 : Int32) (ze : Nat → Int32) (ma : Nat → Int32) (dn : Nat → Int32) (wi : Nat → Int32) (du : Nat → Int32) (he : Nat → Int32) (yr : Int32), wpl_X2_goYears_2 sk ki sz x1  K n x2 ze ma dn wi du he yr → J l D k 3 0 0 2 ((wN ca nd sd) ++ (wC ca ad (nd 0) sk ze ma ki dn wi du he yr sz)) [(0, .ref (ad 0)), (1, .int x1), (2, .int x2)] [] := by
  intro n
  induction n with
  | zero =>
    intro x2 ze ma dn wi du he yr hw
    rw [wpl_X2_goYears_2] at hw
    exact hw.elim
  | succ n ih =>
    intro x2 ze ma dn wi du he yr hw
    rw [wpl_X2_goYears_2] at hw
    refine j_iload_n C 2 dX2_goYears_2 rfl ?_
    refine j_iload_n C 1 dX2_goYears_3 rfl ?_
    refine j_icmp_ge C 17 dX2_goYears_4 (by decide) (fun z => ?_) (fun z => ?_)
    · replace hw := hw.1 z
      exact hK x2 ze ma dn wi du he yr hw
    · replace hw := hw.2 z
      refine j_aload_n C 0 dX2_goYears_7 rfl ?_
      refine j_cvT C hB 0 16 (fun u1 => ((wN ca nd sd) ++ (wC ca ad (nd 0) sk u1.1 u1.2.1 ki u1.2.2.1 u1.2.2.2.1 u1.2.2.2.2.1 u1.2.2.2.2.2.1 u1.2.2.2.2.2.2 sz))) rfl (fun _ => rfl) (jr_V C lkV_X2_67 (c_X2_goYear nd ad sk ze ma ki dn wi du he yr sz hw) ⟨rfl, rfl, by decide, by decide, by decide, by decide⟩ [0, 1, 2, 3, 4, 5, 6, 7, 8, 9, 10, 11, 12, 13, 14, 15] rfl rfl (fx_rw C hB [0, 1, 2, 3, 4, 5, 6, 7, 8, 9, 10, 11, 12, 13, 14, 15] rfl) 7 2 rfl rfl rfl rfl (Nat.le_of_ble_eq_true rfl) dX2_goYears_8) (fun u1 hw => ?_)
      refine j_iinc C 2 (x2 + 1) [(2, .int (x2 + 1)), (0, .ref (ad 0)), (1, .int x1)] dX2_goYears_11 rfl rfl (by decide) rfl ?_
      refine j_goto C 2 dX2_goYears_14 (by decide) ?_
      refine j_lsub [1, 2, 0] [(0, .ref (ad 0)), (1, .int x1), (2, .int (x2 + 1))] rfl ?_
      exact ih (x2 + 1) u1.1 u1.2.1 u1.2.2.1 u1.2.2.2.1 u1.2.2.2.2.1 u1.2.2.2.2.2.1 u1.2.2.2.2.2.2 hw
set_option maxRecDepth 100000 in
set_option maxHeartbeats 8000000 in
theorem c_X2_goYears {l : Launch} {D : va_G} {ca : Nat → ClassId} {sd : Nat → Nat}  (nd : Nat → Nat) (ad : Nat → Nat) (sk : Nat → Int32) (ze : Nat → Int32) (ma : Nat → Int32) (ki : Nat → Int32) (dn : Nat → Int32) (wi : Nat → Int32) (du : Nat → Int32) (he : Nat → Int32) (yr : Int32) (sz : Int32)  (a1 : Int32) {Q : (Nat → Int32) → (Nat → Int32) → (Nat → Int32) → (Nat → Int32) → (Nat → Int32) → (Nat → Int32) → (Int32) → Prop} (hw : wp_X2_goYears sk ze ma ki dn wi du he yr sz  a1 Q) : Cn l D ca sd yX2_goYears cX2_goYears 3 none { frames := 7, cells := 0, slots := 0, locals := 181 } [.ref (ad 0), .int a1] ((wN ca nd sd) ++ (wC ca ad (nd 0) sk ze ma ki dn wi du he yr sz)) ((wN ca nd sd) ++ (wC ca ad (nd 0) sk ze ma ki dn wi du he yr sz)) 0 0 (Rv D (fun u : (Nat → Int32) × (Nat → Int32) × (Nat → Int32) × (Nat → Int32) × (Nat → Int32) × (Nat → Int32) × (Int32) => Q u.1 u.2.1 u.2.2.1 u.2.2.2.1 u.2.2.2.2.1 u.2.2.2.2.2.1 u.2.2.2.2.2.2) (fun u => ((wN ca nd sd) ++ (wC ca ad (nd 0) sk u.1 u.2.1 ki u.2.2.1 u.2.2.2.1 u.2.2.2.2.1 u.2.2.2.2.2.1 u.2.2.2.2.2.2 sz)))) := by
  refine cn_of (by decide) (Nat.le_of_ble_eq_true rfl) (fun k C hR hB _ => ?_)
  have C : Cx D ca sd cX2_goYears RX2 none { frames := 7, cells := 0, slots := 0, locals := 181 } k 3 := C
  unfold wp_X2_goYears at hw
  show J l D k 3 0 0 0 ((wN ca nd sd) ++ (wC ca ad (nd 0) sk ze ma ki dn wi du he yr sz)) [(0, .ref (ad 0)), (1, .int a1)] []
  refine j_iconst C 0 dX2_goYears_0 (by decide) ?_
  refine j_istore_n C [(2, .int 0), (0, .ref (ad 0)), (1, .int a1)] dX2_goYears_1 (by decide) rfl ?_
  refine j_lsub [1, 2, 0] [(0, .ref (ad 0)), (1, .int a1), (2, .int 0)] rfl ?_
  obtain ⟨n2, hw⟩ := hw
  refine ml_X2_goYears_2 nd ad  sk ki sz a1 C hR hB (fun y2_2 y2_ze y2_ma y2_dn y2_wi y2_du y2_he y2_yr hw => ?_) n2 0 ze ma dn wi du he yr hw
  exact j_vret C hB hR (y2_ze, y2_ma, y2_dn, y2_wi, y2_du, y2_he, y2_yr) rfl dX2_goYears_17 hw rfl
def wp_X2_become (sk : Nat → Int32) (ze : Nat → Int32) (ma : Nat → Int32) (ki : Nat → Int32) (dn : Nat → Int32) (wi : Nat → Int32) (du : Nat → Int32) (osk : Nat → Int32) (oze : Nat → Int32) (oma : Nat → Int32) (oki : Nat → Int32) (odn : Nat → Int32) (owi : Nat → Int32) (odu : Nat → Int32) (oyr : Int32) (osz : Int32)   (Q : (Nat → Int32) → (Nat → Int32) → (Nat → Int32) → (Nat → Int32) → (Nat → Int32) → (Nat → Int32) → (Nat → Int32) → (Int32) → (Int32) → Prop) : Prop := Q (va_cpy osk sk 0 0 6) (va_cpy oze ze 0 0 6) (va_cpy oma ma 0 0 6) (va_cpy oki ki 0 0 8) (va_cpy odn dn 0 0 8) (va_cpy owi wi 0 0 8) (va_cpy odu du 0 0 8) oyr osz
set_option maxRecDepth 100000 in
set_option maxHeartbeats 8000000 in
theorem c_X2_become {l : Launch} {D : va_G} {ca : Nat → ClassId} {sd : Nat → Nat}  (ad : Nat → Nat) (bd : Nat → Nat) (n0 : Nat) (sk : Nat → Int32) (ze : Nat → Int32) (ma : Nat → Int32) (ki : Nat → Int32) (dn : Nat → Int32) (wi : Nat → Int32) (du : Nat → Int32) (he : Nat → Int32) (yr : Int32) (sz : Int32) (osk : Nat → Int32) (oze : Nat → Int32) (oma : Nat → Int32) (oki : Nat → Int32) (odn : Nat → Int32) (owi : Nat → Int32) (odu : Nat → Int32) (ohe : Nat → Int32) (oyr : Int32) (osz : Int32)   {Q : (Nat → Int32) → (Nat → Int32) → (Nat → Int32) → (Nat → Int32) → (Nat → Int32) → (Nat → Int32) → (Nat → Int32) → (Int32) → (Int32) → Prop} (hw : wp_X2_become sk ze ma ki dn wi du osk oze oma oki odn owi odu oyr osz   Q) : Cn l D ca sd yX2_become cX2_become 2 none { frames := 1, cells := 0, slots := 0, locals := 60 } [.ref (ad 0), .ref (bd 0)] ((wC ca ad n0 sk ze ma ki dn wi du he yr sz) ++ (wC ca bd n0 osk oze oma oki odn owi odu ohe oyr osz)) ((wC ca ad n0 sk ze ma ki dn wi du he yr sz) ++ (wC ca bd n0 osk oze oma oki odn owi odu ohe oyr osz)) 0 0 (Rv D (fun u : (Nat → Int32) × (Nat → Int32) × (Nat → Int32) × (Nat → Int32) × (Nat → Int32) × (Nat → Int32) × (Nat → Int32) × (Int32) × (Int32) => Q u.1 u.2.1 u.2.2.1 u.2.2.2.1 u.2.2.2.2.1 u.2.2.2.2.2.1 u.2.2.2.2.2.2.1 u.2.2.2.2.2.2.2.1 u.2.2.2.2.2.2.2.2) (fun u => ((wC ca ad n0 u.1 u.2.1 u.2.2.1 u.2.2.2.1 u.2.2.2.2.1 u.2.2.2.2.2.1 u.2.2.2.2.2.2.1 he u.2.2.2.2.2.2.2.1 u.2.2.2.2.2.2.2.2) ++ (wC ca bd n0 osk oze oma oki odn owi odu ohe oyr osz)))) := by
  refine cn_of (by decide) (Nat.le_of_ble_eq_true rfl) (fun k C hR hB _ => ?_)
  have C : Cx D ca sd cX2_become RX2 none { frames := 1, cells := 0, slots := 0, locals := 60 } k 2 := C
  unfold wp_X2_become at hw
  show J l D k 2 0 0 0 ((wC ca ad n0 sk ze ma ki dn wi du he yr sz) ++ (wC ca bd n0 osk oze oma oki odn owi odu ohe oyr osz)) [(0, .ref (ad 0)), (1, .ref (bd 0))] []
  refine j_aload_n C 1 dX2_become_0 rfl ?_
  refine j_get C fl_X2_9_2 9 dX2_become_1 rfl rfl ?_
  refine j_iconst C 0 dX2_become_4 (by decide) ?_
  refine j_aload_n C 0 dX2_become_5 rfl ?_
  refine j_get C fl_X2_9_2 0 dX2_become_6 rfl rfl ?_
  refine j_iconst C 0 dX2_become_9 (by decide) ?_
  refine j_bipush C 6 dX2_become_10 (by decide) ?_
  refine j_copyi C hB lc_X2_46 10 1 0 0 6 ((wC ca ad n0 (va_cpy osk sk 0 0 6) ze ma ki dn wi du he yr sz) ++ (wC ca bd n0 osk oze oma oki odn owi odu ohe oyr osz)) rfl rfl (by decide) (by decide) (by decide) (by decide) (by decide) (by decide) (by decide) (by decide) (by decide) (Nat.le_of_ble_eq_true rfl) dX2_become_12 rfl ?_
  refine j_aload_n C 1 dX2_become_15 rfl ?_
  refine j_get C fl_X2_15_2 9 dX2_become_16 rfl rfl ?_
  refine j_iconst C 0 dX2_become_19 (by decide) ?_
  refine j_aload_n C 0 dX2_become_20 rfl ?_
  refine j_get C fl_X2_15_2 0 dX2_become_21 rfl rfl ?_
  refine j_iconst C 0 dX2_become_24 (by decide) ?_
  refine j_bipush C 6 dX2_become_25 (by decide) ?_
  refine j_copyi C hB lc_X2_46 11 2 0 0 6 ((wC ca ad n0 (va_cpy osk sk 0 0 6) (va_cpy oze ze 0 0 6) ma ki dn wi du he yr sz) ++ (wC ca bd n0 osk oze oma oki odn owi odu ohe oyr osz)) rfl rfl (by decide) (by decide) (by decide) (by decide) (by decide) (by decide) (by decide) (by decide) (by decide) (Nat.le_of_ble_eq_true rfl) dX2_become_27 rfl ?_
  refine j_aload_n C 1 dX2_become_30 rfl ?_
  refine j_get C fl_X2_18_2 9 dX2_become_31 rfl rfl ?_
  refine j_iconst C 0 dX2_become_34 (by decide) ?_
  refine j_aload_n C 0 dX2_become_35 rfl ?_
  refine j_get C fl_X2_18_2 0 dX2_become_36 rfl rfl ?_
  refine j_iconst C 0 dX2_become_39 (by decide) ?_
  refine j_bipush C 6 dX2_become_40 (by decide) ?_
  refine j_copyi C hB lc_X2_46 12 3 0 0 6 ((wC ca ad n0 (va_cpy osk sk 0 0 6) (va_cpy oze ze 0 0 6) (va_cpy oma ma 0 0 6) ki dn wi du he yr sz) ++ (wC ca bd n0 osk oze oma oki odn owi odu ohe oyr osz)) rfl rfl (by decide) (by decide) (by decide) (by decide) (by decide) (by decide) (by decide) (by decide) (by decide) (Nat.le_of_ble_eq_true rfl) dX2_become_42 rfl ?_
  refine j_aload_n C 1 dX2_become_45 rfl ?_
  refine j_get C fl_X2_21_2 9 dX2_become_46 rfl rfl ?_
  refine j_iconst C 0 dX2_become_49 (by decide) ?_
  refine j_aload_n C 0 dX2_become_50 rfl ?_
  refine j_get C fl_X2_21_2 0 dX2_become_51 rfl rfl ?_
  refine j_iconst C 0 dX2_become_54 (by decide) ?_
  refine j_bipush C 8 dX2_become_55 (by decide) ?_
  refine j_copyi C hB lc_X2_46 13 4 0 0 8 ((wC ca ad n0 (va_cpy osk sk 0 0 6) (va_cpy oze ze 0 0 6) (va_cpy oma ma 0 0 6) (va_cpy oki ki 0 0 8) dn wi du he yr sz) ++ (wC ca bd n0 osk oze oma oki odn owi odu ohe oyr osz)) rfl rfl (by decide) (by decide) (by decide) (by decide) (by decide) (by decide) (by decide) (by decide) (by decide) (Nat.le_of_ble_eq_true rfl) dX2_become_57 rfl ?_
  refine j_aload_n C 1 dX2_become_60 rfl ?_
  refine j_get C fl_X2_24_2 9 dX2_become_61 rfl rfl ?_
  refine j_iconst C 0 dX2_become_64 (by decide) ?_
  refine j_aload_n C 0 dX2_become_65 rfl ?_
  refine j_get C fl_X2_24_2 0 dX2_become_66 rfl rfl ?_
  refine j_iconst C 0 dX2_become_69 (by decide) ?_
  refine j_bipush C 8 dX2_become_70 (by decide) ?_
  refine j_copyi C hB lc_X2_46 14 5 0 0 8 ((wC ca ad n0 (va_cpy osk sk 0 0 6) (va_cpy oze ze 0 0 6) (va_cpy oma ma 0 0 6) (va_cpy oki ki 0 0 8) (va_cpy odn dn 0 0 8) wi du he yr sz) ++ (wC ca bd n0 osk oze oma oki odn owi odu ohe oyr osz)) rfl rfl (by decide) (by decide) (by decide) (by decide) (by decide) (by decide) (by decide) (by decide) (by decide) (Nat.le_of_ble_eq_true rfl) dX2_become_72 rfl ?_
  refine j_aload_n C 1 dX2_become_75 rfl ?_
  refine j_get C fl_X2_27_2 9 dX2_become_76 rfl rfl ?_
  refine j_iconst C 0 dX2_become_79 (by decide) ?_
  refine j_aload_n C 0 dX2_become_80 rfl ?_
  refine j_get C fl_X2_27_2 0 dX2_become_81 rfl rfl ?_
  refine j_iconst C 0 dX2_become_84 (by decide) ?_
  refine j_bipush C 8 dX2_become_85 (by decide) ?_
  refine j_copyi C hB lc_X2_46 15 6 0 0 8 ((wC ca ad n0 (va_cpy osk sk 0 0 6) (va_cpy oze ze 0 0 6) (va_cpy oma ma 0 0 6) (va_cpy oki ki 0 0 8) (va_cpy odn dn 0 0 8) (va_cpy owi wi 0 0 8) du he yr sz) ++ (wC ca bd n0 osk oze oma oki odn owi odu ohe oyr osz)) rfl rfl (by decide) (by decide) (by decide) (by decide) (by decide) (by decide) (by decide) (by decide) (by decide) (Nat.le_of_ble_eq_true rfl) dX2_become_87 rfl ?_
  refine j_aload_n C 1 dX2_become_90 rfl ?_
  refine j_get C fl_X2_30_2 9 dX2_become_91 rfl rfl ?_
  refine j_iconst C 0 dX2_become_94 (by decide) ?_
  refine j_aload_n C 0 dX2_become_95 rfl ?_
  refine j_get C fl_X2_30_2 0 dX2_become_96 rfl rfl ?_
  refine j_iconst C 0 dX2_become_99 (by decide) ?_
  refine j_bipush C 8 dX2_become_100 (by decide) ?_
  refine j_copyi C hB lc_X2_46 16 7 0 0 8 ((wC ca ad n0 (va_cpy osk sk 0 0 6) (va_cpy oze ze 0 0 6) (va_cpy oma ma 0 0 6) (va_cpy oki ki 0 0 8) (va_cpy odn dn 0 0 8) (va_cpy owi wi 0 0 8) (va_cpy odu du 0 0 8) he yr sz) ++ (wC ca bd n0 osk oze oma oki odn owi odu ohe oyr osz)) rfl rfl (by decide) (by decide) (by decide) (by decide) (by decide) (by decide) (by decide) (by decide) (by decide) (Nat.le_of_ble_eq_true rfl) dX2_become_102 rfl ?_
  refine j_aload_n C 0 dX2_become_105 rfl ?_
  refine j_aload_n C 1 dX2_become_106 rfl ?_
  refine j_get C fl_X2_52_2 9 dX2_become_107 rfl rfl ?_
  refine j_put C hB fw_X2_52_2 0 ((wC ca ad n0 (va_cpy osk sk 0 0 6) (va_cpy oze ze 0 0 6) (va_cpy oma ma 0 0 6) (va_cpy oki ki 0 0 8) (va_cpy odn dn 0 0 8) (va_cpy owi wi 0 0 8) (va_cpy odu du 0 0 8) he oyr sz) ++ (wC ca bd n0 osk oze oma oki odn owi odu ohe oyr osz)) dX2_become_110 rfl rfl rfl (Nat.le_of_ble_eq_true rfl) rfl ?_
  refine j_aload_n C 0 dX2_become_113 rfl ?_
  refine j_aload_n C 1 dX2_become_114 rfl ?_
  refine j_get C fl_X2_56_2 9 dX2_become_115 rfl rfl ?_
  refine j_put C hB fw_X2_56_2 0 ((wC ca ad n0 (va_cpy osk sk 0 0 6) (va_cpy oze ze 0 0 6) (va_cpy oma ma 0 0 6) (va_cpy oki ki 0 0 8) (va_cpy odn dn 0 0 8) (va_cpy owi wi 0 0 8) (va_cpy odu du 0 0 8) he oyr osz) ++ (wC ca bd n0 osk oze oma oki odn owi odu ohe oyr osz)) dX2_become_118 rfl rfl rfl (Nat.le_of_ble_eq_true rfl) rfl ?_
  exact j_vret C hB hR (va_cpy osk sk 0 0 6, va_cpy oze ze 0 0 6, va_cpy oma ma 0 0 6, va_cpy oki ki 0 0 8, va_cpy odn dn 0 0 8, va_cpy owi wi 0 0 8, va_cpy odu du 0 0 8, oyr, osz) rfl dX2_become_121 hw rfl
def wp_X2_becomeR (osk : Nat → Int32) (oze : Nat → Int32) (oma : Nat → Int32) (oki : Nat → Int32) (odn : Nat → Int32) (owi : Nat → Int32) (odu : Nat → Int32) (oyr : Int32) (osz : Int32) (sk : Nat → Int32) (ze : Nat → Int32) (ma : Nat → Int32) (ki : Nat → Int32) (dn : Nat → Int32) (wi : Nat → Int32) (du : Nat → Int32)   (Q : (Nat → Int32) → (Nat → Int32) → (Nat → Int32) → (Nat → Int32) → (Nat → Int32) → (Nat → Int32) → (Nat → Int32) → (Int32) → (Int32) → Prop) : Prop := Q (va_cpy osk sk 0 0 6) (va_cpy oze ze 0 0 6) (va_cpy oma ma 0 0 6) (va_cpy oki ki 0 0 8) (va_cpy odn dn 0 0 8) (va_cpy owi wi 0 0 8) (va_cpy odu du 0 0 8) oyr osz
set_option maxRecDepth 100000 in
set_option maxHeartbeats 8000000 in
theorem c_X2_becomeR {l : Launch} {D : va_G} {ca : Nat → ClassId} {sd : Nat → Nat}  (ad : Nat → Nat) (bd : Nat → Nat) (n0 : Nat) (osk : Nat → Int32) (oze : Nat → Int32) (oma : Nat → Int32) (oki : Nat → Int32) (odn : Nat → Int32) (owi : Nat → Int32) (odu : Nat → Int32) (ohe : Nat → Int32) (oyr : Int32) (osz : Int32) (sk : Nat → Int32) (ze : Nat → Int32) (ma : Nat → Int32) (ki : Nat → Int32) (dn : Nat → Int32) (wi : Nat → Int32) (du : Nat → Int32) (he : Nat → Int32) (yr : Int32) (sz : Int32)   {Q : (Nat → Int32) → (Nat → Int32) → (Nat → Int32) → (Nat → Int32) → (Nat → Int32) → (Nat → Int32) → (Nat → Int32) → (Int32) → (Int32) → Prop} (hw : wp_X2_becomeR osk oze oma oki odn owi odu oyr osz sk ze ma ki dn wi du   Q) : Cn l D ca sd yX2_become cX2_become 2 none { frames := 1, cells := 0, slots := 0, locals := 60 } [.ref (ad 0), .ref (bd 0)] ((wC ca bd n0 osk oze oma oki odn owi odu ohe oyr osz) ++ (wC ca ad n0 sk ze ma ki dn wi du he yr sz)) ((wC ca bd n0 osk oze oma oki odn owi odu ohe oyr osz) ++ (wC ca ad n0 sk ze ma ki dn wi du he yr sz)) 0 0 (Rv D (fun u : (Nat → Int32) × (Nat → Int32) × (Nat → Int32) × (Nat → Int32) × (Nat → Int32) × (Nat → Int32) × (Nat → Int32) × (Int32) × (Int32) => Q u.1 u.2.1 u.2.2.1 u.2.2.2.1 u.2.2.2.2.1 u.2.2.2.2.2.1 u.2.2.2.2.2.2.1 u.2.2.2.2.2.2.2.1 u.2.2.2.2.2.2.2.2) (fun u => ((wC ca bd n0 osk oze oma oki odn owi odu ohe oyr osz) ++ (wC ca ad n0 u.1 u.2.1 u.2.2.1 u.2.2.2.1 u.2.2.2.2.1 u.2.2.2.2.2.1 u.2.2.2.2.2.2.1 he u.2.2.2.2.2.2.2.1 u.2.2.2.2.2.2.2.2)))) := by
  refine cn_of (by decide) (Nat.le_of_ble_eq_true rfl) (fun k C hR hB _ => ?_)
  have C : Cx D ca sd cX2_become RX2 none { frames := 1, cells := 0, slots := 0, locals := 60 } k 2 := C
  unfold wp_X2_becomeR at hw
  show J l D k 2 0 0 0 ((wC ca bd n0 osk oze oma oki odn owi odu ohe oyr osz) ++ (wC ca ad n0 sk ze ma ki dn wi du he yr sz)) [(0, .ref (ad 0)), (1, .ref (bd 0))] []
  refine j_aload_n C 1 dX2_become_0 rfl ?_
  refine j_get C fl_X2_9_2 0 dX2_become_1 rfl rfl ?_
  refine j_iconst C 0 dX2_become_4 (by decide) ?_
  refine j_aload_n C 0 dX2_become_5 rfl ?_
  refine j_get C fl_X2_9_2 9 dX2_become_6 rfl rfl ?_
  refine j_iconst C 0 dX2_become_9 (by decide) ?_
  refine j_bipush C 6 dX2_become_10 (by decide) ?_
  refine j_copyi C hB lc_X2_46 1 10 0 0 6 ((wC ca bd n0 osk oze oma oki odn owi odu ohe oyr osz) ++ (wC ca ad n0 (va_cpy osk sk 0 0 6) ze ma ki dn wi du he yr sz)) rfl rfl (by decide) (by decide) (by decide) (by decide) (by decide) (by decide) (by decide) (by decide) (by decide) (Nat.le_of_ble_eq_true rfl) dX2_become_12 rfl ?_
  refine j_aload_n C 1 dX2_become_15 rfl ?_
  refine j_get C fl_X2_15_2 0 dX2_become_16 rfl rfl ?_
  refine j_iconst C 0 dX2_become_19 (by decide) ?_
  refine j_aload_n C 0 dX2_become_20 rfl ?_
  refine j_get C fl_X2_15_2 9 dX2_become_21 rfl rfl ?_
  refine j_iconst C 0 dX2_become_24 (by decide) ?_
  refine j_bipush C 6 dX2_become_25 (by decide) ?_
  refine j_copyi C hB lc_X2_46 2 11 0 0 6 ((wC ca bd n0 osk oze oma oki odn owi odu ohe oyr osz) ++ (wC ca ad n0 (va_cpy osk sk 0 0 6) (va_cpy oze ze 0 0 6) ma ki dn wi du he yr sz)) rfl rfl (by decide) (by decide) (by decide) (by decide) (by decide) (by decide) (by decide) (by decide) (by decide) (Nat.le_of_ble_eq_true rfl) dX2_become_27 rfl ?_
  refine j_aload_n C 1 dX2_become_30 rfl ?_
  refine j_get C fl_X2_18_2 0 dX2_become_31 rfl rfl ?_
  refine j_iconst C 0 dX2_become_34 (by decide) ?_
  refine j_aload_n C 0 dX2_become_35 rfl ?_
  refine j_get C fl_X2_18_2 9 dX2_become_36 rfl rfl ?_
  refine j_iconst C 0 dX2_become_39 (by decide) ?_
  refine j_bipush C 6 dX2_become_40 (by decide) ?_
  refine j_copyi C hB lc_X2_46 3 12 0 0 6 ((wC ca bd n0 osk oze oma oki odn owi odu ohe oyr osz) ++ (wC ca ad n0 (va_cpy osk sk 0 0 6) (va_cpy oze ze 0 0 6) (va_cpy oma ma 0 0 6) ki dn wi du he yr sz)) rfl rfl (by decide) (by decide) (by decide) (by decide) (by decide) (by decide) (by decide) (by decide) (by decide) (Nat.le_of_ble_eq_true rfl) dX2_become_42 rfl ?_
  refine j_aload_n C 1 dX2_become_45 rfl ?_
  refine j_get C fl_X2_21_2 0 dX2_become_46 rfl rfl ?_
  refine j_iconst C 0 dX2_become_49 (by decide) ?_
  refine j_aload_n C 0 dX2_become_50 rfl ?_
  refine j_get C fl_X2_21_2 9 dX2_become_51 rfl rfl ?_
  refine j_iconst C 0 dX2_become_54 (by decide) ?_
  refine j_bipush C 8 dX2_become_55 (by decide) ?_
  refine j_copyi C hB lc_X2_46 4 13 0 0 8 ((wC ca bd n0 osk oze oma oki odn owi odu ohe oyr osz) ++ (wC ca ad n0 (va_cpy osk sk 0 0 6) (va_cpy oze ze 0 0 6) (va_cpy oma ma 0 0 6) (va_cpy oki ki 0 0 8) dn wi du he yr sz)) rfl rfl (by decide) (by decide) (by decide) (by decide) (by decide) (by decide) (by decide) (by decide) (by decide) (Nat.le_of_ble_eq_true rfl) dX2_become_57 rfl ?_
  refine j_aload_n C 1 dX2_become_60 rfl ?_
  refine j_get C fl_X2_24_2 0 dX2_become_61 rfl rfl ?_
  refine j_iconst C 0 dX2_become_64 (by decide) ?_
  refine j_aload_n C 0 dX2_become_65 rfl ?_
  refine j_get C fl_X2_24_2 9 dX2_become_66 rfl rfl ?_
  refine j_iconst C 0 dX2_become_69 (by decide) ?_
  refine j_bipush C 8 dX2_become_70 (by decide) ?_
  refine j_copyi C hB lc_X2_46 5 14 0 0 8 ((wC ca bd n0 osk oze oma oki odn owi odu ohe oyr osz) ++ (wC ca ad n0 (va_cpy osk sk 0 0 6) (va_cpy oze ze 0 0 6) (va_cpy oma ma 0 0 6) (va_cpy oki ki 0 0 8) (va_cpy odn dn 0 0 8) wi du he yr sz)) rfl rfl (by decide) (by decide) (by decide) (by decide) (by decide) (by decide) (by decide) (by decide) (by decide) (Nat.le_of_ble_eq_true rfl) dX2_become_72 rfl ?_
  refine j_aload_n C 1 dX2_become_75 rfl ?_
  refine j_get C fl_X2_27_2 0 dX2_become_76 rfl rfl ?_
  refine j_iconst C 0 dX2_become_79 (by decide) ?_
  refine j_aload_n C 0 dX2_become_80 rfl ?_
  refine j_get C fl_X2_27_2 9 dX2_become_81 rfl rfl ?_
  refine j_iconst C 0 dX2_become_84 (by decide) ?_
  refine j_bipush C 8 dX2_become_85 (by decide) ?_
  refine j_copyi C hB lc_X2_46 6 15 0 0 8 ((wC ca bd n0 osk oze oma oki odn owi odu ohe oyr osz) ++ (wC ca ad n0 (va_cpy osk sk 0 0 6) (va_cpy oze ze 0 0 6) (va_cpy oma ma 0 0 6) (va_cpy oki ki 0 0 8) (va_cpy odn dn 0 0 8) (va_cpy owi wi 0 0 8) du he yr sz)) rfl rfl (by decide) (by decide) (by decide) (by decide) (by decide) (by decide) (by decide) (by decide) (by decide) (Nat.le_of_ble_eq_true rfl) dX2_become_87 rfl ?_
  refine j_aload_n C 1 dX2_become_90 rfl ?_
  refine j_get C fl_X2_30_2 0 dX2_become_91 rfl rfl ?_
  refine j_iconst C 0 dX2_become_94 (by decide) ?_
  refine j_aload_n C 0 dX2_become_95 rfl ?_
  refine j_get C fl_X2_30_2 9 dX2_become_96 rfl rfl ?_
  refine j_iconst C 0 dX2_become_99 (by decide) ?_
  refine j_bipush C 8 dX2_become_100 (by decide) ?_
  refine j_copyi C hB lc_X2_46 7 16 0 0 8 ((wC ca bd n0 osk oze oma oki odn owi odu ohe oyr osz) ++ (wC ca ad n0 (va_cpy osk sk 0 0 6) (va_cpy oze ze 0 0 6) (va_cpy oma ma 0 0 6) (va_cpy oki ki 0 0 8) (va_cpy odn dn 0 0 8) (va_cpy owi wi 0 0 8) (va_cpy odu du 0 0 8) he yr sz)) rfl rfl (by decide) (by decide) (by decide) (by decide) (by decide) (by decide) (by decide) (by decide) (by decide) (Nat.le_of_ble_eq_true rfl) dX2_become_102 rfl ?_
  refine j_aload_n C 0 dX2_become_105 rfl ?_
  refine j_aload_n C 1 dX2_become_106 rfl ?_
  refine j_get C fl_X2_52_2 0 dX2_become_107 rfl rfl ?_
  refine j_put C hB fw_X2_52_2 9 ((wC ca bd n0 osk oze oma oki odn owi odu ohe oyr osz) ++ (wC ca ad n0 (va_cpy osk sk 0 0 6) (va_cpy oze ze 0 0 6) (va_cpy oma ma 0 0 6) (va_cpy oki ki 0 0 8) (va_cpy odn dn 0 0 8) (va_cpy owi wi 0 0 8) (va_cpy odu du 0 0 8) he oyr sz)) dX2_become_110 rfl rfl rfl (Nat.le_of_ble_eq_true rfl) rfl ?_
  refine j_aload_n C 0 dX2_become_113 rfl ?_
  refine j_aload_n C 1 dX2_become_114 rfl ?_
  refine j_get C fl_X2_56_2 0 dX2_become_115 rfl rfl ?_
  refine j_put C hB fw_X2_56_2 9 ((wC ca bd n0 osk oze oma oki odn owi odu ohe oyr osz) ++ (wC ca ad n0 (va_cpy osk sk 0 0 6) (va_cpy oze ze 0 0 6) (va_cpy oma ma 0 0 6) (va_cpy oki ki 0 0 8) (va_cpy odn dn 0 0 8) (va_cpy owi wi 0 0 8) (va_cpy odu du 0 0 8) he oyr osz)) dX2_become_118 rfl rfl rfl (Nat.le_of_ble_eq_true rfl) rfl ?_
  exact j_vret C hB hR (va_cpy osk sk 0 0 6, va_cpy oze ze 0 0 6, va_cpy oma ma 0 0 6, va_cpy oki ki 0 0 8, va_cpy odn dn 0 0 8, va_cpy owi wi 0 0 8, va_cpy odu du 0 0 8, oyr, osz) rfl dX2_become_121 hw rfl
end
