section
-- ===== PART A: goes FIRST, ahead of the names: the tables' words, and 'selects' of the private methods out of them =====
/-- a private method of a class that the tables say can be made, by its rows of tables_1 -/
def lw_okq (q : MethodName × Nat) : Prop := (q.1.cls ≠ "java/lang/invoke/MethodHandle" ∧ q.1.cls ≠ "java/lang/invoke/VarHandle") ∧ Cond.instantiable q.1.cls q.2 ∈ tables_1 ∧ Cond.privateMethod q.1 ∈ tables_1 ∧ Cond.instanceMethod q.1 ∈ tables_1
theorem lw_p0 : lw_okq (⟨"PairSieve", "setOf", "(I)LPairSieve$NumberSet;"⟩, 13) := ⟨⟨by decide +kernel, by decide +kernel⟩, List.mem_of_getElem? (i := 19) (by decide +kernel), List.mem_of_getElem? (i := 217) (by decide +kernel), List.mem_of_getElem? (i := 218) (by decide +kernel)⟩
theorem lw_p1 : lw_okq (⟨"PairSieve$Table", "placeOf", "(I)I"⟩, 3) := ⟨⟨by decide +kernel, by decide +kernel⟩, List.mem_of_getElem? (i := 29) (by decide +kernel), List.mem_of_getElem? (i := 240) (by decide +kernel), List.mem_of_getElem? (i := 241) (by decide +kernel)⟩
theorem lw_p2 : lw_okq (⟨"PairSieve$Table", "isAt", "(II)Z"⟩, 3) := ⟨⟨by decide +kernel, by decide +kernel⟩, List.mem_of_getElem? (i := 29) (by decide +kernel), List.mem_of_getElem? (i := 244) (by decide +kernel), List.mem_of_getElem? (i := 245) (by decide +kernel)⟩
theorem lw_p3 : lw_okq (⟨"PairSieve", "weightOf", "(I)I"⟩, 13) := ⟨⟨by decide +kernel, by decide +kernel⟩, List.mem_of_getElem? (i := 19) (by decide +kernel), List.mem_of_getElem? (i := 249) (by decide +kernel), List.mem_of_getElem? (i := 250) (by decide +kernel)⟩
theorem lw_p4 : lw_okq (⟨"PairSieve$NumberSet", "placeOf", "(I)I"⟩, 4) := ⟨⟨by decide +kernel, by decide +kernel⟩, List.mem_of_getElem? (i := 189) (by decide +kernel), List.mem_of_getElem? (i := 258) (by decide +kernel), List.mem_of_getElem? (i := 259) (by decide +kernel)⟩
theorem lw_p5 : lw_okq (⟨"PairSieve", "weighAll", "()V"⟩, 13) := ⟨⟨by decide +kernel, by decide +kernel⟩, List.mem_of_getElem? (i := 19) (by decide +kernel), List.mem_of_getElem? (i := 282) (by decide +kernel), List.mem_of_getElem? (i := 283) (by decide +kernel)⟩
theorem lw_p6 : lw_okq (⟨"PairSieve$Tape", "countLikeOnesAhead", "(II)I"⟩, 3) := ⟨⟨by decide +kernel, by decide +kernel⟩, List.mem_of_getElem? (i := 66) (by decide +kernel), List.mem_of_getElem? (i := 322) (by decide +kernel), List.mem_of_getElem? (i := 323) (by decide +kernel)⟩
theorem lw_p7 : lw_okq (⟨"PairSieve$Tape", "pieceAt", "(II)I"⟩, 3) := ⟨⟨by decide +kernel, by decide +kernel⟩, List.mem_of_getElem? (i := 66) (by decide +kernel), List.mem_of_getElem? (i := 326) (by decide +kernel), List.mem_of_getElem? (i := 327) (by decide +kernel)⟩
theorem lw_p8 : lw_okq (⟨"PairSieve", "beginningOf", "(LPairSieve$NumberSet;)I"⟩, 13) := ⟨⟨by decide +kernel, by decide +kernel⟩, List.mem_of_getElem? (i := 19) (by decide +kernel), List.mem_of_getElem? (i := 382) (by decide +kernel), List.mem_of_getElem? (i := 383) (by decide +kernel)⟩
theorem lw_p9 : lw_okq (⟨"PairSieve", "freshNet", "()LPairSieve$Net;"⟩, 13) := ⟨⟨by decide +kernel, by decide +kernel⟩, List.mem_of_getElem? (i := 19) (by decide +kernel), List.mem_of_getElem? (i := 390) (by decide +kernel), List.mem_of_getElem? (i := 391) (by decide +kernel)⟩
theorem lw_p10 : lw_okq (⟨"PairSieve", "arePair", "(II)Z"⟩, 13) := ⟨⟨by decide +kernel, by decide +kernel⟩, List.mem_of_getElem? (i := 19) (by decide +kernel), List.mem_of_getElem? (i := 398) (by decide +kernel), List.mem_of_getElem? (i := 399) (by decide +kernel)⟩
theorem lw_p11 : lw_okq (⟨"PairSieve$Net", "friendsOf", "(J)J"⟩, 2) := ⟨⟨by decide +kernel, by decide +kernel⟩, List.mem_of_getElem? (i := 133) (by decide +kernel), List.mem_of_getElem? (i := 441) (by decide +kernel), List.mem_of_getElem? (i := 442) (by decide +kernel)⟩
theorem lw_p12 : lw_okq (⟨"PairSieve", "fateOf", "(LPairSieve$NumberSet;ILPairSieve$NumberSet;I)I"⟩, 13) := ⟨⟨by decide +kernel, by decide +kernel⟩, List.mem_of_getElem? (i := 19) (by decide +kernel), List.mem_of_getElem? (i := 481) (by decide +kernel), List.mem_of_getElem? (i := 482) (by decide +kernel)⟩
theorem lw_p13 : lw_okq (⟨"PairSieve", "startSieve", "()V"⟩, 13) := ⟨⟨by decide +kernel, by decide +kernel⟩, List.mem_of_getElem? (i := 19) (by decide +kernel), List.mem_of_getElem? (i := 490) (by decide +kernel), List.mem_of_getElem? (i := 491) (by decide +kernel)⟩
theorem lw_p14 : lw_okq (⟨"PairSieve", "sift", "(II)V"⟩, 13) := ⟨⟨by decide +kernel, by decide +kernel⟩, List.mem_of_getElem? (i := 19) (by decide +kernel), List.mem_of_getElem? (i := 498) (by decide +kernel), List.mem_of_getElem? (i := 499) (by decide +kernel)⟩
theorem lw_p15 : lw_okq (⟨"PairSieve", "rank", "(III)V"⟩, 13) := ⟨⟨by decide +kernel, by decide +kernel⟩, List.mem_of_getElem? (i := 19) (by decide +kernel), List.mem_of_getElem? (i := 514) (by decide +kernel), List.mem_of_getElem? (i := 515) (by decide +kernel)⟩
def lw_privs_1 : List (MethodName × Nat) := [(⟨"PairSieve", "setOf", "(I)LPairSieve$NumberSet;"⟩, 13), (⟨"PairSieve$Table", "placeOf", "(I)I"⟩, 3), (⟨"PairSieve$Table", "isAt", "(II)Z"⟩, 3), (⟨"PairSieve", "weightOf", "(I)I"⟩, 13), (⟨"PairSieve$NumberSet", "placeOf", "(I)I"⟩, 4), (⟨"PairSieve", "weighAll", "()V"⟩, 13), (⟨"PairSieve$Tape", "countLikeOnesAhead", "(II)I"⟩, 3), (⟨"PairSieve$Tape", "pieceAt", "(II)I"⟩, 3), (⟨"PairSieve", "beginningOf", "(LPairSieve$NumberSet;)I"⟩, 13), (⟨"PairSieve", "freshNet", "()LPairSieve$Net;"⟩, 13), (⟨"PairSieve", "arePair", "(II)Z"⟩, 13), (⟨"PairSieve$Net", "friendsOf", "(J)J"⟩, 2), (⟨"PairSieve", "fateOf", "(LPairSieve$NumberSet;ILPairSieve$NumberSet;I)I"⟩, 13), (⟨"PairSieve", "startSieve", "()V"⟩, 13), (⟨"PairSieve", "sift", "(II)V"⟩, 13), (⟨"PairSieve", "rank", "(III)V"⟩, 13)]
theorem lw_r1 : ∀ q ∈ lw_privs_1, lw_okq q := List.forall_mem_cons.mpr ⟨lw_p0, List.forall_mem_cons.mpr ⟨lw_p1, List.forall_mem_cons.mpr ⟨lw_p2, List.forall_mem_cons.mpr ⟨lw_p3, List.forall_mem_cons.mpr ⟨lw_p4, List.forall_mem_cons.mpr ⟨lw_p5, List.forall_mem_cons.mpr ⟨lw_p6, List.forall_mem_cons.mpr ⟨lw_p7, List.forall_mem_cons.mpr ⟨lw_p8, List.forall_mem_cons.mpr ⟨lw_p9, List.forall_mem_cons.mpr ⟨lw_p10, List.forall_mem_cons.mpr ⟨lw_p11, List.forall_mem_cons.mpr ⟨lw_p12, List.forall_mem_cons.mpr ⟨lw_p13, List.forall_mem_cons.mpr ⟨lw_p14, List.forall_mem_cons.mpr ⟨lw_p15, fun _ h => absurd h List.not_mem_nil⟩⟩⟩⟩⟩⟩⟩⟩⟩⟩⟩⟩⟩⟩⟩⟩
theorem lw_p16 : lw_okq (⟨"PairSieve", "countRecords", "()I"⟩, 13) := ⟨⟨by decide +kernel, by decide +kernel⟩, List.mem_of_getElem? (i := 19) (by decide +kernel), List.mem_of_getElem? (i := 570) (by decide +kernel), List.mem_of_getElem? (i := 571) (by decide +kernel)⟩
theorem lw_p17 : lw_okq (⟨"PairSieve", "countNumbers", "()I"⟩, 13) := ⟨⟨by decide +kernel, by decide +kernel⟩, List.mem_of_getElem? (i := 19) (by decide +kernel), List.mem_of_getElem? (i := 574) (by decide +kernel), List.mem_of_getElem? (i := 575) (by decide +kernel)⟩
theorem lw_p18 : lw_okq (⟨"PairSieve", "countFamilies", "()I"⟩, 13) := ⟨⟨by decide +kernel, by decide +kernel⟩, List.mem_of_getElem? (i := 19) (by decide +kernel), List.mem_of_getElem? (i := 578) (by decide +kernel), List.mem_of_getElem? (i := 579) (by decide +kernel)⟩
theorem lw_p19 : lw_okq (⟨"java/lang/Throwable", "fillInStackTrace", "(I)Ljava/lang/Throwable;"⟩, 6) := ⟨⟨by decide +kernel, by decide +kernel⟩, List.mem_of_getElem? (i := 626) (by decide +kernel), List.mem_of_getElem? (i := 624) (by decide +kernel), List.mem_of_getElem? (i := 625) (by decide +kernel)⟩
theorem lw_p20 : lw_okq (⟨"PairSieveModel", "is", "(I)Z"⟩, 30) := ⟨⟨by decide +kernel, by decide +kernel⟩, List.mem_of_getElem? (i := 656) (by decide +kernel), List.mem_of_getElem? (i := 766) (by decide +kernel), List.mem_of_getElem? (i := 767) (by decide +kernel)⟩
theorem lw_p21 : lw_okq (⟨"PairSieveModel", "place", "(II)I"⟩, 30) := ⟨⟨by decide +kernel, by decide +kernel⟩, List.mem_of_getElem? (i := 656) (by decide +kernel), List.mem_of_getElem? (i := 781) (by decide +kernel), List.mem_of_getElem? (i := 782) (by decide +kernel)⟩
theorem lw_p22 : lw_okq (⟨"PairSieveModel", "place0", "(II)I"⟩, 30) := ⟨⟨by decide +kernel, by decide +kernel⟩, List.mem_of_getElem? (i := 656) (by decide +kernel), List.mem_of_getElem? (i := 789) (by decide +kernel), List.mem_of_getElem? (i := 790) (by decide +kernel)⟩
theorem lw_p23 : lw_okq (⟨"PairSieveModel", "four", "(I)V"⟩, 30) := ⟨⟨by decide +kernel, by decide +kernel⟩, List.mem_of_getElem? (i := 656) (by decide +kernel), List.mem_of_getElem? (i := 801) (by decide +kernel), List.mem_of_getElem? (i := 802) (by decide +kernel)⟩
theorem lw_p24 : lw_okq (⟨"PairSieveModel", "piece", "(II)I"⟩, 30) := ⟨⟨by decide +kernel, by decide +kernel⟩, List.mem_of_getElem? (i := 656) (by decide +kernel), List.mem_of_getElem? (i := 813) (by decide +kernel), List.mem_of_getElem? (i := 814) (by decide +kernel)⟩
theorem lw_p25 : lw_okq (⟨"PairSieveModel", "frequencyOf", "(I)I"⟩, 30) := ⟨⟨by decide +kernel, by decide +kernel⟩, List.mem_of_getElem? (i := 656) (by decide +kernel), List.mem_of_getElem? (i := 829) (by decide +kernel), List.mem_of_getElem? (i := 830) (by decide +kernel)⟩
theorem lw_p26 : lw_okq (⟨"PairSieveModel", "isTwo", "(II)Z"⟩, 30) := ⟨⟨by decide +kernel, by decide +kernel⟩, List.mem_of_getElem? (i := 656) (by decide +kernel), List.mem_of_getElem? (i := 837) (by decide +kernel), List.mem_of_getElem? (i := 838) (by decide +kernel)⟩
theorem lw_p27 : lw_okq (⟨"PairSieveModel", "whyOf", "(II)I"⟩, 30) := ⟨⟨by decide +kernel, by decide +kernel⟩, List.mem_of_getElem? (i := 656) (by decide +kernel), List.mem_of_getElem? (i := 841) (by decide +kernel), List.mem_of_getElem? (i := 842) (by decide +kernel)⟩
theorem lw_p28 : lw_okq (⟨"PairSieveModel", "sort", "(I[I)V"⟩, 30) := ⟨⟨by decide +kernel, by decide +kernel⟩, List.mem_of_getElem? (i := 656) (by decide +kernel), List.mem_of_getElem? (i := 845) (by decide +kernel), List.mem_of_getElem? (i := 846) (by decide +kernel)⟩
theorem lw_p29 : lw_okq (⟨"PairSieveModel", "isAhead", "(II)Z"⟩, 30) := ⟨⟨by decide +kernel, by decide +kernel⟩, List.mem_of_getElem? (i := 656) (by decide +kernel), List.mem_of_getElem? (i := 849) (by decide +kernel), List.mem_of_getElem? (i := 850) (by decide +kernel)⟩
theorem lw_p30 : lw_okq (⟨"PairSieveModel", "beginning", "([II)I"⟩, 30) := ⟨⟨by decide +kernel, by decide +kernel⟩, List.mem_of_getElem? (i := 656) (by decide +kernel), List.mem_of_getElem? (i := 853) (by decide +kernel), List.mem_of_getElem? (i := 854) (by decide +kernel)⟩
theorem lw_p31 : lw_okq (⟨"PairSieveModel", "amount", "([III)I"⟩, 30) := ⟨⟨by decide +kernel, by decide +kernel⟩, List.mem_of_getElem? (i := 656) (by decide +kernel), List.mem_of_getElem? (i := 857) (by decide +kernel), List.mem_of_getElem? (i := 858) (by decide +kernel)⟩
def lw_privs_2 : List (MethodName × Nat) := [(⟨"PairSieve", "countRecords", "()I"⟩, 13), (⟨"PairSieve", "countNumbers", "()I"⟩, 13), (⟨"PairSieve", "countFamilies", "()I"⟩, 13), (⟨"java/lang/Throwable", "fillInStackTrace", "(I)Ljava/lang/Throwable;"⟩, 6), (⟨"PairSieveModel", "is", "(I)Z"⟩, 30), (⟨"PairSieveModel", "place", "(II)I"⟩, 30), (⟨"PairSieveModel", "place0", "(II)I"⟩, 30), (⟨"PairSieveModel", "four", "(I)V"⟩, 30), (⟨"PairSieveModel", "piece", "(II)I"⟩, 30), (⟨"PairSieveModel", "frequencyOf", "(I)I"⟩, 30), (⟨"PairSieveModel", "isTwo", "(II)Z"⟩, 30), (⟨"PairSieveModel", "whyOf", "(II)I"⟩, 30), (⟨"PairSieveModel", "sort", "(I[I)V"⟩, 30), (⟨"PairSieveModel", "isAhead", "(II)Z"⟩, 30), (⟨"PairSieveModel", "beginning", "([II)I"⟩, 30), (⟨"PairSieveModel", "amount", "([III)I"⟩, 30)]
theorem lw_r2 : ∀ q ∈ lw_privs_2, lw_okq q := List.forall_mem_cons.mpr ⟨lw_p16, List.forall_mem_cons.mpr ⟨lw_p17, List.forall_mem_cons.mpr ⟨lw_p18, List.forall_mem_cons.mpr ⟨lw_p19, List.forall_mem_cons.mpr ⟨lw_p20, List.forall_mem_cons.mpr ⟨lw_p21, List.forall_mem_cons.mpr ⟨lw_p22, List.forall_mem_cons.mpr ⟨lw_p23, List.forall_mem_cons.mpr ⟨lw_p24, List.forall_mem_cons.mpr ⟨lw_p25, List.forall_mem_cons.mpr ⟨lw_p26, List.forall_mem_cons.mpr ⟨lw_p27, List.forall_mem_cons.mpr ⟨lw_p28, List.forall_mem_cons.mpr ⟨lw_p29, List.forall_mem_cons.mpr ⟨lw_p30, List.forall_mem_cons.mpr ⟨lw_p31, fun _ h => absurd h List.not_mem_nil⟩⟩⟩⟩⟩⟩⟩⟩⟩⟩⟩⟩⟩⟩⟩⟩
theorem lw_p32 : lw_okq (⟨"PairSieveModel", "weightOf", "(I)I"⟩, 30) := ⟨⟨by decide +kernel, by decide +kernel⟩, List.mem_of_getElem? (i := 656) (by decide +kernel), List.mem_of_getElem? (i := 861) (by decide +kernel), List.mem_of_getElem? (i := 862) (by decide +kernel)⟩
theorem lw_p33 : lw_okq (⟨"PairSieveModel", "least", "(J)J"⟩, 30) := ⟨⟨by decide +kernel, by decide +kernel⟩, List.mem_of_getElem? (i := 656) (by decide +kernel), List.mem_of_getElem? (i := 865) (by decide +kernel), List.mem_of_getElem? (i := 866) (by decide +kernel)⟩
theorem lw_p34 : lw_okq (⟨"PairSieveModel", "amountOf", "(I)I"⟩, 30) := ⟨⟨by decide +kernel, by decide +kernel⟩, List.mem_of_getElem? (i := 656) (by decide +kernel), List.mem_of_getElem? (i := 873) (by decide +kernel), List.mem_of_getElem? (i := 874) (by decide +kernel)⟩
theorem lw_p35 : lw_okq (⟨"PairSieveModel", "needed", "(JJ)J"⟩, 30) := ⟨⟨by decide +kernel, by decide +kernel⟩, List.mem_of_getElem? (i := 656) (by decide +kernel), List.mem_of_getElem? (i := 877) (by decide +kernel), List.mem_of_getElem? (i := 878) (by decide +kernel)⟩
theorem lw_p36 : lw_okq (⟨"PairSieveModel", "isPair", "(II)Z"⟩, 30) := ⟨⟨by decide +kernel, by decide +kernel⟩, List.mem_of_getElem? (i := 656) (by decide +kernel), List.mem_of_getElem? (i := 881) (by decide +kernel), List.mem_of_getElem? (i := 882) (by decide +kernel)⟩
theorem lw_p37 : lw_okq (⟨"PairSieveModel", "shared", "(II)I"⟩, 30) := ⟨⟨by decide +kernel, by decide +kernel⟩, List.mem_of_getElem? (i := 656) (by decide +kernel), List.mem_of_getElem? (i := 885) (by decide +kernel), List.mem_of_getElem? (i := 886) (by decide +kernel)⟩
theorem lw_p38 : lw_okq (⟨"PairSieveModel", "above", "(JJJ)J"⟩, 30) := ⟨⟨by decide +kernel, by decide +kernel⟩, List.mem_of_getElem? (i := 656) (by decide +kernel), List.mem_of_getElem? (i := 889) (by decide +kernel), List.mem_of_getElem? (i := 890) (by decide +kernel)⟩
theorem lw_p39 : lw_okq (⟨"PairSieveModel", "below", "(JJJ)J"⟩, 30) := ⟨⟨by decide +kernel, by decide +kernel⟩, List.mem_of_getElem? (i := 656) (by decide +kernel), List.mem_of_getElem? (i := 893) (by decide +kernel), List.mem_of_getElem? (i := 894) (by decide +kernel)⟩
theorem lw_p40 : lw_okq (⟨"PairSieveModel", "keep", "(III)V"⟩, 30) := ⟨⟨by decide +kernel, by decide +kernel⟩, List.mem_of_getElem? (i := 656) (by decide +kernel), List.mem_of_getElem? (i := 909) (by decide +kernel), List.mem_of_getElem? (i := 910) (by decide +kernel)⟩
theorem lw_p41 : lw_okq (⟨"PairSieveModel", "spent", "()I"⟩, 30) := ⟨⟨by decide +kernel, by decide +kernel⟩, List.mem_of_getElem? (i := 656) (by decide +kernel), List.mem_of_getElem? (i := 913) (by decide +kernel), List.mem_of_getElem? (i := 914) (by decide +kernel)⟩
theorem lw_p42 : lw_okq (⟨"PairSieveModel", "isLiker", "(IIII)Z"⟩, 30) := ⟨⟨by decide +kernel, by decide +kernel⟩, List.mem_of_getElem? (i := 656) (by decide +kernel), List.mem_of_getElem? (i := 925) (by decide +kernel), List.mem_of_getElem? (i := 926) (by decide +kernel)⟩
theorem lw_p43 : lw_okq (⟨"PairSieveModel", "steps", "(I)V"⟩, 30) := ⟨⟨by decide +kernel, by decide +kernel⟩, List.mem_of_getElem? (i := 656) (by decide +kernel), List.mem_of_getElem? (i := 933) (by decide +kernel), List.mem_of_getElem? (i := 934) (by decide +kernel)⟩
theorem lw_p44 : lw_okq (⟨"PairSieveModel", "grow", "(IIII)V"⟩, 30) := ⟨⟨by decide +kernel, by decide +kernel⟩, List.mem_of_getElem? (i := 656) (by decide +kernel), List.mem_of_getElem? (i := 953) (by decide +kernel), List.mem_of_getElem? (i := 954) (by decide +kernel)⟩
def lw_privs_3 : List (MethodName × Nat) := [(⟨"PairSieveModel", "weightOf", "(I)I"⟩, 30), (⟨"PairSieveModel", "least", "(J)J"⟩, 30), (⟨"PairSieveModel", "amountOf", "(I)I"⟩, 30), (⟨"PairSieveModel", "needed", "(JJ)J"⟩, 30), (⟨"PairSieveModel", "isPair", "(II)Z"⟩, 30), (⟨"PairSieveModel", "shared", "(II)I"⟩, 30), (⟨"PairSieveModel", "above", "(JJJ)J"⟩, 30), (⟨"PairSieveModel", "below", "(JJJ)J"⟩, 30), (⟨"PairSieveModel", "keep", "(III)V"⟩, 30), (⟨"PairSieveModel", "spent", "()I"⟩, 30), (⟨"PairSieveModel", "isLiker", "(IIII)Z"⟩, 30), (⟨"PairSieveModel", "steps", "(I)V"⟩, 30), (⟨"PairSieveModel", "grow", "(IIII)V"⟩, 30)]
theorem lw_r3 : ∀ q ∈ lw_privs_3, lw_okq q := List.forall_mem_cons.mpr ⟨lw_p32, List.forall_mem_cons.mpr ⟨lw_p33, List.forall_mem_cons.mpr ⟨lw_p34, List.forall_mem_cons.mpr ⟨lw_p35, List.forall_mem_cons.mpr ⟨lw_p36, List.forall_mem_cons.mpr ⟨lw_p37, List.forall_mem_cons.mpr ⟨lw_p38, List.forall_mem_cons.mpr ⟨lw_p39, List.forall_mem_cons.mpr ⟨lw_p40, List.forall_mem_cons.mpr ⟨lw_p41, List.forall_mem_cons.mpr ⟨lw_p42, List.forall_mem_cons.mpr ⟨lw_p43, List.forall_mem_cons.mpr ⟨lw_p44, fun _ h => absurd h List.not_mem_nil⟩⟩⟩⟩⟩⟩⟩⟩⟩⟩⟩⟩⟩
def lw_privs : List (MethodName × Nat) := lw_privs_1 ++ (lw_privs_2 ++ (lw_privs_3))
def lw_tbl : List Cond := k2_sels lw_privs ++ tables_1
theorem lw_privs_ok : ∀ q ∈ lw_privs, lw_okq q := by
  show ∀ q ∈ lw_privs_1 ++ (lw_privs_2 ++ (lw_privs_3)), lw_okq q
  exact List.forall_mem_append.mpr ⟨lw_r1, List.forall_mem_append.mpr ⟨lw_r2, lw_r3⟩⟩
end
section
/-! ===== BEGIN words of one list among another's, by their places ===== -/
theorem goodIn_r {big : List Cond} (ws : List Cond) (ps : List Nat) (hp : ws = ps.filterMap (fun i => big[i]?)) (h : ws.all goodWord = true) : GoodIn big ws := by
  intro w hw
  have h1 := List.all_eq_true.mp h w hw
  rw [hp] at hw
  obtain ⟨i, -, hi⟩ := List.mem_filterMap.mp hw
  have hm : w ∈ big := by first | exact List.mem_of_getElem? hi | exact List.getElem?_mem hi
  exact ⟨hm, good_of_word h1⟩
theorem goodIn_app {big a b : List Cond} (ha : GoodIn big a) (hb : GoodIn big b) : GoodIn big (a ++ b) := fun w h => (List.mem_append.mp h).elim (ha w) (hb w)
theorem goodIn_ca {big a b : List Cond} {c : Cond} (ha : GoodIn big (c :: a)) (hb : GoodIn big b) : GoodIn big (c :: (a ++ b)) := fun w h => (List.mem_cons.mp h).elim (fun e => ha w (List.mem_cons.mpr (Or.inl e))) (fun h => (List.mem_append.mp h).elim (fun h => ha w (List.mem_cons.mpr (Or.inr h))) (hb w))
theorem goodIn_sub {big ws : List Cond} (hm : ∀ w ∈ ws, w ∈ big) (h : ws.all goodWord = true) : GoodIn big ws := fun w hw => ⟨hm w hw, good_of_word (List.all_eq_true.mp h w hw)⟩
/-! ===== END ===== -/
/-! ===== BEGIN printed: names, fields, word lists, decode rows ===== -/
def RX0 : String := "PairSieve$KeptPairs"
def TX0 : u_T := fun k => match k with
  | 0 => ("PairSieve$KeptPairs", "first", "[I", true)
  | 1 => ("PairSieve$KeptPairs", "second", "[I", true)
  | 2 => ("PairSieve$KeptPairs", "shared", "[I", true)
  | 3 => ("PairSieve$KeptPairs", "above", "[J", true)
  | 4 => ("PairSieve$KeptPairs", "below", "[J", true)
  | _ => ("PairSieve$KeptPairs", "size", "I", false)
def tyX0 : Nat → FieldType := fun k => match k with
  | 0 => .array .int
  | 1 => .array .int
  | 2 => .array .int
  | 3 => .array .long
  | 4 => .array .long
  | _ => .int
abbrev wsX00 : List Cond := u_ws RX0 TX0 6
theorem nmX0 : ∀ a, a < 6 → ∀ b, b < 6 → a ≠ b → (TX0 a).2.1 ≠ (TX0 b).2.1 := by decide +kernel
theorem tyX0_ok : ∀ k, k < 6 → parseFieldDescriptor (TX0 k).2.2.1 = some (tyX0 k) := by decide +kernel
abbrev cX0_init : ByteArray := prog_2_method_1_code
def yX0_init : MethodName := ⟨RX0, "<init>", "()V"⟩
abbrev cX0_clear : ByteArray := prog_2_method_2_code
def yX0_clear : MethodName := ⟨RX0, "clear", "()V"⟩
abbrev cX0_append : ByteArray := prog_2_method_3_code
def yX0_append : MethodName := ⟨RX0, "append", "(III)V"⟩
abbrev cX0_set : ByteArray := prog_2_method_4_code
def yX0_set : MethodName := ⟨RX0, "set", "(IIII)V"⟩
abbrev cX0_setLikeness : ByteArray := prog_2_method_5_code
def yX0_setLikeness : MethodName := ⟨RX0, "setLikeness", "(IJJ)V"⟩
abbrev cX0_placeFor : ByteArray := prog_2_method_6_code
def yX0_placeFor : MethodName := ⟨RX0, "placeFor", "(JJ)I"⟩
abbrev cX0_makeRoom : ByteArray := prog_2_method_7_code
def yX0_makeRoom : MethodName := ⟨RX0, "makeRoom", "(II)V"⟩
def RX1 : String := "PairSieve$Measure"
def TX1 : u_T := fun k => match k with
  | 0 => ("PairSieve$Measure", "kind", "I", false)
  | 1 => ("PairSieve$Measure", "p", "I", false)
  | _ => ("PairSieve$Measure", "q", "I", false)
def tyX1 : Nat → FieldType := fun k => match k with
  | 0 => .int
  | 1 => .int
  | _ => .int
abbrev wsX10 : List Cond := u_ws RX1 TX1 3
theorem nmX1 : ∀ a, a < 3 → ∀ b, b < 3 → a ≠ b → (TX1 a).2.1 ≠ (TX1 b).2.1 := by decide +kernel
theorem tyX1_ok : ∀ k, k < 3 → parseFieldDescriptor (TX1 k).2.2.1 = some (tyX1 k) := by decide +kernel
abbrev cX1_init : ByteArray := prog_3_method_1_code
def yX1_init : MethodName := ⟨RX1, "<init>", "()V"⟩
abbrev cX1_tell : ByteArray := prog_3_method_2_code
def yX1_tell : MethodName := ⟨RX1, "tell", "(III)Z"⟩
abbrev cX1_isAllowed : ByteArray := prog_3_method_3_code
def yX1_isAllowed : MethodName := ⟨RX1, "isAllowed", "(III)Z"⟩
abbrev cX1_needed : ByteArray := prog_3_method_4_code
def yX1_needed : MethodName := ⟨RX1, "needed", "(JJ)J"⟩
abbrev cX1_least : ByteArray := prog_3_method_5_code
def yX1_least : MethodName := ⟨RX1, "least", "(J)J"⟩
abbrev cX1_isReached : ByteArray := prog_3_method_6_code
def yX1_isReached : MethodName := ⟨RX1, "isReached", "(JJJ)Z"⟩
abbrev cX1_likenessAbove : ByteArray := prog_3_method_7_code
def yX1_likenessAbove : MethodName := ⟨RX1, "likenessAbove", "(JJJ)J"⟩
abbrev cX1_likenessBelow : ByteArray := prog_3_method_8_code
def yX1_likenessBelow : MethodName := ⟨RX1, "likenessBelow", "(JJJ)J"⟩
abbrev cX1_withoutDivisor : ByteArray := prog_3_method_9_code
def yX1_withoutDivisor : MethodName := ⟨RX1, "withoutDivisor", "(JJJ)J"⟩
abbrev cX1_quotientUp : ByteArray := prog_3_method_10_code
def yX1_quotientUp : MethodName := ⟨RX1, "quotientUp", "(JJ)J"⟩
abbrev cX1_rootUp : ByteArray := prog_3_method_11_code
def yX1_rootUp : MethodName := ⟨RX1, "rootUp", "(JJ)J"⟩
def RX2 : String := "PairSieve$Net"
def TX2 : u_T := fun k => match k with
  | 0 => ("PairSieve$Net", "friends", "[J", true)
  | _ => ("PairSieve$Net", "forgotten", "J", false)
def tyX2 : Nat → FieldType := fun k => match k with
  | 0 => .array .long
  | _ => .long
abbrev wsX20 : List Cond := u_ws RX2 TX2 2
theorem nmX2 : ∀ a, a < 2 → ∀ b, b < 2 → a ≠ b → (TX2 a).2.1 ≠ (TX2 b).2.1 := by decide +kernel
theorem tyX2_ok : ∀ k, k < 2 → parseFieldDescriptor (TX2 k).2.2.1 = some (tyX2 k) := by decide +kernel
abbrev cX2_init : ByteArray := prog_4_method_1_code
def yX2_init : MethodName := ⟨RX2, "<init>", "()V"⟩
abbrev cX2_forget : ByteArray := prog_4_method_2_code
def yX2_forget : MethodName := ⟨RX2, "forget", "(I)V"⟩
abbrev cX2_isForgotten : ByteArray := prog_4_method_3_code
def yX2_isForgotten : MethodName := ⟨RX2, "isForgotten", "(I)Z"⟩
abbrev cX2_know : ByteArray := prog_4_method_4_code
def yX2_know : MethodName := ⟨RX2, "know", "(I)V"⟩
abbrev cX2_tie : ByteArray := prog_4_method_5_code
def yX2_tie : MethodName := ⟨RX2, "tie", "(IIZ)V"⟩
abbrev cX2_leastOf : ByteArray := prog_4_method_6_code
def yX2_leastOf : MethodName := ⟨RX2, "leastOf", "(J)I"⟩
abbrev cX2_familyOf : ByteArray := prog_4_method_7_code
def yX2_familyOf : MethodName := ⟨RX2, "familyOf", "(I)J"⟩
abbrev cX2_stepsBetween : ByteArray := prog_4_method_8_code
def yX2_stepsBetween : MethodName := ⟨RX2, "stepsBetween", "(II)I"⟩
abbrev cX2_firstStep : ByteArray := prog_4_method_9_code
def yX2_firstStep : MethodName := ⟨RX2, "firstStep", "(III)I"⟩
abbrev cX2_coreOf : ByteArray := prog_4_method_10_code
def yX2_coreOf : MethodName := ⟨RX2, "coreOf", "(J)J"⟩
abbrev cX2_friendsOf : ByteArray := prog_4_method_11_code
def yX2_friendsOf : MethodName := ⟨RX2, "friendsOf", "(J)J"⟩
abbrev cX2_greatestCore : ByteArray := prog_4_method_12_code
def yX2_greatestCore : MethodName := ⟨RX2, "greatestCore", "([JJJJI)J"⟩
def RX3 : String := "PairSieve$NumberSet"
def TX3 : u_T := fun k => match k with
  | 0 => ("PairSieve$NumberSet", "keys", "[I", true)
  | 1 => ("PairSieve$NumberSet", "weights", "[I", true)
  | 2 => ("PairSieve$NumberSet", "size", "I", false)
  | _ => ("PairSieve$NumberSet", "amount", "I", false)
def tyX3 : Nat → FieldType := fun k => match k with
  | 0 => .array .int
  | 1 => .array .int
  | 2 => .int
  | _ => .int
abbrev wsX30 : List Cond := u_ws RX3 TX3 4
theorem nmX3 : ∀ a, a < 4 → ∀ b, b < 4 → a ≠ b → (TX3 a).2.1 ≠ (TX3 b).2.1 := by decide +kernel
theorem tyX3_ok : ∀ k, k < 4 → parseFieldDescriptor (TX3 k).2.2.1 = some (tyX3 k) := by decide +kernel
abbrev cX3_init : ByteArray := prog_5_method_1_code
def yX3_init : MethodName := ⟨RX3, "<init>", "()V"⟩
abbrev cX3_keyOf : ByteArray := prog_5_method_2_code
def yX3_keyOf : MethodName := ⟨RX3, "keyOf", "(ILPairSieve$Table;)I"⟩
abbrev cX3_numberAt : ByteArray := prog_5_method_3_code
def yX3_numberAt : MethodName := ⟨RX3, "numberAt", "(I)I"⟩
abbrev cX3_clear : ByteArray := prog_5_method_4_code
def yX3_clear : MethodName := ⟨RX3, "clear", "()V"⟩
abbrev cX3_insert : ByteArray := prog_5_method_5_code
def yX3_insert : MethodName := ⟨RX3, "insert", "(II)Z"⟩
abbrev cX3_remove : ByteArray := prog_5_method_6_code
def yX3_remove : MethodName := ⟨RX3, "remove", "(I)Z"⟩
abbrev cX3_reweigh : ByteArray := prog_5_method_7_code
def yX3_reweigh : MethodName := ⟨RX3, "reweigh", "(II)V"⟩
abbrev cX3_putInOrder : ByteArray := prog_5_method_8_code
def yX3_putInOrder : MethodName := ⟨RX3, "putInOrder", "(LPairSieve$Table;)V"⟩
abbrev cX3_countBeginning : ByteArray := prog_5_method_9_code
def yX3_countBeginning : MethodName := ⟨RX3, "countBeginning", "(J)I"⟩
abbrev cX3_amountBehind : ByteArray := prog_5_method_10_code
def yX3_amountBehind : MethodName := ⟨RX3, "amountBehind", "(I)I"⟩
abbrev cX3_placeOf : ByteArray := prog_5_method_11_code
def yX3_placeOf : MethodName := ⟨RX3, "placeOf", "(I)I"⟩
def RX4 : String := "PairSieve$Overlap"
def TX4 : u_T := fun k => match k with
  | 0 => ("PairSieve$Overlap", "shared", "I", false)
  | 1 => ("PairSieve$Overlap", "sharedInBeginnings", "I", false)
  | _ => ("PairSieve$Overlap", "mostByPlaces", "I", false)
def tyX4 : Nat → FieldType := fun k => match k with
  | 0 => .int
  | 1 => .int
  | _ => .int
abbrev wsX40 : List Cond := u_ws RX4 TX4 3
theorem nmX4 : ∀ a, a < 3 → ∀ b, b < 3 → a ≠ b → (TX4 a).2.1 ≠ (TX4 b).2.1 := by decide +kernel
theorem tyX4_ok : ∀ k, k < 3 → parseFieldDescriptor (TX4 k).2.2.1 = some (tyX4 k) := by decide +kernel
abbrev cX4_init : ByteArray := prog_6_method_1_code
def yX4_init : MethodName := ⟨RX4, "<init>", "()V"⟩
abbrev cX4_compare : ByteArray := prog_6_method_2_code
def yX4_compare : MethodName := ⟨RX4, "compare", "(LPairSieve$NumberSet;ILPairSieve$NumberSet;I)V"⟩
def RX5 : String := "PairSieve$Table"
def TX5 : u_T := fun k => match k with
  | 0 => ("PairSieve$Table", "numbers", "[I", true)
  | 1 => ("PairSieve$Table", "values", "[I", true)
  | _ => ("PairSieve$Table", "size", "I", false)
def tyX5 : Nat → FieldType := fun k => match k with
  | 0 => .array .int
  | 1 => .array .int
  | _ => .int
abbrev wsX50 : List Cond := u_ws RX5 TX5 3
theorem nmX5 : ∀ a, a < 3 → ∀ b, b < 3 → a ≠ b → (TX5 a).2.1 ≠ (TX5 b).2.1 := by decide +kernel
theorem tyX5_ok : ∀ k, k < 3 → parseFieldDescriptor (TX5 k).2.2.1 = some (tyX5 k) := by decide +kernel
abbrev cX5_init : ByteArray := prog_7_method_1_code
def yX5_init : MethodName := ⟨RX5, "<init>", "(I)V"⟩
abbrev cX5_clear : ByteArray := prog_7_method_2_code
def yX5_clear : MethodName := ⟨RX5, "clear", "()V"⟩
abbrev cX5_valueOf : ByteArray := prog_7_method_3_code
def yX5_valueOf : MethodName := ⟨RX5, "valueOf", "(II)I"⟩
abbrev cX5_raise : ByteArray := prog_7_method_4_code
def yX5_raise : MethodName := ⟨RX5, "raise", "(I)V"⟩
abbrev cX5_write : ByteArray := prog_7_method_5_code
def yX5_write : MethodName := ⟨RX5, "write", "(II)Z"⟩
abbrev cX5_isAt : ByteArray := prog_7_method_6_code
def yX5_isAt : MethodName := ⟨RX5, "isAt", "(II)Z"⟩
abbrev cX5_placeOf : ByteArray := prog_7_method_7_code
def yX5_placeOf : MethodName := ⟨RX5, "placeOf", "(I)I"⟩
def RX6 : String := "PairSieve$Tape"
def TX6 : u_T := fun k => match k with
  | 0 => ("PairSieve$Tape", "bytes", "[I", true)
  | 1 => ("PairSieve$Tape", "length", "I", false)
  | _ => ("PairSieve$Tape", "numbers", "[I", true)
def tyX6 : Nat → FieldType := fun k => match k with
  | 0 => .array .int
  | 1 => .int
  | _ => .array .int
abbrev wsX60 : List Cond := u_ws RX6 TX6 3
theorem nmX6 : ∀ a, a < 3 → ∀ b, b < 3 → a ≠ b → (TX6 a).2.1 ≠ (TX6 b).2.1 := by decide +kernel
theorem tyX6_ok : ∀ k, k < 3 → parseFieldDescriptor (TX6 k).2.2.1 = some (tyX6 k) := by decide +kernel
abbrev cX6_init : ByteArray := prog_8_method_1_code
def yX6_init : MethodName := ⟨RX6, "<init>", "()V"⟩
abbrev cX6_hasRoomFor : ByteArray := prog_8_method_2_code
def yX6_hasRoomFor : MethodName := ⟨RX6, "hasRoomFor", "(I)Z"⟩
abbrev cX6_append : ByteArray := prog_8_method_3_code
def yX6_append : MethodName := ⟨RX6, "append", "(I)V"⟩
abbrev cX6_cut : ByteArray := prog_8_method_4_code
def yX6_cut : MethodName := ⟨RX6, "cut", "(I)Z"⟩
abbrev cX6_findNumbers : ByteArray := prog_8_method_5_code
def yX6_findNumbers : MethodName := ⟨RX6, "findNumbers", "(I)I"⟩
abbrev cX6_countLikeOnesAhead : ByteArray := prog_8_method_6_code
def yX6_countLikeOnesAhead : MethodName := ⟨RX6, "countLikeOnesAhead", "(II)I"⟩
abbrev cX6_pieceAt : ByteArray := prog_8_method_7_code
def yX6_pieceAt : MethodName := ⟨RX6, "pieceAt", "(II)I"⟩
def RX7 : String := "PairSieve"
def TX7 : u_T := fun k => match k with
  | 0 => ("PairSieve", "sets", "[LPairSieve$NumberSet;", true)
  | 1 => ("PairSieve", "made", "I", false)
  | 2 => ("PairSieve", "frequencies", "LPairSieve$Table;", true)
  | 3 => ("PairSieve", "told", "LPairSieve$Table;", true)
  | 4 => ("PairSieve", "limit", "LPairSieve$Measure;", true)
  | 5 => ("PairSieve", "tape", "LPairSieve$Tape;", true)
  | 6 => ("PairSieve", "overlap", "LPairSieve$Overlap;", true)
  | 7 => ("PairSieve", "beginnings", "[I", true)
  | 8 => ("PairSieve", "tally", "[I", true)
  | 9 => ("PairSieve", "spent", "I", false)
  | 10 => ("PairSieve", "kept", "LPairSieve$KeptPairs;", true)
  | 11 => ("PairSieve", "net", "LPairSieve$Net;", true)
  | _ => ("PairSieve", "keptCore", "J", false)
def tyX7 : Nat → FieldType := fun k => match k with
  | 0 => .array (.object "PairSieve$NumberSet")
  | 1 => .int
  | 2 => .object "PairSieve$Table"
  | 3 => .object "PairSieve$Table"
  | 4 => .object "PairSieve$Measure"
  | 5 => .object "PairSieve$Tape"
  | 6 => .object "PairSieve$Overlap"
  | 7 => .array .int
  | 8 => .array .int
  | 9 => .int
  | 10 => .object "PairSieve$KeptPairs"
  | 11 => .object "PairSieve$Net"
  | _ => .long
abbrev wsX70 : List Cond := u_ws RX7 TX7 13
theorem nmX7 : ∀ a, a < 13 → ∀ b, b < 13 → a ≠ b → (TX7 a).2.1 ≠ (TX7 b).2.1 := by decide +kernel
theorem tyX7_ok : ∀ k, k < 13 → parseFieldDescriptor (TX7 k).2.2.1 = some (tyX7 k) := by decide +kernel
abbrev cX7_init : ByteArray := prog_1_method_1_code
def yX7_init : MethodName := ⟨RX7, "<init>", "()V"⟩
abbrev cX7_record : ByteArray := prog_1_method_2_code
def yX7_record : MethodName := ⟨RX7, "record", "()I"⟩
abbrev cX7_drop : ByteArray := prog_1_method_3_code
def yX7_drop : MethodName := ⟨RX7, "drop", "(I)Z"⟩
abbrev cX7_put : ByteArray := prog_1_method_4_code
def yX7_put : MethodName := ⟨RX7, "put", "(II)Z"⟩
abbrev cX7_take : ByteArray := prog_1_method_5_code
def yX7_take : MethodName := ⟨RX7, "take", "(II)Z"⟩
abbrev cX7_weight : ByteArray := prog_1_method_6_code
def yX7_weight : MethodName := ⟨RX7, "weight", "(II)Z"⟩
abbrev cX7_feed : ByteArray := prog_1_method_7_code
def yX7_feed : MethodName := ⟨RX7, "feed", "(IIIII)I"⟩
abbrev cX7_end : ByteArray := prog_1_method_8_code
def yX7_end : MethodName := ⟨RX7, "end", "(I)I"⟩
abbrev cX7_text : ByteArray := prog_1_method_9_code
def yX7_text : MethodName := ⟨RX7, "text", "(II)I"⟩
abbrev cX7_measure : ByteArray := prog_1_method_10_code
def yX7_measure : MethodName := ⟨RX7, "measure", "(III)Z"⟩
abbrev cX7_order : ByteArray := prog_1_method_11_code
def yX7_order : MethodName := ⟨RX7, "order", "()I"⟩
abbrev cX7_frequency : ByteArray := prog_1_method_12_code
def yX7_frequency : MethodName := ⟨RX7, "frequency", "(I)I"⟩
abbrev cX7_about : ByteArray := prog_1_method_13_code
def yX7_about : MethodName := ⟨RX7, "about", "(II)I"⟩
abbrev cX7_at : ByteArray := prog_1_method_14_code
def yX7_at : MethodName := ⟨RX7, "at", "(II)I"⟩
abbrev cX7_like : ByteArray := prog_1_method_15_code
def yX7_like : MethodName := ⟨RX7, "like", "(III)J"⟩
abbrev cX7_why : ByteArray := prog_1_method_16_code
def yX7_why : MethodName := ⟨RX7, "why", "(II)I"⟩
abbrev cX7_pairs : ByteArray := prog_1_method_17_code
def yX7_pairs : MethodName := ⟨RX7, "pairs", "()I"⟩
abbrev cX7_pair : ByteArray := prog_1_method_18_code
def yX7_pair : MethodName := ⟨RX7, "pair", "(II)I"⟩
abbrev cX7_top : ByteArray := prog_1_method_19_code
def yX7_top : MethodName := ⟨RX7, "top", "(I)I"⟩
abbrev cX7_core : ByteArray := prog_1_method_20_code
def yX7_core : MethodName := ⟨RX7, "core", "(I)I"⟩
abbrev cX7_member : ByteArray := prog_1_method_21_code
def yX7_member : MethodName := ⟨RX7, "member", "(I)I"⟩
abbrev cX7_chain : ByteArray := prog_1_method_22_code
def yX7_chain : MethodName := ⟨RX7, "chain", "(II)I"⟩
abbrev cX7_next : ByteArray := prog_1_method_23_code
def yX7_next : MethodName := ⟨RX7, "next", "(II)I"⟩
abbrev cX7_count : ByteArray := prog_1_method_24_code
def yX7_count : MethodName := ⟨RX7, "count", "(I)I"⟩
abbrev cX7_isNumber : ByteArray := prog_1_method_25_code
def yX7_isNumber : MethodName := ⟨RX7, "isNumber", "(I)Z"⟩
abbrev cX7_setOf : ByteArray := prog_1_method_26_code
def yX7_setOf : MethodName := ⟨RX7, "setOf", "(I)LPairSieve$NumberSet;"⟩
abbrev cX7_weightOf : ByteArray := prog_1_method_27_code
def yX7_weightOf : MethodName := ⟨RX7, "weightOf", "(I)I"⟩
abbrev cX7_weighAll : ByteArray := prog_1_method_28_code
def yX7_weighAll : MethodName := ⟨RX7, "weighAll", "()V"⟩
abbrev cX7_beginningOf : ByteArray := prog_1_method_29_code
def yX7_beginningOf : MethodName := ⟨RX7, "beginningOf", "(LPairSieve$NumberSet;)I"⟩
abbrev cX7_fateOf : ByteArray := prog_1_method_30_code
def yX7_fateOf : MethodName := ⟨RX7, "fateOf", "(LPairSieve$NumberSet;ILPairSieve$NumberSet;I)I"⟩
abbrev cX7_startSieve : ByteArray := prog_1_method_31_code
def yX7_startSieve : MethodName := ⟨RX7, "startSieve", "()V"⟩
abbrev cX7_sift : ByteArray := prog_1_method_32_code
def yX7_sift : MethodName := ⟨RX7, "sift", "(II)V"⟩
abbrev cX7_rank : ByteArray := prog_1_method_33_code
def yX7_rank : MethodName := ⟨RX7, "rank", "(III)V"⟩
abbrev cX7_freshNet : ByteArray := prog_1_method_34_code
def yX7_freshNet : MethodName := ⟨RX7, "freshNet", "()LPairSieve$Net;"⟩
abbrev cX7_arePair : ByteArray := prog_1_method_35_code
def yX7_arePair : MethodName := ⟨RX7, "arePair", "(II)Z"⟩
abbrev cX7_countRecords : ByteArray := prog_1_method_36_code
def yX7_countRecords : MethodName := ⟨RX7, "countRecords", "()I"⟩
abbrev cX7_countNumbers : ByteArray := prog_1_method_37_code
def yX7_countNumbers : MethodName := ⟨RX7, "countNumbers", "()I"⟩
abbrev cX7_countFamilies : ByteArray := prog_1_method_38_code
def yX7_countFamilies : MethodName := ⟨RX7, "countFamilies", "()I"⟩
def RX8 : String := "PairSieveModel"
def TX8 : u_T := fun k => match k with
  | 0 => ("PairSieveModel", "thrown", "I", false)
  | 1 => ("PairSieveModel", "records", "I", false)
  | 2 => ("PairSieveModel", "isDropped", "[Z", true)
  | 3 => ("PairSieveModel", "many", "[I", true)
  | 4 => ("PairSieveModel", "set", "[I", true)
  | 5 => ("PairSieveModel", "told", "I", false)
  | 6 => ("PairSieveModel", "toldNumber", "[I", true)
  | 7 => ("PairSieveModel", "toldWeight", "[I", true)
  | 8 => ("PairSieveModel", "known", "I", false)
  | 9 => ("PairSieveModel", "knownNumber", "[I", true)
  | 10 => ("PairSieveModel", "knownMany", "[I", true)
  | 11 => ("PairSieveModel", "kind", "I", false)
  | 12 => ("PairSieveModel", "p", "I", false)
  | 13 => ("PairSieveModel", "q", "I", false)
  | 14 => ("PairSieveModel", "one", "[I", true)
  | 15 => ("PairSieveModel", "two", "[I", true)
  | 16 => ("PairSieveModel", "tape", "[I", true)
  | 17 => ("PairSieveModel", "taped", "I", false)
  | 18 => ("PairSieveModel", "kept", "I", false)
  | 19 => ("PairSieveModel", "keptA", "[I", true)
  | 20 => ("PairSieveModel", "keptB", "[I", true)
  | 21 => ("PairSieveModel", "keptS", "[I", true)
  | 22 => ("PairSieveModel", "sieved", "[I", true)
  | 23 => ("PairSieveModel", "far", "[I", true)
  | 24 => ("PairSieveModel", "familyMany", "I", false)
  | 25 => ("PairSieveModel", "coreMany", "I", false)
  | 26 => ("PairSieveModel", "family", "[I", true)
  | 27 => ("PairSieveModel", "beside", "[I", true)
  | 28 => ("PairSieveModel", "coreOf", "[I", true)
  | _ => ("PairSieveModel", "best", "I", false)
def tyX8 : Nat → FieldType := fun k => match k with
  | 0 => .int
  | 1 => .int
  | 2 => .array .boolean
  | 3 => .array .int
  | 4 => .array .int
  | 5 => .int
  | 6 => .array .int
  | 7 => .array .int
  | 8 => .int
  | 9 => .array .int
  | 10 => .array .int
  | 11 => .int
  | 12 => .int
  | 13 => .int
  | 14 => .array .int
  | 15 => .array .int
  | 16 => .array .int
  | 17 => .int
  | 18 => .int
  | 19 => .array .int
  | 20 => .array .int
  | 21 => .array .int
  | 22 => .array .int
  | 23 => .array .int
  | 24 => .int
  | 25 => .int
  | 26 => .array .int
  | 27 => .array .int
  | 28 => .array .int
  | _ => .int
abbrev wsX80 : List Cond := u_ws RX8 TX8 30
theorem nmX8 : ∀ a, a < 30 → ∀ b, b < 30 → a ≠ b → (TX8 a).2.1 ≠ (TX8 b).2.1 := by decide +kernel
theorem tyX8_ok : ∀ k, k < 30 → parseFieldDescriptor (TX8 k).2.2.1 = some (tyX8 k) := by decide +kernel
abbrev cX8_init : ByteArray := prog_10_method_1_code
def yX8_init : MethodName := ⟨RX8, "<init>", "()V"⟩
abbrev cX8_thrown : ByteArray := prog_10_method_2_code
def yX8_thrown : MethodName := ⟨RX8, "thrown", "()I"⟩
abbrev cX8_in : ByteArray := prog_10_method_3_code
def yX8_in : MethodName := ⟨RX8, "in", "(III)Z"⟩
abbrev cX8_is : ByteArray := prog_10_method_4_code
def yX8_is : MethodName := ⟨RX8, "is", "(I)Z"⟩
abbrev cX8_isTwo : ByteArray := prog_10_method_5_code
def yX8_isTwo : MethodName := ⟨RX8, "isTwo", "(II)Z"⟩
abbrev cX8_isNumber : ByteArray := prog_10_method_6_code
def yX8_isNumber : MethodName := ⟨RX8, "isNumber", "(I)Z"⟩
abbrev cX8_place : ByteArray := prog_10_method_7_code
def yX8_place : MethodName := ⟨RX8, "place", "(II)I"⟩
abbrev cX8_record : ByteArray := prog_10_method_8_code
def yX8_record : MethodName := ⟨RX8, "record", "()I"⟩
abbrev cX8_drop : ByteArray := prog_10_method_9_code
def yX8_drop : MethodName := ⟨RX8, "drop", "(I)Z"⟩
abbrev cX8_put : ByteArray := prog_10_method_10_code
def yX8_put : MethodName := ⟨RX8, "put", "(II)Z"⟩
abbrev cX8_take : ByteArray := prog_10_method_11_code
def yX8_take : MethodName := ⟨RX8, "take", "(II)Z"⟩
abbrev cX8_place0 : ByteArray := prog_10_method_12_code
def yX8_place0 : MethodName := ⟨RX8, "place0", "(II)I"⟩
abbrev cX8_weight : ByteArray := prog_10_method_13_code
def yX8_weight : MethodName := ⟨RX8, "weight", "(II)Z"⟩
abbrev cX8_weightOf : ByteArray := prog_10_method_14_code
def yX8_weightOf : MethodName := ⟨RX8, "weightOf", "(I)I"⟩
abbrev cX8_frequencyOf : ByteArray := prog_10_method_15_code
def yX8_frequencyOf : MethodName := ⟨RX8, "frequencyOf", "(I)I"⟩
abbrev cX8_isAhead : ByteArray := prog_10_method_16_code
def yX8_isAhead : MethodName := ⟨RX8, "isAhead", "(II)Z"⟩
abbrev cX8_sort : ByteArray := prog_10_method_17_code
def yX8_sort : MethodName := ⟨RX8, "sort", "(I[I)V"⟩
abbrev cX8_amount : ByteArray := prog_10_method_18_code
def yX8_amount : MethodName := ⟨RX8, "amount", "([III)I"⟩
abbrev cX8_amountOf : ByteArray := prog_10_method_19_code
def yX8_amountOf : MethodName := ⟨RX8, "amountOf", "(I)I"⟩
abbrev cX8_shared : ByteArray := prog_10_method_20_code
def yX8_shared : MethodName := ⟨RX8, "shared", "(II)I"⟩
abbrev cX8_four : ByteArray := prog_10_method_21_code
def yX8_four : MethodName := ⟨RX8, "four", "(I)V"⟩
abbrev cX8_feed : ByteArray := prog_10_method_22_code
def yX8_feed : MethodName := ⟨RX8, "feed", "(IIIII)I"⟩
abbrev cX8_end : ByteArray := prog_10_method_23_code
def yX8_end : MethodName := ⟨RX8, "end", "(I)I"⟩
abbrev cX8_piece : ByteArray := prog_10_method_24_code
def yX8_piece : MethodName := ⟨RX8, "piece", "(II)I"⟩
abbrev cX8_text : ByteArray := prog_10_method_25_code
def yX8_text : MethodName := ⟨RX8, "text", "(II)I"⟩
abbrev cX8_measure : ByteArray := prog_10_method_26_code
def yX8_measure : MethodName := ⟨RX8, "measure", "(III)Z"⟩
abbrev cX8_order : ByteArray := prog_10_method_27_code
def yX8_order : MethodName := ⟨RX8, "order", "()I"⟩
abbrev cX8_frequency : ByteArray := prog_10_method_28_code
def yX8_frequency : MethodName := ⟨RX8, "frequency", "(I)I"⟩
abbrev cX8_up : ByteArray := prog_10_method_29_code
def yX8_up : MethodName := ⟨RX8, "up", "(JJ)J"⟩
abbrev cX8_needed : ByteArray := prog_10_method_30_code
def yX8_needed : MethodName := ⟨RX8, "needed", "(JJ)J"⟩
abbrev cX8_least : ByteArray := prog_10_method_31_code
def yX8_least : MethodName := ⟨RX8, "least", "(J)J"⟩
abbrev cX8_divisor : ByteArray := prog_10_method_32_code
def yX8_divisor : MethodName := ⟨RX8, "divisor", "(JJ)J"⟩
abbrev cX8_above : ByteArray := prog_10_method_33_code
def yX8_above : MethodName := ⟨RX8, "above", "(JJJ)J"⟩
abbrev cX8_below : ByteArray := prog_10_method_34_code
def yX8_below : MethodName := ⟨RX8, "below", "(JJJ)J"⟩
abbrev cX8_isPair : ByteArray := prog_10_method_35_code
def yX8_isPair : MethodName := ⟨RX8, "isPair", "(II)Z"⟩
abbrev cX8_beginning : ByteArray := prog_10_method_36_code
def yX8_beginning : MethodName := ⟨RX8, "beginning", "([II)I"⟩
abbrev cX8_whyOf : ByteArray := prog_10_method_37_code
def yX8_whyOf : MethodName := ⟨RX8, "whyOf", "(II)I"⟩
abbrev cX8_why : ByteArray := prog_10_method_38_code
def yX8_why : MethodName := ⟨RX8, "why", "(II)I"⟩
abbrev cX8_like : ByteArray := prog_10_method_39_code
def yX8_like : MethodName := ⟨RX8, "like", "(III)J"⟩
abbrev cX8_keep : ByteArray := prog_10_method_40_code
def yX8_keep : MethodName := ⟨RX8, "keep", "(III)V"⟩
abbrev cX8_spent : ByteArray := prog_10_method_41_code
def yX8_spent : MethodName := ⟨RX8, "spent", "()I"⟩
abbrev cX8_pairs : ByteArray := prog_10_method_42_code
def yX8_pairs : MethodName := ⟨RX8, "pairs", "()I"⟩
abbrev cX8_pair : ByteArray := prog_10_method_43_code
def yX8_pair : MethodName := ⟨RX8, "pair", "(II)I"⟩
abbrev cX8_isLiker : ByteArray := prog_10_method_44_code
def yX8_isLiker : MethodName := ⟨RX8, "isLiker", "(IIII)Z"⟩
abbrev cX8_top : ByteArray := prog_10_method_45_code
def yX8_top : MethodName := ⟨RX8, "top", "(I)I"⟩
abbrev cX8_steps : ByteArray := prog_10_method_46_code
def yX8_steps : MethodName := ⟨RX8, "steps", "(I)V"⟩
abbrev cX8_about : ByteArray := prog_10_method_47_code
def yX8_about : MethodName := ⟨RX8, "about", "(II)I"⟩
abbrev cX8_at : ByteArray := prog_10_method_48_code
def yX8_at : MethodName := ⟨RX8, "at", "(II)I"⟩
abbrev cX8_chain : ByteArray := prog_10_method_49_code
def yX8_chain : MethodName := ⟨RX8, "chain", "(II)I"⟩
abbrev cX8_next : ByteArray := prog_10_method_50_code
def yX8_next : MethodName := ⟨RX8, "next", "(II)I"⟩
abbrev cX8_grow : ByteArray := prog_10_method_51_code
def yX8_grow : MethodName := ⟨RX8, "grow", "(IIII)V"⟩
abbrev cX8_core : ByteArray := prog_10_method_52_code
def yX8_core : MethodName := ⟨RX8, "core", "(I)I"⟩
abbrev cX8_member : ByteArray := prog_10_method_53_code
def yX8_member : MethodName := ⟨RX8, "member", "(I)I"⟩
abbrev cX8_count : ByteArray := prog_10_method_54_code
def yX8_count : MethodName := ⟨RX8, "count", "(I)I"⟩
def RJ6 : String := "java/lang/Integer"
def TJ6 : u_T := fun k => match k with
  | _ => ("", "", "", false)
def tyJ6 : Nat → FieldType := fun k => match k with
  | _ => .int
abbrev wsJ60 : List Cond := u_ws RJ6 TJ6 0
theorem nmJ6 : ∀ a, a < 0 → ∀ b, b < 0 → a ≠ b → (TJ6 a).2.1 ≠ (TJ6 b).2.1 := by decide +kernel
theorem tyJ6_ok : ∀ k, k < 0 → parseFieldDescriptor (TJ6 k).2.2.1 = some (tyJ6 k) := by decide +kernel
abbrev cJ6_bitCount_0f7a4 : ByteArray := prog_12_method_49_code
def yJ6_bitCount_0f7a4 : MethodName := ⟨RJ6, "bitCount", "(I)I"⟩
def RJ13 : String := "java/lang/Long"
def TJ13 : u_T := fun k => match k with
  | _ => ("", "", "", false)
def tyJ13 : Nat → FieldType := fun k => match k with
  | _ => .int
abbrev wsJ130 : List Cond := u_ws RJ13 TJ13 0
theorem nmJ13 : ∀ a, a < 0 → ∀ b, b < 0 → a ≠ b → (TJ13 a).2.1 ≠ (TJ13 b).2.1 := by decide +kernel
theorem tyJ13_ok : ∀ k, k < 0 → parseFieldDescriptor (TJ13 k).2.2.1 = some (tyJ13 k) := by decide +kernel
abbrev cJ13_bitCount_95d88 : ByteArray := prog_13_method_50_code
def yJ13_bitCount_95d88 : MethodName := ⟨RJ13, "bitCount", "(J)I"⟩
def RJ9 : String := "java/lang/Math"
def TJ9 : u_T := fun k => match k with
  | _ => ("", "", "", false)
def tyJ9 : Nat → FieldType := fun k => match k with
  | _ => .int
abbrev wsJ90 : List Cond := u_ws RJ9 TJ9 0
theorem nmJ9 : ∀ a, a < 0 → ∀ b, b < 0 → a ≠ b → (TJ9 a).2.1 ≠ (TJ9 b).2.1 := by decide +kernel
theorem tyJ9_ok : ∀ k, k < 0 → parseFieldDescriptor (TJ9 k).2.2.1 = some (tyJ9 k) := by decide +kernel
abbrev cJ9_min_7cf53 : ByteArray := prog_14_method_69_code
def yJ9_min_7cf53 : MethodName := ⟨RJ9, "min", "(II)I"⟩
abbrev cJ9_min_f86c9 : ByteArray := prog_14_method_70_code
def yJ9_min_f86c9 : MethodName := ⟨RJ9, "min", "(JJ)J"⟩
def RJ0 : String := "java/lang/String"
def TJ0 : u_T := fun k => match k with
  | _ => ("", "", "", false)
def tyJ0 : Nat → FieldType := fun k => match k with
  | _ => .int
abbrev wsJ00 : List Cond := u_ws RJ0 TJ0 0
theorem nmJ0 : ∀ a, a < 0 → ∀ b, b < 0 → a ≠ b → (TJ0 a).2.1 ≠ (TJ0 b).2.1 := by decide +kernel
theorem tyJ0_ok : ∀ k, k < 0 → parseFieldDescriptor (TJ0 k).2.2.1 = some (tyJ0 k) := by decide +kernel
def RJ10 : String := "java/lang/System"
def TJ10 : u_T := fun k => match k with
  | _ => ("", "", "", false)
def tyJ10 : Nat → FieldType := fun k => match k with
  | _ => .int
abbrev wsJ100 : List Cond := u_ws RJ10 TJ10 0
theorem nmJ10 : ∀ a, a < 0 → ∀ b, b < 0 → a ≠ b → (TJ10 a).2.1 ≠ (TJ10 b).2.1 := by decide +kernel
theorem tyJ10_ok : ∀ k, k < 0 → parseFieldDescriptor (TJ10 k).2.2.1 = some (tyJ10 k) := by decide +kernel
def RL : String := "PairSieveLaw"
abbrev cL_pair : ByteArray := method_3_code
def yL_pair : MethodName := ⟨RL, "pair", "(LPairSieve;II[J)I"⟩
abbrev cL_law : ByteArray := code
def yL_law : MethodName := ⟨RL, "law", "([I)Z"⟩
abbrev vwCl : List vw_C := [(RX0, TX0, 6), (RX1, TX1, 3), (RX2, TX2, 2), (RX3, TX3, 4), (RX4, TX4, 3), (RX5, TX5, 3), (RX6, TX6, 3), (RX7, TX7, 13), (RX8, TX8, 30)]
end
section
/-! the words that all methods share: the good ones of the tables -/
def GG : List Cond := lw_tbl.filter goodWord
theorem GG_in {i : Nat} {w : Cond} (h : lw_tbl[i]? = some w) (hg : goodWord w = true) : w ∈ GG := List.mem_filter.mpr ⟨List.mem_of_getElem? h, hg⟩
theorem GG_good : ∀ w ∈ GG, (w.onTables && w.keeps) = true ∨ ∃ ty, w = .arrayClass ty := fun _ h => good_of_word (List.mem_filter.mp h).2
theorem wE_L_8 : Cond.classLink RL 8 RX7 ∈ GG := GG_in (i := 63) (by decide +kernel) (by decide +kernel)
theorem wB_X7 : Cond.instantiable RX7 13 ∈ GG := GG_in (i := 64) (by decide +kernel) (by decide +kernel)
theorem wN_X7 : Cond.initialized RX7 ∈ GG := GG_in (i := 46) (by decide +kernel) (by decide +kernel)
theorem wE_L_16 : Cond.classLink RL 16 RX8 ∈ GG := GG_in (i := 700) (by decide +kernel) (by decide +kernel)
theorem wB_X8 : Cond.instantiable RX8 30 ∈ GG := GG_in (i := 701) (by decide +kernel) (by decide +kernel)
theorem wN_X8 : Cond.initialized RX8 ∈ GG := GG_in (i := 53) (by decide +kernel) (by decide +kernel)
theorem wA_long : Cond.arrayClass .long ∈ GG := GG_in (i := 176) (by decide +kernel) (by decide +kernel)
theorem wM_L_15 : Cond.methodLink RL 15 yX7_init ∈ GG := GG_in (i := 65) (by decide +kernel) (by decide +kernel)
theorem wI_X7_init : Cond.instanceMethod yX7_init ∈ GG := GG_in (i := 66) (by decide +kernel) (by decide +kernel)
set_option maxRecDepth 100000 in
theorem wC_X7_init : Cond.code yX7_init cX7_init 1 none ∈ GG := GG_in (i := 67) (rfl) (by decide +kernel)
theorem wM_X7_3 : Cond.methodLink RX7 3 objectInit ∈ GG := GG_in (i := 68) (by decide +kernel) (by decide +kernel)
theorem wI_objInit : Cond.instanceMethod objectInit ∈ GG := GG_in (i := 69) (by decide +kernel) (by decide +kernel)
set_option maxRecDepth 100000 in
theorem wC_objInit : Cond.code objectInit ⟨#[0xb1]⟩ 1 none ∈ GG := GG_in (i := 70) (rfl) (by decide +kernel)
theorem wE_X7_9 : Cond.classLink RX7 9 RX3 ∈ GG := GG_in (i := 71) (by decide +kernel) (by decide +kernel)
theorem wF_X7_11 : Cond.fieldLink RX7 11 "PairSieve" "sets" "[LPairSieve$NumberSet;" ∈ GG := GG_in (i := 190) (by decide +kernel) (by decide +kernel)
theorem wE_X7_15 : Cond.classLink RX7 15 RX5 ∈ GG := GG_in (i := 73) (by decide +kernel) (by decide +kernel)
theorem wB_X5 : Cond.instantiable RX5 3 ∈ GG := GG_in (i := 74) (by decide +kernel) (by decide +kernel)
theorem wN_X5 : Cond.initialized RX5 ∈ GG := GG_in (i := 47) (by decide +kernel) (by decide +kernel)
theorem wF_X7_20 : Cond.fieldLink RX7 20 "PairSieve" "frequencies" "LPairSieve$Table;" ∈ GG := GG_in (i := 192) (by decide +kernel) (by decide +kernel)
theorem wF_X7_24 : Cond.fieldLink RX7 24 "PairSieve" "told" "LPairSieve$Table;" ∈ GG := GG_in (i := 193) (by decide +kernel) (by decide +kernel)
theorem wE_X7_27 : Cond.classLink RX7 27 RX1 ∈ GG := GG_in (i := 91) (by decide +kernel) (by decide +kernel)
theorem wB_X1 : Cond.instantiable RX1 3 ∈ GG := GG_in (i := 92) (by decide +kernel) (by decide +kernel)
theorem wN_X1 : Cond.initialized RX1 ∈ GG := GG_in (i := 48) (by decide +kernel) (by decide +kernel)
theorem wF_X7_30 : Cond.fieldLink RX7 30 "PairSieve" "limit" "LPairSieve$Measure;" ∈ GG := GG_in (i := 194) (by decide +kernel) (by decide +kernel)
theorem wE_X7_34 : Cond.classLink RX7 34 RX6 ∈ GG := GG_in (i := 110) (by decide +kernel) (by decide +kernel)
theorem wB_X6 : Cond.instantiable RX6 3 ∈ GG := GG_in (i := 111) (by decide +kernel) (by decide +kernel)
theorem wN_X6 : Cond.initialized RX6 ∈ GG := GG_in (i := 49) (by decide +kernel) (by decide +kernel)
theorem wF_X7_37 : Cond.fieldLink RX7 37 "PairSieve" "tape" "LPairSieve$Tape;" ∈ GG := GG_in (i := 195) (by decide +kernel) (by decide +kernel)
theorem wE_X7_41 : Cond.classLink RX7 41 RX4 ∈ GG := GG_in (i := 128) (by decide +kernel) (by decide +kernel)
theorem wB_X4 : Cond.instantiable RX4 3 ∈ GG := GG_in (i := 129) (by decide +kernel) (by decide +kernel)
theorem wN_X4 : Cond.initialized RX4 ∈ GG := GG_in (i := 50) (by decide +kernel) (by decide +kernel)
theorem wF_X7_44 : Cond.fieldLink RX7 44 "PairSieve" "overlap" "LPairSieve$Overlap;" ∈ GG := GG_in (i := 196) (by decide +kernel) (by decide +kernel)
theorem wA_int : Cond.arrayClass .int ∈ GG := GG_in (i := 90) (by decide +kernel) (by decide +kernel)
theorem wF_X7_48 : Cond.fieldLink RX7 48 "PairSieve" "beginnings" "[I" ∈ GG := GG_in (i := 197) (by decide +kernel) (by decide +kernel)
theorem wF_X7_52 : Cond.fieldLink RX7 52 "PairSieve" "tally" "[I" ∈ GG := GG_in (i := 198) (by decide +kernel) (by decide +kernel)
theorem wE_X7_55 : Cond.classLink RX7 55 RX0 ∈ GG := GG_in (i := 147) (by decide +kernel) (by decide +kernel)
theorem wB_X0 : Cond.instantiable RX0 6 ∈ GG := GG_in (i := 148) (by decide +kernel) (by decide +kernel)
theorem wN_X0 : Cond.initialized RX0 ∈ GG := GG_in (i := 51) (by decide +kernel) (by decide +kernel)
theorem wF_X7_58 : Cond.fieldLink RX7 58 "PairSieve" "kept" "LPairSieve$KeptPairs;" ∈ GG := GG_in (i := 200) (by decide +kernel) (by decide +kernel)
theorem wE_X7_62 : Cond.classLink RX7 62 RX2 ∈ GG := GG_in (i := 177) (by decide +kernel) (by decide +kernel)
theorem wB_X2 : Cond.instantiable RX2 2 ∈ GG := GG_in (i := 178) (by decide +kernel) (by decide +kernel)
theorem wN_X2 : Cond.initialized RX2 ∈ GG := GG_in (i := 52) (by decide +kernel) (by decide +kernel)
theorem wF_X7_65 : Cond.fieldLink RX7 65 "PairSieve" "net" "LPairSieve$Net;" ∈ GG := GG_in (i := 201) (by decide +kernel) (by decide +kernel)
theorem wM_X7_17 : Cond.methodLink RX7 17 yX5_init ∈ GG := GG_in (i := 75) (by decide +kernel) (by decide +kernel)
theorem wI_X5_init : Cond.instanceMethod yX5_init ∈ GG := GG_in (i := 76) (by decide +kernel) (by decide +kernel)
set_option maxRecDepth 100000 in
theorem wC_X5_init : Cond.code yX5_init cX5_init 2 none ∈ GG := GG_in (i := 77) (rfl) (by decide +kernel)
theorem wM_X5_1 : Cond.methodLink RX5 1 objectInit ∈ GG := GG_in (i := 78) (by decide +kernel) (by decide +kernel)
theorem wF_X5_7 : Cond.fieldLink RX5 7 "PairSieve$Table" "numbers" "[I" ∈ GG := GG_in (i := 79) (by decide +kernel) (by decide +kernel)
theorem wF_X5_13 : Cond.fieldLink RX5 13 "PairSieve$Table" "values" "[I" ∈ GG := GG_in (i := 80) (by decide +kernel) (by decide +kernel)
theorem wI_X1_init : Cond.instanceMethod yX1_init ∈ GG := GG_in (i := 94) (by decide +kernel) (by decide +kernel)
set_option maxRecDepth 100000 in
theorem wC_X1_init : Cond.code yX1_init cX1_init 1 none ∈ GG := GG_in (i := 95) (rfl) (by decide +kernel)
theorem wM_X1_3 : Cond.methodLink RX1 3 objectInit ∈ GG := GG_in (i := 96) (by decide +kernel) (by decide +kernel)
theorem wF_X1_9 : Cond.fieldLink RX1 9 "PairSieve$Measure" "kind" "I" ∈ GG := GG_in (i := 97) (by decide +kernel) (by decide +kernel)
theorem wF_X1_15 : Cond.fieldLink RX1 15 "PairSieve$Measure" "p" "I" ∈ GG := GG_in (i := 99) (by decide +kernel) (by decide +kernel)
theorem wF_X1_18 : Cond.fieldLink RX1 18 "PairSieve$Measure" "q" "I" ∈ GG := GG_in (i := 101) (by decide +kernel) (by decide +kernel)
theorem wI_X6_init : Cond.instanceMethod yX6_init ∈ GG := GG_in (i := 113) (by decide +kernel) (by decide +kernel)
set_option maxRecDepth 100000 in
theorem wC_X6_init : Cond.code yX6_init cX6_init 1 none ∈ GG := GG_in (i := 114) (rfl) (by decide +kernel)
theorem wM_X6_3 : Cond.methodLink RX6 3 objectInit ∈ GG := GG_in (i := 115) (by decide +kernel) (by decide +kernel)
theorem wF_X6_11 : Cond.fieldLink RX6 11 "PairSieve$Tape" "bytes" "[I" ∈ GG := GG_in (i := 116) (by decide +kernel) (by decide +kernel)
theorem wF_X6_15 : Cond.fieldLink RX6 15 "PairSieve$Tape" "numbers" "[I" ∈ GG := GG_in (i := 119) (by decide +kernel) (by decide +kernel)
theorem wI_X4_init : Cond.instanceMethod yX4_init ∈ GG := GG_in (i := 131) (by decide +kernel) (by decide +kernel)
set_option maxRecDepth 100000 in
theorem wC_X4_init : Cond.code yX4_init cX4_init 1 none ∈ GG := GG_in (i := 132) (rfl) (by decide +kernel)
theorem wM_X4_1 : Cond.methodLink RX4 1 objectInit ∈ GG := GG_in (i := 133) (by decide +kernel) (by decide +kernel)
theorem wI_X0_init : Cond.instanceMethod yX0_init ∈ GG := GG_in (i := 150) (by decide +kernel) (by decide +kernel)
set_option maxRecDepth 100000 in
theorem wC_X0_init : Cond.code yX0_init cX0_init 1 none ∈ GG := GG_in (i := 151) (rfl) (by decide +kernel)
theorem wM_X0_3 : Cond.methodLink RX0 3 objectInit ∈ GG := GG_in (i := 152) (by decide +kernel) (by decide +kernel)
theorem wF_X0_9 : Cond.fieldLink RX0 9 "PairSieve$KeptPairs" "first" "[I" ∈ GG := GG_in (i := 153) (by decide +kernel) (by decide +kernel)
theorem wF_X0_15 : Cond.fieldLink RX0 15 "PairSieve$KeptPairs" "second" "[I" ∈ GG := GG_in (i := 155) (by decide +kernel) (by decide +kernel)
theorem wF_X0_18 : Cond.fieldLink RX0 18 "PairSieve$KeptPairs" "shared" "[I" ∈ GG := GG_in (i := 157) (by decide +kernel) (by decide +kernel)
theorem wF_X0_21 : Cond.fieldLink RX0 21 "PairSieve$KeptPairs" "above" "[J" ∈ GG := GG_in (i := 159) (by decide +kernel) (by decide +kernel)
theorem wF_X0_25 : Cond.fieldLink RX0 25 "PairSieve$KeptPairs" "below" "[J" ∈ GG := GG_in (i := 160) (by decide +kernel) (by decide +kernel)
theorem wI_X2_init : Cond.instanceMethod yX2_init ∈ GG := GG_in (i := 180) (by decide +kernel) (by decide +kernel)
set_option maxRecDepth 100000 in
theorem wC_X2_init : Cond.code yX2_init cX2_init 1 none ∈ GG := GG_in (i := 181) (rfl) (by decide +kernel)
theorem wM_X2_3 : Cond.methodLink RX2 3 objectInit ∈ GG := GG_in (i := 182) (by decide +kernel) (by decide +kernel)
theorem wF_X2_9 : Cond.fieldLink RX2 9 "PairSieve$Net" "friends" "[J" ∈ GG := GG_in (i := 183) (by decide +kernel) (by decide +kernel)
theorem wM_L_18 : Cond.methodLink RL 18 yX8_init ∈ GG := GG_in (i := 702) (by decide +kernel) (by decide +kernel)
theorem wI_X8_init : Cond.instanceMethod yX8_init ∈ GG := GG_in (i := 703) (by decide +kernel) (by decide +kernel)
set_option maxRecDepth 100000 in
theorem wC_X8_init : Cond.code yX8_init cX8_init 1 none ∈ GG := GG_in (i := 704) (rfl) (by decide +kernel)
theorem wM_X8_1 : Cond.methodLink RX8 1 objectInit ∈ GG := GG_in (i := 705) (by decide +kernel) (by decide +kernel)
theorem wA_boolean : Cond.arrayClass .boolean ∈ GG := GG_in (i := 797) (by decide +kernel) (by decide +kernel)
theorem wF_X8_9 : Cond.fieldLink RX8 9 "PairSieveModel" "isDropped" "[Z" ∈ GG := GG_in (i := 708) (by decide +kernel) (by decide +kernel)
theorem wF_X8_13 : Cond.fieldLink RX8 13 "PairSieveModel" "many" "[I" ∈ GG := GG_in (i := 709) (by decide +kernel) (by decide +kernel)
theorem wF_X8_17 : Cond.fieldLink RX8 17 "PairSieveModel" "set" "[I" ∈ GG := GG_in (i := 710) (by decide +kernel) (by decide +kernel)
theorem wF_X8_20 : Cond.fieldLink RX8 20 "PairSieveModel" "toldNumber" "[I" ∈ GG := GG_in (i := 712) (by decide +kernel) (by decide +kernel)
theorem wF_X8_23 : Cond.fieldLink RX8 23 "PairSieveModel" "toldWeight" "[I" ∈ GG := GG_in (i := 713) (by decide +kernel) (by decide +kernel)
theorem wF_X8_26 : Cond.fieldLink RX8 26 "PairSieveModel" "knownNumber" "[I" ∈ GG := GG_in (i := 715) (by decide +kernel) (by decide +kernel)
theorem wF_X8_29 : Cond.fieldLink RX8 29 "PairSieveModel" "knownMany" "[I" ∈ GG := GG_in (i := 716) (by decide +kernel) (by decide +kernel)
theorem wF_X8_32 : Cond.fieldLink RX8 32 "PairSieveModel" "kind" "I" ∈ GG := GG_in (i := 717) (by decide +kernel) (by decide +kernel)
theorem wF_X8_36 : Cond.fieldLink RX8 36 "PairSieveModel" "p" "I" ∈ GG := GG_in (i := 718) (by decide +kernel) (by decide +kernel)
theorem wF_X8_39 : Cond.fieldLink RX8 39 "PairSieveModel" "q" "I" ∈ GG := GG_in (i := 719) (by decide +kernel) (by decide +kernel)
theorem wF_X8_42 : Cond.fieldLink RX8 42 "PairSieveModel" "one" "[I" ∈ GG := GG_in (i := 720) (by decide +kernel) (by decide +kernel)
theorem wF_X8_45 : Cond.fieldLink RX8 45 "PairSieveModel" "two" "[I" ∈ GG := GG_in (i := 721) (by decide +kernel) (by decide +kernel)
theorem wF_X8_48 : Cond.fieldLink RX8 48 "PairSieveModel" "tape" "[I" ∈ GG := GG_in (i := 722) (by decide +kernel) (by decide +kernel)
theorem wF_X8_51 : Cond.fieldLink RX8 51 "PairSieveModel" "keptA" "[I" ∈ GG := GG_in (i := 725) (by decide +kernel) (by decide +kernel)
theorem wF_X8_54 : Cond.fieldLink RX8 54 "PairSieveModel" "keptB" "[I" ∈ GG := GG_in (i := 726) (by decide +kernel) (by decide +kernel)
theorem wF_X8_57 : Cond.fieldLink RX8 57 "PairSieveModel" "keptS" "[I" ∈ GG := GG_in (i := 727) (by decide +kernel) (by decide +kernel)
theorem wF_X8_60 : Cond.fieldLink RX8 60 "PairSieveModel" "sieved" "[I" ∈ GG := GG_in (i := 728) (by decide +kernel) (by decide +kernel)
theorem wF_X8_63 : Cond.fieldLink RX8 63 "PairSieveModel" "far" "[I" ∈ GG := GG_in (i := 729) (by decide +kernel) (by decide +kernel)
theorem wF_X8_66 : Cond.fieldLink RX8 66 "PairSieveModel" "family" "[I" ∈ GG := GG_in (i := 732) (by decide +kernel) (by decide +kernel)
theorem wF_X8_69 : Cond.fieldLink RX8 69 "PairSieveModel" "beside" "[I" ∈ GG := GG_in (i := 733) (by decide +kernel) (by decide +kernel)
theorem wF_X8_72 : Cond.fieldLink RX8 72 "PairSieveModel" "coreOf" "[I" ∈ GG := GG_in (i := 734) (by decide +kernel) (by decide +kernel)
theorem wM_L_19 : Cond.methodLink RL 19 yX7_record ∈ GG := GG_in (i := 230) (by decide +kernel) (by decide +kernel)
theorem wI_X7_record : Cond.instanceMethod yX7_record ∈ GG := GG_in (i := 231) (by decide +kernel) (by decide +kernel)
theorem wL_X7_record : Cond.selects RX7 yX7_record yX7_record ∈ GG := GG_in (i := 232) (by decide +kernel) (by decide +kernel)
set_option maxRecDepth 100000 in
theorem wC_X7_record : Cond.code yX7_record cX7_record 1 (some .int) ∈ GG := GG_in (i := 233) (rfl) (by decide +kernel)
theorem wF_X7_69 : Cond.fieldLink RX7 69 "PairSieve" "made" "I" ∈ GG := GG_in (i := 191) (by decide +kernel) (by decide +kernel)
theorem wB_X3 : Cond.instantiable RX3 4 ∈ GG := GG_in (i := 234) (by decide +kernel) (by decide +kernel)
theorem wN_X3 : Cond.initialized RX3 ∈ GG := GG_in (i := 54) (by decide +kernel) (by decide +kernel)
theorem wI_X3_init : Cond.instanceMethod yX3_init ∈ GG := GG_in (i := 236) (by decide +kernel) (by decide +kernel)
set_option maxRecDepth 100000 in
theorem wC_X3_init : Cond.code yX3_init cX3_init 1 none ∈ GG := GG_in (i := 237) (rfl) (by decide +kernel)
theorem wM_X3_3 : Cond.methodLink RX3 3 objectInit ∈ GG := GG_in (i := 238) (by decide +kernel) (by decide +kernel)
theorem wF_X3_9 : Cond.fieldLink RX3 9 "PairSieve$NumberSet" "keys" "[I" ∈ GG := GG_in (i := 239) (by decide +kernel) (by decide +kernel)
theorem wF_X3_15 : Cond.fieldLink RX3 15 "PairSieve$NumberSet" "weights" "[I" ∈ GG := GG_in (i := 241) (by decide +kernel) (by decide +kernel)
theorem wM_L_23 : Cond.methodLink RL 23 yX8_record ∈ GG := GG_in (i := 802) (by decide +kernel) (by decide +kernel)
theorem wI_X8_record : Cond.instanceMethod yX8_record ∈ GG := GG_in (i := 803) (by decide +kernel) (by decide +kernel)
theorem wL_X8_record : Cond.selects RX8 yX8_record yX8_record ∈ GG := GG_in (i := 804) (by decide +kernel) (by decide +kernel)
set_option maxRecDepth 100000 in
theorem wC_X8_record : Cond.code yX8_record cX8_record 1 (some .int) ∈ GG := GG_in (i := 805) (rfl) (by decide +kernel)
theorem wF_X8_75 : Cond.fieldLink RX8 75 "PairSieveModel" "thrown" "I" ∈ GG := GG_in (i := 706) (by decide +kernel) (by decide +kernel)
theorem wF_X8_78 : Cond.fieldLink RX8 78 "PairSieveModel" "records" "I" ∈ GG := GG_in (i := 707) (by decide +kernel) (by decide +kernel)
theorem wM_L_24 : Cond.methodLink RL 24 yX7_drop ∈ GG := GG_in (i := 257) (by decide +kernel) (by decide +kernel)
theorem wI_X7_drop : Cond.instanceMethod yX7_drop ∈ GG := GG_in (i := 258) (by decide +kernel) (by decide +kernel)
theorem wL_X7_drop : Cond.selects RX7 yX7_drop yX7_drop ∈ GG := GG_in (i := 259) (by decide +kernel) (by decide +kernel)
set_option maxRecDepth 100000 in
theorem wC_X7_drop : Cond.code yX7_drop cX7_drop 2 (some .boolean) ∈ GG := GG_in (i := 260) (rfl) (by decide +kernel)
theorem wM_X7_74 : Cond.methodLink RX7 74 yX7_setOf ∈ GG := GG_in (i := 261) (by decide +kernel) (by decide +kernel)
theorem wI_X7_setOf : Cond.instanceMethod yX7_setOf ∈ GG := GG_in (i := 263) (by decide +kernel) (by decide +kernel)
theorem wL_X7_setOf : Cond.selects RX7 yX7_setOf yX7_setOf ∈ GG := GG_in (i := 0) (by decide +kernel) (by decide +kernel)
set_option maxRecDepth 100000 in
theorem wC_X7_setOf : Cond.code yX7_setOf cX7_setOf 2 (some (.object "PairSieve$NumberSet")) ∈ GG := GG_in (i := 264) (rfl) (by decide +kernel)
theorem wM_X7_78 : Cond.methodLink RX7 78 yX2_forget ∈ GG := GG_in (i := 265) (by decide +kernel) (by decide +kernel)
theorem wI_X2_forget : Cond.instanceMethod yX2_forget ∈ GG := GG_in (i := 266) (by decide +kernel) (by decide +kernel)
theorem wL_X2_forget : Cond.selects RX2 yX2_forget yX2_forget ∈ GG := GG_in (i := 267) (by decide +kernel) (by decide +kernel)
set_option maxRecDepth 100000 in
theorem wC_X2_forget : Cond.code yX2_forget cX2_forget 2 none ∈ GG := GG_in (i := 268) (rfl) (by decide +kernel)
theorem wF_X2_15 : Cond.fieldLink RX2 15 "PairSieve$Net" "forgotten" "J" ∈ GG := GG_in (i := 184) (by decide +kernel) (by decide +kernel)
theorem wM_L_28 : Cond.methodLink RL 28 yX8_drop ∈ GG := GG_in (i := 806) (by decide +kernel) (by decide +kernel)
theorem wI_X8_drop : Cond.instanceMethod yX8_drop ∈ GG := GG_in (i := 807) (by decide +kernel) (by decide +kernel)
theorem wL_X8_drop : Cond.selects RX8 yX8_drop yX8_drop ∈ GG := GG_in (i := 808) (by decide +kernel) (by decide +kernel)
set_option maxRecDepth 100000 in
theorem wC_X8_drop : Cond.code yX8_drop cX8_drop 2 (some .boolean) ∈ GG := GG_in (i := 809) (rfl) (by decide +kernel)
theorem wM_X8_85 : Cond.methodLink RX8 85 yX8_is ∈ GG := GG_in (i := 810) (by decide +kernel) (by decide +kernel)
theorem wI_X8_is : Cond.instanceMethod yX8_is ∈ GG := GG_in (i := 812) (by decide +kernel) (by decide +kernel)
theorem wL_X8_is : Cond.selects RX8 yX8_is yX8_is ∈ GG := GG_in (i := 20) (by decide +kernel) (by decide +kernel)
set_option maxRecDepth 100000 in
theorem wC_X8_is : Cond.code yX8_is cX8_is 2 (some .boolean) ∈ GG := GG_in (i := 813) (rfl) (by decide +kernel)
theorem wM_X8_81 : Cond.methodLink RX8 81 yX8_in ∈ GG := GG_in (i := 814) (by decide +kernel) (by decide +kernel)
theorem wS_X8_in : Cond.static yX8_in ∈ GG := GG_in (i := 815) (by decide +kernel) (by decide +kernel)
set_option maxRecDepth 100000 in
theorem wC_X8_in : Cond.code yX8_in cX8_in 3 (some .boolean) ∈ GG := GG_in (i := 816) (rfl) (by decide +kernel)
theorem wM_L_29 : Cond.methodLink RL 29 yX7_put ∈ GG := GG_in (i := 269) (by decide +kernel) (by decide +kernel)
theorem wI_X7_put : Cond.instanceMethod yX7_put ∈ GG := GG_in (i := 270) (by decide +kernel) (by decide +kernel)
theorem wL_X7_put : Cond.selects RX7 yX7_put yX7_put ∈ GG := GG_in (i := 271) (by decide +kernel) (by decide +kernel)
set_option maxRecDepth 100000 in
theorem wC_X7_put : Cond.code yX7_put cX7_put 4 (some .boolean) ∈ GG := GG_in (i := 272) (rfl) (by decide +kernel)
theorem wM_X7_81 : Cond.methodLink RX7 81 yX7_isNumber ∈ GG := GG_in (i := 273) (by decide +kernel) (by decide +kernel)
theorem wS_X7_isNumber : Cond.static yX7_isNumber ∈ GG := GG_in (i := 274) (by decide +kernel) (by decide +kernel)
set_option maxRecDepth 100000 in
theorem wC_X7_isNumber : Cond.code yX7_isNumber cX7_isNumber 1 (some .boolean) ∈ GG := GG_in (i := 275) (rfl) (by decide +kernel)
theorem wK_X7_276 : Cond.constant RX7 276 (1000000) ∈ GG := GG_in (i := 276) (by decide +kernel) (by decide +kernel)
theorem wM_X7_85 : Cond.methodLink RX7 85 yX3_keyOf ∈ GG := GG_in (i := 277) (by decide +kernel) (by decide +kernel)
theorem wS_X3_keyOf : Cond.static yX3_keyOf ∈ GG := GG_in (i := 278) (by decide +kernel) (by decide +kernel)
set_option maxRecDepth 100000 in
theorem wC_X3_keyOf : Cond.code yX3_keyOf cX3_keyOf 2 (some .int) ∈ GG := GG_in (i := 279) (rfl) (by decide +kernel)
theorem wK_X3_24 : Cond.constant RX3 24 (1000000) ∈ GG := GG_in (i := 292) (by decide +kernel) (by decide +kernel)
theorem wM_X3_18 : Cond.methodLink RX3 18 yX5_valueOf ∈ GG := GG_in (i := 280) (by decide +kernel) (by decide +kernel)
theorem wI_X5_valueOf : Cond.instanceMethod yX5_valueOf ∈ GG := GG_in (i := 281) (by decide +kernel) (by decide +kernel)
theorem wL_X5_valueOf : Cond.selects RX5 yX5_valueOf yX5_valueOf ∈ GG := GG_in (i := 282) (by decide +kernel) (by decide +kernel)
set_option maxRecDepth 100000 in
theorem wC_X5_valueOf : Cond.code yX5_valueOf cX5_valueOf 4 (some .int) ∈ GG := GG_in (i := 283) (rfl) (by decide +kernel)
theorem wM_X5_20 : Cond.methodLink RX5 20 yX5_placeOf ∈ GG := GG_in (i := 284) (by decide +kernel) (by decide +kernel)
theorem wI_X5_placeOf : Cond.instanceMethod yX5_placeOf ∈ GG := GG_in (i := 286) (by decide +kernel) (by decide +kernel)
theorem wL_X5_placeOf : Cond.selects RX5 yX5_placeOf yX5_placeOf ∈ GG := GG_in (i := 1) (by decide +kernel) (by decide +kernel)
set_option maxRecDepth 100000 in
theorem wC_X5_placeOf : Cond.code yX5_placeOf cX5_placeOf 5 (some .int) ∈ GG := GG_in (i := 287) (rfl) (by decide +kernel)
theorem wF_X5_16 : Cond.fieldLink RX5 16 "PairSieve$Table" "size" "I" ∈ GG := GG_in (i := 81) (by decide +kernel) (by decide +kernel)
theorem wM_X5_24 : Cond.methodLink RX5 24 yX5_isAt ∈ GG := GG_in (i := 288) (by decide +kernel) (by decide +kernel)
theorem wI_X5_isAt : Cond.instanceMethod yX5_isAt ∈ GG := GG_in (i := 290) (by decide +kernel) (by decide +kernel)
theorem wL_X5_isAt : Cond.selects RX5 yX5_isAt yX5_isAt ∈ GG := GG_in (i := 2) (by decide +kernel) (by decide +kernel)
set_option maxRecDepth 100000 in
theorem wC_X5_isAt : Cond.code yX5_isAt cX5_isAt 3 (some .boolean) ∈ GG := GG_in (i := 291) (rfl) (by decide +kernel)
theorem wM_X7_89 : Cond.methodLink RX7 89 yX7_weightOf ∈ GG := GG_in (i := 293) (by decide +kernel) (by decide +kernel)
theorem wI_X7_weightOf : Cond.instanceMethod yX7_weightOf ∈ GG := GG_in (i := 295) (by decide +kernel) (by decide +kernel)
theorem wL_X7_weightOf : Cond.selects RX7 yX7_weightOf yX7_weightOf ∈ GG := GG_in (i := 3) (by decide +kernel) (by decide +kernel)
set_option maxRecDepth 100000 in
theorem wC_X7_weightOf : Cond.code yX7_weightOf cX7_weightOf 2 (some .int) ∈ GG := GG_in (i := 296) (rfl) (by decide +kernel)
theorem wM_X7_146 : Cond.methodLink RX7 146 yX5_valueOf ∈ GG := GG_in (i := 297) (by decide +kernel) (by decide +kernel)
theorem wM_X7_93 : Cond.methodLink RX7 93 yX3_insert ∈ GG := GG_in (i := 298) (by decide +kernel) (by decide +kernel)
theorem wI_X3_insert : Cond.instanceMethod yX3_insert ∈ GG := GG_in (i := 299) (by decide +kernel) (by decide +kernel)
theorem wL_X3_insert : Cond.selects RX3 yX3_insert yX3_insert ∈ GG := GG_in (i := 300) (by decide +kernel) (by decide +kernel)
set_option maxRecDepth 100000 in
theorem wC_X3_insert : Cond.code yX3_insert cX3_insert 4 (some .boolean) ∈ GG := GG_in (i := 301) (rfl) (by decide +kernel)
theorem wF_X3_25 : Cond.fieldLink RX3 25 "PairSieve$NumberSet" "size" "I" ∈ GG := GG_in (i := 244) (by decide +kernel) (by decide +kernel)
theorem wM_X3_36 : Cond.methodLink RX3 36 arraycopyName ∈ GG := GG_in (i := 306) (by decide +kernel) (by decide +kernel)
theorem wV_arraycopy : Cond.native arraycopyName ∈ GG := GG_in (i := 308) (by decide +kernel) (by decide +kernel)
theorem wS_arraycopy : Cond.static arraycopyName ∈ GG := GG_in (i := 307) (by decide +kernel) (by decide +kernel)
theorem wN_J10 : Cond.initialized "java/lang/System" ∈ GG := GG_in (i := 55) (by decide +kernel) (by decide +kernel)
theorem wF_X3_29 : Cond.fieldLink RX3 29 "PairSieve$NumberSet" "amount" "I" ∈ GG := GG_in (i := 246) (by decide +kernel) (by decide +kernel)
theorem wM_X3_32 : Cond.methodLink RX3 32 yX3_placeOf ∈ GG := GG_in (i := 302) (by decide +kernel) (by decide +kernel)
theorem wI_X3_placeOf : Cond.instanceMethod yX3_placeOf ∈ GG := GG_in (i := 304) (by decide +kernel) (by decide +kernel)
theorem wL_X3_placeOf : Cond.selects RX3 yX3_placeOf yX3_placeOf ∈ GG := GG_in (i := 4) (by decide +kernel) (by decide +kernel)
set_option maxRecDepth 100000 in
theorem wC_X3_placeOf : Cond.code yX3_placeOf cX3_placeOf 3 (some .int) ∈ GG := GG_in (i := 305) (rfl) (by decide +kernel)
theorem wM_L_33 : Cond.methodLink RL 33 yX8_put ∈ GG := GG_in (i := 817) (by decide +kernel) (by decide +kernel)
theorem wI_X8_put : Cond.instanceMethod yX8_put ∈ GG := GG_in (i := 818) (by decide +kernel) (by decide +kernel)
theorem wL_X8_put : Cond.selects RX8 yX8_put yX8_put ∈ GG := GG_in (i := 819) (by decide +kernel) (by decide +kernel)
set_option maxRecDepth 100000 in
theorem wC_X8_put : Cond.code yX8_put cX8_put 3 (some .boolean) ∈ GG := GG_in (i := 820) (rfl) (by decide +kernel)
theorem wM_X8_90 : Cond.methodLink RX8 90 yX8_isNumber ∈ GG := GG_in (i := 821) (by decide +kernel) (by decide +kernel)
theorem wS_X8_isNumber : Cond.static yX8_isNumber ∈ GG := GG_in (i := 822) (by decide +kernel) (by decide +kernel)
set_option maxRecDepth 100000 in
theorem wC_X8_isNumber : Cond.code yX8_isNumber cX8_isNumber 1 (some .boolean) ∈ GG := GG_in (i := 823) (rfl) (by decide +kernel)
theorem wK_X8_89 : Cond.constant RX8 89 (999999) ∈ GG := GG_in (i := 824) (by decide +kernel) (by decide +kernel)
theorem wM_X8_93 : Cond.methodLink RX8 93 yX8_place ∈ GG := GG_in (i := 825) (by decide +kernel) (by decide +kernel)
theorem wI_X8_place : Cond.instanceMethod yX8_place ∈ GG := GG_in (i := 827) (by decide +kernel) (by decide +kernel)
theorem wL_X8_place : Cond.selects RX8 yX8_place yX8_place ∈ GG := GG_in (i := 21) (by decide +kernel) (by decide +kernel)
set_option maxRecDepth 100000 in
theorem wC_X8_place : Cond.code yX8_place cX8_place 4 (some .int) ∈ GG := GG_in (i := 828) (rfl) (by decide +kernel)
theorem wM_L_34 : Cond.methodLink RL 34 yX7_take ∈ GG := GG_in (i := 309) (by decide +kernel) (by decide +kernel)
theorem wI_X7_take : Cond.instanceMethod yX7_take ∈ GG := GG_in (i := 310) (by decide +kernel) (by decide +kernel)
theorem wL_X7_take : Cond.selects RX7 yX7_take yX7_take ∈ GG := GG_in (i := 311) (by decide +kernel) (by decide +kernel)
set_option maxRecDepth 100000 in
theorem wC_X7_take : Cond.code yX7_take cX7_take 4 (some .boolean) ∈ GG := GG_in (i := 312) (rfl) (by decide +kernel)
theorem wM_X7_97 : Cond.methodLink RX7 97 yX3_remove ∈ GG := GG_in (i := 313) (by decide +kernel) (by decide +kernel)
theorem wI_X3_remove : Cond.instanceMethod yX3_remove ∈ GG := GG_in (i := 314) (by decide +kernel) (by decide +kernel)
theorem wL_X3_remove : Cond.selects RX3 yX3_remove yX3_remove ∈ GG := GG_in (i := 315) (by decide +kernel) (by decide +kernel)
set_option maxRecDepth 100000 in
theorem wC_X3_remove : Cond.code yX3_remove cX3_remove 3 (some .boolean) ∈ GG := GG_in (i := 316) (rfl) (by decide +kernel)
theorem wM_L_37 : Cond.methodLink RL 37 yX8_take ∈ GG := GG_in (i := 829) (by decide +kernel) (by decide +kernel)
theorem wI_X8_take : Cond.instanceMethod yX8_take ∈ GG := GG_in (i := 830) (by decide +kernel) (by decide +kernel)
theorem wL_X8_take : Cond.selects RX8 yX8_take yX8_take ∈ GG := GG_in (i := 831) (by decide +kernel) (by decide +kernel)
set_option maxRecDepth 100000 in
theorem wC_X8_take : Cond.code yX8_take cX8_take 3 (some .boolean) ∈ GG := GG_in (i := 832) (rfl) (by decide +kernel)
theorem wM_X8_97 : Cond.methodLink RX8 97 yX8_place0 ∈ GG := GG_in (i := 833) (by decide +kernel) (by decide +kernel)
theorem wI_X8_place0 : Cond.instanceMethod yX8_place0 ∈ GG := GG_in (i := 835) (by decide +kernel) (by decide +kernel)
theorem wL_X8_place0 : Cond.selects RX8 yX8_place0 yX8_place0 ∈ GG := GG_in (i := 22) (by decide +kernel) (by decide +kernel)
set_option maxRecDepth 100000 in
theorem wC_X8_place0 : Cond.code yX8_place0 cX8_place0 4 (some .int) ∈ GG := GG_in (i := 836) (rfl) (by decide +kernel)
theorem wM_L_38 : Cond.methodLink RL 38 yX7_weight ∈ GG := GG_in (i := 317) (by decide +kernel) (by decide +kernel)
theorem wI_X7_weight : Cond.instanceMethod yX7_weight ∈ GG := GG_in (i := 318) (by decide +kernel) (by decide +kernel)
theorem wL_X7_weight : Cond.selects RX7 yX7_weight yX7_weight ∈ GG := GG_in (i := 319) (by decide +kernel) (by decide +kernel)
set_option maxRecDepth 100000 in
theorem wC_X7_weight : Cond.code yX7_weight cX7_weight 3 (some .boolean) ∈ GG := GG_in (i := 320) (rfl) (by decide +kernel)
theorem wM_X7_100 : Cond.methodLink RX7 100 yX5_write ∈ GG := GG_in (i := 321) (by decide +kernel) (by decide +kernel)
theorem wI_X5_write : Cond.instanceMethod yX5_write ∈ GG := GG_in (i := 322) (by decide +kernel) (by decide +kernel)
theorem wL_X5_write : Cond.selects RX5 yX5_write yX5_write ∈ GG := GG_in (i := 323) (by decide +kernel) (by decide +kernel)
set_option maxRecDepth 100000 in
theorem wC_X5_write : Cond.code yX5_write cX5_write 4 (some .boolean) ∈ GG := GG_in (i := 324) (rfl) (by decide +kernel)
theorem wM_X5_35 : Cond.methodLink RX5 35 arraycopyName ∈ GG := GG_in (i := 325) (by decide +kernel) (by decide +kernel)
theorem wM_X7_103 : Cond.methodLink RX7 103 yX7_weighAll ∈ GG := GG_in (i := 326) (by decide +kernel) (by decide +kernel)
theorem wI_X7_weighAll : Cond.instanceMethod yX7_weighAll ∈ GG := GG_in (i := 328) (by decide +kernel) (by decide +kernel)
theorem wL_X7_weighAll : Cond.selects RX7 yX7_weighAll yX7_weighAll ∈ GG := GG_in (i := 5) (by decide +kernel) (by decide +kernel)
set_option maxRecDepth 100000 in
theorem wC_X7_weighAll : Cond.code yX7_weighAll cX7_weighAll 4 none ∈ GG := GG_in (i := 329) (rfl) (by decide +kernel)
theorem wM_X7_135 : Cond.methodLink RX7 135 yX3_numberAt ∈ GG := GG_in (i := 330) (by decide +kernel) (by decide +kernel)
theorem wI_X3_numberAt : Cond.instanceMethod yX3_numberAt ∈ GG := GG_in (i := 331) (by decide +kernel) (by decide +kernel)
theorem wL_X3_numberAt : Cond.selects RX3 yX3_numberAt yX3_numberAt ∈ GG := GG_in (i := 332) (by decide +kernel) (by decide +kernel)
set_option maxRecDepth 100000 in
theorem wC_X3_numberAt : Cond.code yX3_numberAt cX3_numberAt 2 (some .int) ∈ GG := GG_in (i := 333) (rfl) (by decide +kernel)
theorem wM_X7_277 : Cond.methodLink RX7 277 yX3_reweigh ∈ GG := GG_in (i := 334) (by decide +kernel) (by decide +kernel)
theorem wI_X3_reweigh : Cond.instanceMethod yX3_reweigh ∈ GG := GG_in (i := 335) (by decide +kernel) (by decide +kernel)
theorem wL_X3_reweigh : Cond.selects RX3 yX3_reweigh yX3_reweigh ∈ GG := GG_in (i := 336) (by decide +kernel) (by decide +kernel)
set_option maxRecDepth 100000 in
theorem wC_X3_reweigh : Cond.code yX3_reweigh cX3_reweigh 3 none ∈ GG := GG_in (i := 337) (rfl) (by decide +kernel)
theorem wM_L_41 : Cond.methodLink RL 41 yX8_weight ∈ GG := GG_in (i := 837) (by decide +kernel) (by decide +kernel)
theorem wI_X8_weight : Cond.instanceMethod yX8_weight ∈ GG := GG_in (i := 838) (by decide +kernel) (by decide +kernel)
theorem wL_X8_weight : Cond.selects RX8 yX8_weight yX8_weight ∈ GG := GG_in (i := 839) (by decide +kernel) (by decide +kernel)
set_option maxRecDepth 100000 in
theorem wC_X8_weight : Cond.code yX8_weight cX8_weight 4 (some .boolean) ∈ GG := GG_in (i := 840) (rfl) (by decide +kernel)
theorem wF_X8_100 : Cond.fieldLink RX8 100 "PairSieveModel" "told" "I" ∈ GG := GG_in (i := 711) (by decide +kernel) (by decide +kernel)
theorem wM_L_42 : Cond.methodLink RL 42 yX7_feed ∈ GG := GG_in (i := 338) (by decide +kernel) (by decide +kernel)
theorem wI_X7_feed : Cond.instanceMethod yX7_feed ∈ GG := GG_in (i := 339) (by decide +kernel) (by decide +kernel)
theorem wL_X7_feed : Cond.selects RX7 yX7_feed yX7_feed ∈ GG := GG_in (i := 340) (by decide +kernel) (by decide +kernel)
set_option maxRecDepth 100000 in
theorem wC_X7_feed : Cond.code yX7_feed cX7_feed 6 (some .int) ∈ GG := GG_in (i := 341) (rfl) (by decide +kernel)
theorem wM_X7_106 : Cond.methodLink RX7 106 yX6_hasRoomFor ∈ GG := GG_in (i := 342) (by decide +kernel) (by decide +kernel)
theorem wI_X6_hasRoomFor : Cond.instanceMethod yX6_hasRoomFor ∈ GG := GG_in (i := 343) (by decide +kernel) (by decide +kernel)
theorem wL_X6_hasRoomFor : Cond.selects RX6 yX6_hasRoomFor yX6_hasRoomFor ∈ GG := GG_in (i := 344) (by decide +kernel) (by decide +kernel)
set_option maxRecDepth 100000 in
theorem wC_X6_hasRoomFor : Cond.code yX6_hasRoomFor cX6_hasRoomFor 2 (some .boolean) ∈ GG := GG_in (i := 345) (rfl) (by decide +kernel)
theorem wF_X6_18 : Cond.fieldLink RX6 18 "PairSieve$Tape" "length" "I" ∈ GG := GG_in (i := 117) (by decide +kernel) (by decide +kernel)
theorem wM_X7_109 : Cond.methodLink RX7 109 yX6_append ∈ GG := GG_in (i := 346) (by decide +kernel) (by decide +kernel)
theorem wI_X6_append : Cond.instanceMethod yX6_append ∈ GG := GG_in (i := 347) (by decide +kernel) (by decide +kernel)
theorem wL_X6_append : Cond.selects RX6 yX6_append yX6_append ∈ GG := GG_in (i := 348) (by decide +kernel) (by decide +kernel)
set_option maxRecDepth 100000 in
theorem wC_X6_append : Cond.code yX6_append cX6_append 3 none ∈ GG := GG_in (i := 349) (rfl) (by decide +kernel)
theorem wM_L_46 : Cond.methodLink RL 46 yX8_feed ∈ GG := GG_in (i := 841) (by decide +kernel) (by decide +kernel)
theorem wI_X8_feed : Cond.instanceMethod yX8_feed ∈ GG := GG_in (i := 842) (by decide +kernel) (by decide +kernel)
theorem wL_X8_feed : Cond.selects RX8 yX8_feed yX8_feed ∈ GG := GG_in (i := 843) (by decide +kernel) (by decide +kernel)
set_option maxRecDepth 100000 in
theorem wC_X8_feed : Cond.code yX8_feed cX8_feed 6 (some .int) ∈ GG := GG_in (i := 844) (rfl) (by decide +kernel)
theorem wF_X8_117 : Cond.fieldLink RX8 117 "PairSieveModel" "taped" "I" ∈ GG := GG_in (i := 723) (by decide +kernel) (by decide +kernel)
theorem wM_X8_120 : Cond.methodLink RX8 120 yX8_four ∈ GG := GG_in (i := 845) (by decide +kernel) (by decide +kernel)
theorem wI_X8_four : Cond.instanceMethod yX8_four ∈ GG := GG_in (i := 847) (by decide +kernel) (by decide +kernel)
theorem wL_X8_four : Cond.selects RX8 yX8_four yX8_four ∈ GG := GG_in (i := 23) (by decide +kernel) (by decide +kernel)
set_option maxRecDepth 100000 in
theorem wC_X8_four : Cond.code yX8_four cX8_four 3 none ∈ GG := GG_in (i := 848) (rfl) (by decide +kernel)
theorem wM_L_47 : Cond.methodLink RL 47 yX7_end ∈ GG := GG_in (i := 350) (by decide +kernel) (by decide +kernel)
theorem wI_X7_end : Cond.instanceMethod yX7_end ∈ GG := GG_in (i := 351) (by decide +kernel) (by decide +kernel)
theorem wL_X7_end : Cond.selects RX7 yX7_end yX7_end ∈ GG := GG_in (i := 352) (by decide +kernel) (by decide +kernel)
set_option maxRecDepth 100000 in
theorem wC_X7_end : Cond.code yX7_end cX7_end 2 (some .int) ∈ GG := GG_in (i := 353) (rfl) (by decide +kernel)
theorem wM_X7_115 : Cond.methodLink RX7 115 yX6_cut ∈ GG := GG_in (i := 354) (by decide +kernel) (by decide +kernel)
theorem wI_X6_cut : Cond.instanceMethod yX6_cut ∈ GG := GG_in (i := 355) (by decide +kernel) (by decide +kernel)
theorem wL_X6_cut : Cond.selects RX6 yX6_cut yX6_cut ∈ GG := GG_in (i := 356) (by decide +kernel) (by decide +kernel)
set_option maxRecDepth 100000 in
theorem wC_X6_cut : Cond.code yX6_cut cX6_cut 2 (some .boolean) ∈ GG := GG_in (i := 357) (rfl) (by decide +kernel)
theorem wM_L_51 : Cond.methodLink RL 51 yX8_end ∈ GG := GG_in (i := 849) (by decide +kernel) (by decide +kernel)
theorem wI_X8_end : Cond.instanceMethod yX8_end ∈ GG := GG_in (i := 850) (by decide +kernel) (by decide +kernel)
theorem wL_X8_end : Cond.selects RX8 yX8_end yX8_end ∈ GG := GG_in (i := 851) (by decide +kernel) (by decide +kernel)
set_option maxRecDepth 100000 in
theorem wC_X8_end : Cond.code yX8_end cX8_end 2 (some .int) ∈ GG := GG_in (i := 852) (rfl) (by decide +kernel)
theorem wM_L_52 : Cond.methodLink RL 52 yX7_text ∈ GG := GG_in (i := 358) (by decide +kernel) (by decide +kernel)
theorem wI_X7_text : Cond.instanceMethod yX7_text ∈ GG := GG_in (i := 359) (by decide +kernel) (by decide +kernel)
theorem wL_X7_text : Cond.selects RX7 yX7_text yX7_text ∈ GG := GG_in (i := 360) (by decide +kernel) (by decide +kernel)
set_option maxRecDepth 100000 in
theorem wC_X7_text : Cond.code yX7_text cX7_text 7 (some .int) ∈ GG := GG_in (i := 361) (rfl) (by decide +kernel)
theorem wM_X7_118 : Cond.methodLink RX7 118 yX6_findNumbers ∈ GG := GG_in (i := 362) (by decide +kernel) (by decide +kernel)
theorem wI_X6_findNumbers : Cond.instanceMethod yX6_findNumbers ∈ GG := GG_in (i := 363) (by decide +kernel) (by decide +kernel)
theorem wL_X6_findNumbers : Cond.selects RX6 yX6_findNumbers yX6_findNumbers ∈ GG := GG_in (i := 364) (by decide +kernel) (by decide +kernel)
set_option maxRecDepth 100000 in
theorem wC_X6_findNumbers : Cond.code yX6_findNumbers cX6_findNumbers 5 (some .int) ∈ GG := GG_in (i := 365) (rfl) (by decide +kernel)
theorem wM_X6_22 : Cond.methodLink RX6 22 yX6_countLikeOnesAhead ∈ GG := GG_in (i := 366) (by decide +kernel) (by decide +kernel)
theorem wI_X6_countLikeOnesAhead : Cond.instanceMethod yX6_countLikeOnesAhead ∈ GG := GG_in (i := 368) (by decide +kernel) (by decide +kernel)
theorem wL_X6_countLikeOnesAhead : Cond.selects RX6 yX6_countLikeOnesAhead yX6_countLikeOnesAhead ∈ GG := GG_in (i := 6) (by decide +kernel) (by decide +kernel)
set_option maxRecDepth 100000 in
theorem wC_X6_countLikeOnesAhead : Cond.code yX6_countLikeOnesAhead cX6_countLikeOnesAhead 6 (some .int) ∈ GG := GG_in (i := 369) (rfl) (by decide +kernel)
theorem wM_X6_26 : Cond.methodLink RX6 26 yX6_pieceAt ∈ GG := GG_in (i := 370) (by decide +kernel) (by decide +kernel)
theorem wI_X6_pieceAt : Cond.instanceMethod yX6_pieceAt ∈ GG := GG_in (i := 372) (by decide +kernel) (by decide +kernel)
theorem wL_X6_pieceAt : Cond.selects RX6 yX6_pieceAt yX6_pieceAt ∈ GG := GG_in (i := 7) (by decide +kernel) (by decide +kernel)
set_option maxRecDepth 100000 in
theorem wC_X6_pieceAt : Cond.code yX6_pieceAt cX6_pieceAt 5 (some .int) ∈ GG := GG_in (i := 373) (rfl) (by decide +kernel)
theorem wM_X7_121 : Cond.methodLink RX7 121 yX3_clear ∈ GG := GG_in (i := 374) (by decide +kernel) (by decide +kernel)
theorem wI_X3_clear : Cond.instanceMethod yX3_clear ∈ GG := GG_in (i := 375) (by decide +kernel) (by decide +kernel)
theorem wL_X3_clear : Cond.selects RX3 yX3_clear yX3_clear ∈ GG := GG_in (i := 376) (by decide +kernel) (by decide +kernel)
set_option maxRecDepth 100000 in
theorem wC_X3_clear : Cond.code yX3_clear cX3_clear 1 none ∈ GG := GG_in (i := 377) (rfl) (by decide +kernel)
theorem wM_L_55 : Cond.methodLink RL 55 yX8_text ∈ GG := GG_in (i := 853) (by decide +kernel) (by decide +kernel)
theorem wI_X8_text : Cond.instanceMethod yX8_text ∈ GG := GG_in (i := 854) (by decide +kernel) (by decide +kernel)
theorem wL_X8_text : Cond.selects RX8 yX8_text yX8_text ∈ GG := GG_in (i := 855) (by decide +kernel) (by decide +kernel)
set_option maxRecDepth 100000 in
theorem wC_X8_text : Cond.code yX8_text cX8_text 8 (some .int) ∈ GG := GG_in (i := 856) (rfl) (by decide +kernel)
theorem wM_X8_124 : Cond.methodLink RX8 124 yX8_piece ∈ GG := GG_in (i := 857) (by decide +kernel) (by decide +kernel)
theorem wI_X8_piece : Cond.instanceMethod yX8_piece ∈ GG := GG_in (i := 859) (by decide +kernel) (by decide +kernel)
theorem wL_X8_piece : Cond.selects RX8 yX8_piece yX8_piece ∈ GG := GG_in (i := 24) (by decide +kernel) (by decide +kernel)
set_option maxRecDepth 100000 in
theorem wC_X8_piece : Cond.code yX8_piece cX8_piece 3 (some .int) ∈ GG := GG_in (i := 860) (rfl) (by decide +kernel)
theorem wM_L_56 : Cond.methodLink RL 56 yX7_measure ∈ GG := GG_in (i := 378) (by decide +kernel) (by decide +kernel)
theorem wI_X7_measure : Cond.instanceMethod yX7_measure ∈ GG := GG_in (i := 379) (by decide +kernel) (by decide +kernel)
theorem wL_X7_measure : Cond.selects RX7 yX7_measure yX7_measure ∈ GG := GG_in (i := 380) (by decide +kernel) (by decide +kernel)
set_option maxRecDepth 100000 in
theorem wC_X7_measure : Cond.code yX7_measure cX7_measure 4 (some .boolean) ∈ GG := GG_in (i := 381) (rfl) (by decide +kernel)
theorem wM_X7_127 : Cond.methodLink RX7 127 yX1_tell ∈ GG := GG_in (i := 382) (by decide +kernel) (by decide +kernel)
theorem wI_X1_tell : Cond.instanceMethod yX1_tell ∈ GG := GG_in (i := 383) (by decide +kernel) (by decide +kernel)
theorem wL_X1_tell : Cond.selects RX1 yX1_tell yX1_tell ∈ GG := GG_in (i := 384) (by decide +kernel) (by decide +kernel)
set_option maxRecDepth 100000 in
theorem wC_X1_tell : Cond.code yX1_tell cX1_tell 4 (some .boolean) ∈ GG := GG_in (i := 385) (rfl) (by decide +kernel)
theorem wM_X1_21 : Cond.methodLink RX1 21 yX1_isAllowed ∈ GG := GG_in (i := 386) (by decide +kernel) (by decide +kernel)
theorem wS_X1_isAllowed : Cond.static yX1_isAllowed ∈ GG := GG_in (i := 387) (by decide +kernel) (by decide +kernel)
set_option maxRecDepth 100000 in
theorem wC_X1_isAllowed : Cond.code yX1_isAllowed cX1_isAllowed 3 (some .boolean) ∈ GG := GG_in (i := 388) (rfl) (by decide +kernel)
theorem wM_L_60 : Cond.methodLink RL 60 yX8_measure ∈ GG := GG_in (i := 861) (by decide +kernel) (by decide +kernel)
theorem wI_X8_measure : Cond.instanceMethod yX8_measure ∈ GG := GG_in (i := 862) (by decide +kernel) (by decide +kernel)
theorem wL_X8_measure : Cond.selects RX8 yX8_measure yX8_measure ∈ GG := GG_in (i := 863) (by decide +kernel) (by decide +kernel)
set_option maxRecDepth 100000 in
theorem wC_X8_measure : Cond.code yX8_measure cX8_measure 5 (some .boolean) ∈ GG := GG_in (i := 864) (rfl) (by decide +kernel)
theorem wM_L_61 : Cond.methodLink RL 61 yX7_order ∈ GG := GG_in (i := 389) (by decide +kernel) (by decide +kernel)
theorem wI_X7_order : Cond.instanceMethod yX7_order ∈ GG := GG_in (i := 390) (by decide +kernel) (by decide +kernel)
theorem wL_X7_order : Cond.selects RX7 yX7_order yX7_order ∈ GG := GG_in (i := 391) (by decide +kernel) (by decide +kernel)
set_option maxRecDepth 100000 in
theorem wC_X7_order : Cond.code yX7_order cX7_order 4 (some .int) ∈ GG := GG_in (i := 392) (rfl) (by decide +kernel)
theorem wM_X7_131 : Cond.methodLink RX7 131 yX5_clear ∈ GG := GG_in (i := 393) (by decide +kernel) (by decide +kernel)
theorem wI_X5_clear : Cond.instanceMethod yX5_clear ∈ GG := GG_in (i := 394) (by decide +kernel) (by decide +kernel)
theorem wL_X5_clear : Cond.selects RX5 yX5_clear yX5_clear ∈ GG := GG_in (i := 395) (by decide +kernel) (by decide +kernel)
set_option maxRecDepth 100000 in
theorem wC_X5_clear : Cond.code yX5_clear cX5_clear 1 none ∈ GG := GG_in (i := 396) (rfl) (by decide +kernel)
theorem wM_X7_138 : Cond.methodLink RX7 138 yX5_raise ∈ GG := GG_in (i := 397) (by decide +kernel) (by decide +kernel)
theorem wI_X5_raise : Cond.instanceMethod yX5_raise ∈ GG := GG_in (i := 398) (by decide +kernel) (by decide +kernel)
theorem wL_X5_raise : Cond.selects RX5 yX5_raise yX5_raise ∈ GG := GG_in (i := 399) (by decide +kernel) (by decide +kernel)
set_option maxRecDepth 100000 in
theorem wC_X5_raise : Cond.code yX5_raise cX5_raise 2 none ∈ GG := GG_in (i := 400) (rfl) (by decide +kernel)
theorem wM_X5_28 : Cond.methodLink RX5 28 yX5_valueOf ∈ GG := GG_in (i := 401) (by decide +kernel) (by decide +kernel)
theorem wM_X5_32 : Cond.methodLink RX5 32 yX5_write ∈ GG := GG_in (i := 402) (by decide +kernel) (by decide +kernel)
theorem wM_X7_141 : Cond.methodLink RX7 141 yX3_putInOrder ∈ GG := GG_in (i := 403) (by decide +kernel) (by decide +kernel)
theorem wI_X3_putInOrder : Cond.instanceMethod yX3_putInOrder ∈ GG := GG_in (i := 404) (by decide +kernel) (by decide +kernel)
theorem wL_X3_putInOrder : Cond.selects RX3 yX3_putInOrder yX3_putInOrder ∈ GG := GG_in (i := 405) (by decide +kernel) (by decide +kernel)
set_option maxRecDepth 100000 in
theorem wC_X3_putInOrder : Cond.code yX3_putInOrder cX3_putInOrder 4 none ∈ GG := GG_in (i := 406) (rfl) (by decide +kernel)
theorem wM_X3_42 : Cond.methodLink RX3 42 yX3_clear ∈ GG := GG_in (i := 407) (by decide +kernel) (by decide +kernel)
theorem wM_X3_45 : Cond.methodLink RX3 45 yX3_keyOf ∈ GG := GG_in (i := 408) (by decide +kernel) (by decide +kernel)
theorem wM_X3_49 : Cond.methodLink RX3 49 yX3_insert ∈ GG := GG_in (i := 409) (by decide +kernel) (by decide +kernel)
theorem wM_L_64 : Cond.methodLink RL 64 yX8_order ∈ GG := GG_in (i := 865) (by decide +kernel) (by decide +kernel)
theorem wI_X8_order : Cond.instanceMethod yX8_order ∈ GG := GG_in (i := 866) (by decide +kernel) (by decide +kernel)
theorem wL_X8_order : Cond.selects RX8 yX8_order yX8_order ∈ GG := GG_in (i := 867) (by decide +kernel) (by decide +kernel)
set_option maxRecDepth 100000 in
theorem wC_X8_order : Cond.code yX8_order cX8_order 5 (some .int) ∈ GG := GG_in (i := 868) (rfl) (by decide +kernel)
theorem wF_X8_103 : Cond.fieldLink RX8 103 "PairSieveModel" "known" "I" ∈ GG := GG_in (i := 714) (by decide +kernel) (by decide +kernel)
theorem wM_L_65 : Cond.methodLink RL 65 yX7_frequency ∈ GG := GG_in (i := 410) (by decide +kernel) (by decide +kernel)
theorem wI_X7_frequency : Cond.instanceMethod yX7_frequency ∈ GG := GG_in (i := 411) (by decide +kernel) (by decide +kernel)
theorem wL_X7_frequency : Cond.selects RX7 yX7_frequency yX7_frequency ∈ GG := GG_in (i := 412) (by decide +kernel) (by decide +kernel)
set_option maxRecDepth 100000 in
theorem wC_X7_frequency : Cond.code yX7_frequency cX7_frequency 2 (some .int) ∈ GG := GG_in (i := 413) (rfl) (by decide +kernel)
theorem wM_L_68 : Cond.methodLink RL 68 yX8_frequency ∈ GG := GG_in (i := 869) (by decide +kernel) (by decide +kernel)
theorem wI_X8_frequency : Cond.instanceMethod yX8_frequency ∈ GG := GG_in (i := 870) (by decide +kernel) (by decide +kernel)
theorem wL_X8_frequency : Cond.selects RX8 yX8_frequency yX8_frequency ∈ GG := GG_in (i := 871) (by decide +kernel) (by decide +kernel)
set_option maxRecDepth 100000 in
theorem wC_X8_frequency : Cond.code yX8_frequency cX8_frequency 2 (some .int) ∈ GG := GG_in (i := 872) (rfl) (by decide +kernel)
theorem wM_X8_106 : Cond.methodLink RX8 106 yX8_frequencyOf ∈ GG := GG_in (i := 873) (by decide +kernel) (by decide +kernel)
theorem wI_X8_frequencyOf : Cond.instanceMethod yX8_frequencyOf ∈ GG := GG_in (i := 875) (by decide +kernel) (by decide +kernel)
theorem wL_X8_frequencyOf : Cond.selects RX8 yX8_frequencyOf yX8_frequencyOf ∈ GG := GG_in (i := 25) (by decide +kernel) (by decide +kernel)
set_option maxRecDepth 100000 in
theorem wC_X8_frequencyOf : Cond.code yX8_frequencyOf cX8_frequencyOf 3 (some .int) ∈ GG := GG_in (i := 876) (rfl) (by decide +kernel)
theorem wM_L_69 : Cond.methodLink RL 69 yX7_about ∈ GG := GG_in (i := 414) (by decide +kernel) (by decide +kernel)
theorem wI_X7_about : Cond.instanceMethod yX7_about ∈ GG := GG_in (i := 415) (by decide +kernel) (by decide +kernel)
theorem wL_X7_about : Cond.selects RX7 yX7_about yX7_about ∈ GG := GG_in (i := 416) (by decide +kernel) (by decide +kernel)
set_option maxRecDepth 100000 in
theorem wC_X7_about : Cond.code yX7_about cX7_about 4 (some .int) ∈ GG := GG_in (i := 417) (rfl) (by decide +kernel)
theorem wM_X7_153 : Cond.methodLink RX7 153 yX1_least ∈ GG := GG_in (i := 418) (by decide +kernel) (by decide +kernel)
theorem wI_X1_least : Cond.instanceMethod yX1_least ∈ GG := GG_in (i := 419) (by decide +kernel) (by decide +kernel)
theorem wL_X1_least : Cond.selects RX1 yX1_least yX1_least ∈ GG := GG_in (i := 420) (by decide +kernel) (by decide +kernel)
set_option maxRecDepth 100000 in
theorem wC_X1_least : Cond.code yX1_least cX1_least 3 (some .long) ∈ GG := GG_in (i := 421) (rfl) (by decide +kernel)
theorem wK_X1_25 : Cond.constantLong RX1 25 (2) ∈ GG := GG_in (i := 422) (by decide +kernel) (by decide +kernel)
theorem wM_X1_27 : Cond.methodLink RX1 27 yX1_quotientUp ∈ GG := GG_in (i := 423) (by decide +kernel) (by decide +kernel)
theorem wS_X1_quotientUp : Cond.static yX1_quotientUp ∈ GG := GG_in (i := 424) (by decide +kernel) (by decide +kernel)
set_option maxRecDepth 100000 in
theorem wC_X1_quotientUp : Cond.code yX1_quotientUp cX1_quotientUp 4 (some .long) ∈ GG := GG_in (i := 425) (rfl) (by decide +kernel)
theorem wM_X7_157 : Cond.methodLink RX7 157 yX7_beginningOf ∈ GG := GG_in (i := 426) (by decide +kernel) (by decide +kernel)
theorem wI_X7_beginningOf : Cond.instanceMethod yX7_beginningOf ∈ GG := GG_in (i := 428) (by decide +kernel) (by decide +kernel)
theorem wL_X7_beginningOf : Cond.selects RX7 yX7_beginningOf yX7_beginningOf ∈ GG := GG_in (i := 8) (by decide +kernel) (by decide +kernel)
set_option maxRecDepth 100000 in
theorem wC_X7_beginningOf : Cond.code yX7_beginningOf cX7_beginningOf 2 (some .int) ∈ GG := GG_in (i := 429) (rfl) (by decide +kernel)
theorem wM_X7_280 : Cond.methodLink RX7 280 yX3_countBeginning ∈ GG := GG_in (i := 430) (by decide +kernel) (by decide +kernel)
theorem wI_X3_countBeginning : Cond.instanceMethod yX3_countBeginning ∈ GG := GG_in (i := 431) (by decide +kernel) (by decide +kernel)
theorem wL_X3_countBeginning : Cond.selects RX3 yX3_countBeginning yX3_countBeginning ∈ GG := GG_in (i := 432) (by decide +kernel) (by decide +kernel)
set_option maxRecDepth 100000 in
theorem wC_X3_countBeginning : Cond.code yX3_countBeginning cX3_countBeginning 5 (some .int) ∈ GG := GG_in (i := 433) (rfl) (by decide +kernel)
theorem wM_X7_161 : Cond.methodLink RX7 161 yX7_freshNet ∈ GG := GG_in (i := 434) (by decide +kernel) (by decide +kernel)
theorem wI_X7_freshNet : Cond.instanceMethod yX7_freshNet ∈ GG := GG_in (i := 436) (by decide +kernel) (by decide +kernel)
theorem wL_X7_freshNet : Cond.selects RX7 yX7_freshNet yX7_freshNet ∈ GG := GG_in (i := 9) (by decide +kernel) (by decide +kernel)
set_option maxRecDepth 100000 in
theorem wC_X7_freshNet : Cond.code yX7_freshNet cX7_freshNet 3 (some (.object "PairSieve$Net")) ∈ GG := GG_in (i := 437) (rfl) (by decide +kernel)
theorem wM_X7_311 : Cond.methodLink RX7 311 yX2_isForgotten ∈ GG := GG_in (i := 438) (by decide +kernel) (by decide +kernel)
theorem wI_X2_isForgotten : Cond.instanceMethod yX2_isForgotten ∈ GG := GG_in (i := 439) (by decide +kernel) (by decide +kernel)
theorem wL_X2_isForgotten : Cond.selects RX2 yX2_isForgotten yX2_isForgotten ∈ GG := GG_in (i := 440) (by decide +kernel) (by decide +kernel)
set_option maxRecDepth 100000 in
theorem wC_X2_isForgotten : Cond.code yX2_isForgotten cX2_isForgotten 2 (some .boolean) ∈ GG := GG_in (i := 441) (rfl) (by decide +kernel)
theorem wM_X7_314 : Cond.methodLink RX7 314 yX7_arePair ∈ GG := GG_in (i := 442) (by decide +kernel) (by decide +kernel)
theorem wI_X7_arePair : Cond.instanceMethod yX7_arePair ∈ GG := GG_in (i := 444) (by decide +kernel) (by decide +kernel)
theorem wL_X7_arePair : Cond.selects RX7 yX7_arePair yX7_arePair ∈ GG := GG_in (i := 10) (by decide +kernel) (by decide +kernel)
set_option maxRecDepth 100000 in
theorem wC_X7_arePair : Cond.code yX7_arePair cX7_arePair 5 (some .boolean) ∈ GG := GG_in (i := 445) (rfl) (by decide +kernel)
theorem wM_X7_180 : Cond.methodLink RX7 180 yX4_compare ∈ GG := GG_in (i := 446) (by decide +kernel) (by decide +kernel)
theorem wI_X4_compare : Cond.instanceMethod yX4_compare ∈ GG := GG_in (i := 447) (by decide +kernel) (by decide +kernel)
theorem wL_X4_compare : Cond.selects RX4 yX4_compare yX4_compare ∈ GG := GG_in (i := 448) (by decide +kernel) (by decide +kernel)
set_option maxRecDepth 100000 in
theorem wC_X4_compare : Cond.code yX4_compare cX4_compare 9 none ∈ GG := GG_in (i := 449) (rfl) (by decide +kernel)
theorem wF_X4_7 : Cond.fieldLink RX4 7 "PairSieve$Overlap" "shared" "I" ∈ GG := GG_in (i := 134) (by decide +kernel) (by decide +kernel)
theorem wF_X4_13 : Cond.fieldLink RX4 13 "PairSieve$Overlap" "sharedInBeginnings" "I" ∈ GG := GG_in (i := 136) (by decide +kernel) (by decide +kernel)
theorem wF_X4_16 : Cond.fieldLink RX4 16 "PairSieve$Overlap" "mostByPlaces" "I" ∈ GG := GG_in (i := 138) (by decide +kernel) (by decide +kernel)
theorem wM_X4_35 : Cond.methodLink RX4 35 Lib.Math.min.name ∈ GG := GG_in (i := 454) (by decide +kernel) (by decide +kernel)
theorem wS_J9_min_7cf53 : Cond.static Lib.Math.min.name ∈ GG := GG_in (i := 455) (by decide +kernel) (by decide +kernel)
theorem wN_J9 : Cond.initialized "java/lang/Math" ∈ GG := GG_in (i := 56) (by decide +kernel) (by decide +kernel)
set_option maxRecDepth 100000 in
theorem wC_J9_min_7cf53 : Cond.code Lib.Math.min.name Lib.Math.min.code 2 (some .int) ∈ GG := GG_in (i := 456) (rfl) (by decide +kernel)
theorem wM_X4_31 : Cond.methodLink RX4 31 yX3_amountBehind ∈ GG := GG_in (i := 450) (by decide +kernel) (by decide +kernel)
theorem wI_X3_amountBehind : Cond.instanceMethod yX3_amountBehind ∈ GG := GG_in (i := 451) (by decide +kernel) (by decide +kernel)
theorem wL_X3_amountBehind : Cond.selects RX3 yX3_amountBehind yX3_amountBehind ∈ GG := GG_in (i := 452) (by decide +kernel) (by decide +kernel)
set_option maxRecDepth 100000 in
theorem wC_X3_amountBehind : Cond.code yX3_amountBehind cX3_amountBehind 4 (some .int) ∈ GG := GG_in (i := 453) (rfl) (by decide +kernel)
theorem wM_X7_201 : Cond.methodLink RX7 201 yX1_isReached ∈ GG := GG_in (i := 457) (by decide +kernel) (by decide +kernel)
theorem wI_X1_isReached : Cond.instanceMethod yX1_isReached ∈ GG := GG_in (i := 458) (by decide +kernel) (by decide +kernel)
theorem wL_X1_isReached : Cond.selects RX1 yX1_isReached yX1_isReached ∈ GG := GG_in (i := 459) (by decide +kernel) (by decide +kernel)
set_option maxRecDepth 100000 in
theorem wC_X1_isReached : Cond.code yX1_isReached cX1_isReached 11 (some .boolean) ∈ GG := GG_in (i := 460) (rfl) (by decide +kernel)
theorem wM_X1_39 : Cond.methodLink RX1 39 yX1_likenessAbove ∈ GG := GG_in (i := 461) (by decide +kernel) (by decide +kernel)
theorem wI_X1_likenessAbove : Cond.instanceMethod yX1_likenessAbove ∈ GG := GG_in (i := 462) (by decide +kernel) (by decide +kernel)
theorem wL_X1_likenessAbove : Cond.selects RX1 yX1_likenessAbove yX1_likenessAbove ∈ GG := GG_in (i := 463) (by decide +kernel) (by decide +kernel)
set_option maxRecDepth 100000 in
theorem wC_X1_likenessAbove : Cond.code yX1_likenessAbove cX1_likenessAbove 7 (some .long) ∈ GG := GG_in (i := 464) (rfl) (by decide +kernel)
theorem wM_X1_43 : Cond.methodLink RX1 43 yX1_likenessBelow ∈ GG := GG_in (i := 465) (by decide +kernel) (by decide +kernel)
theorem wI_X1_likenessBelow : Cond.instanceMethod yX1_likenessBelow ∈ GG := GG_in (i := 466) (by decide +kernel) (by decide +kernel)
theorem wL_X1_likenessBelow : Cond.selects RX1 yX1_likenessBelow yX1_likenessBelow ∈ GG := GG_in (i := 467) (by decide +kernel) (by decide +kernel)
set_option maxRecDepth 100000 in
theorem wC_X1_likenessBelow : Cond.code yX1_likenessBelow cX1_likenessBelow 7 (some .long) ∈ GG := GG_in (i := 468) (rfl) (by decide +kernel)
theorem wM_X1_34 : Cond.methodLink RX1 34 Lib.MathLoose.min_long.x ∈ GG := GG_in (i := 469) (by decide +kernel) (by decide +kernel)
theorem wS_J9_min_f86c9 : Cond.static Lib.MathLoose.min_long.x ∈ GG := GG_in (i := 470) (by decide +kernel) (by decide +kernel)
set_option maxRecDepth 100000 in
theorem wC_J9_min_f86c9 : Cond.code Lib.MathLoose.min_long.x Lib.MathLoose.min_long.code 4 (some .long) ∈ GG := GG_in (i := 471) (rfl) (by decide +kernel)
theorem wM_X7_317 : Cond.methodLink RX7 317 yX2_tie ∈ GG := GG_in (i := 472) (by decide +kernel) (by decide +kernel)
theorem wI_X2_tie : Cond.instanceMethod yX2_tie ∈ GG := GG_in (i := 473) (by decide +kernel) (by decide +kernel)
theorem wL_X2_tie : Cond.selects RX2 yX2_tie yX2_tie ∈ GG := GG_in (i := 474) (by decide +kernel) (by decide +kernel)
set_option maxRecDepth 100000 in
theorem wC_X2_tie : Cond.code yX2_tie cX2_tie 4 none ∈ GG := GG_in (i := 475) (rfl) (by decide +kernel)
theorem wK_X2_19 : Cond.constantLong RX2 19 (-1) ∈ GG := GG_in (i := 476) (by decide +kernel) (by decide +kernel)
theorem wM_X7_321 : Cond.methodLink RX7 321 yX2_know ∈ GG := GG_in (i := 477) (by decide +kernel) (by decide +kernel)
theorem wI_X2_know : Cond.instanceMethod yX2_know ∈ GG := GG_in (i := 478) (by decide +kernel) (by decide +kernel)
theorem wL_X2_know : Cond.selects RX2 yX2_know yX2_know ∈ GG := GG_in (i := 479) (by decide +kernel) (by decide +kernel)
set_option maxRecDepth 100000 in
theorem wC_X2_know : Cond.code yX2_know cX2_know 2 none ∈ GG := GG_in (i := 480) (rfl) (by decide +kernel)
theorem wM_X7_165 : Cond.methodLink RX7 165 yX2_familyOf ∈ GG := GG_in (i := 481) (by decide +kernel) (by decide +kernel)
theorem wI_X2_familyOf : Cond.instanceMethod yX2_familyOf ∈ GG := GG_in (i := 482) (by decide +kernel) (by decide +kernel)
theorem wL_X2_familyOf : Cond.selects RX2 yX2_familyOf yX2_familyOf ∈ GG := GG_in (i := 483) (by decide +kernel) (by decide +kernel)
set_option maxRecDepth 100000 in
theorem wC_X2_familyOf : Cond.code yX2_familyOf cX2_familyOf 7 (some .long) ∈ GG := GG_in (i := 484) (rfl) (by decide +kernel)
theorem wM_X2_27 : Cond.methodLink RX2 27 yX2_friendsOf ∈ GG := GG_in (i := 485) (by decide +kernel) (by decide +kernel)
theorem wI_X2_friendsOf : Cond.instanceMethod yX2_friendsOf ∈ GG := GG_in (i := 487) (by decide +kernel) (by decide +kernel)
theorem wL_X2_friendsOf : Cond.selects RX2 yX2_friendsOf yX2_friendsOf ∈ GG := GG_in (i := 11) (by decide +kernel) (by decide +kernel)
set_option maxRecDepth 100000 in
theorem wC_X2_friendsOf : Cond.code yX2_friendsOf cX2_friendsOf 6 (some .long) ∈ GG := GG_in (i := 488) (rfl) (by decide +kernel)
theorem wM_X7_169 : Cond.methodLink RX7 169 yX2_leastOf ∈ GG := GG_in (i := 489) (by decide +kernel) (by decide +kernel)
theorem wS_X2_leastOf : Cond.static yX2_leastOf ∈ GG := GG_in (i := 490) (by decide +kernel) (by decide +kernel)
set_option maxRecDepth 100000 in
theorem wC_X2_leastOf : Cond.code yX2_leastOf cX2_leastOf 2 (some .int) ∈ GG := GG_in (i := 491) (rfl) (by decide +kernel)
theorem wM_X2_21 : Cond.methodLink RX2 21 yJ13_bitCount_95d88 ∈ GG := GG_in (i := 492) (by decide +kernel) (by decide +kernel)
theorem wS_J13_bitCount_95d88 : Cond.static yJ13_bitCount_95d88 ∈ GG := GG_in (i := 493) (by decide +kernel) (by decide +kernel)
theorem wN_J13 : Cond.initialized RJ13 ∈ GG := GG_in (i := 57) (by decide +kernel) (by decide +kernel)
set_option maxRecDepth 100000 in
theorem wC_J13_bitCount_95d88 : Cond.code yJ13_bitCount_95d88 cJ13_bitCount_95d88 2 (some .int) ∈ GG := GG_in (i := 494) (rfl) (by decide +kernel)
theorem wK_J13_314 : Cond.constantLong RJ13 314 (6148914691236517205) ∈ GG := GG_in (i := 495) (by decide +kernel) (by decide +kernel)
theorem wK_J13_316 : Cond.constantLong RJ13 316 (3689348814741910323) ∈ GG := GG_in (i := 496) (by decide +kernel) (by decide +kernel)
theorem wK_J13_318 : Cond.constantLong RJ13 318 (1085102592571150095) ∈ GG := GG_in (i := 497) (by decide +kernel) (by decide +kernel)
theorem wM_X7_173 : Cond.methodLink RX7 173 yJ13_bitCount_95d88 ∈ GG := GG_in (i := 498) (by decide +kernel) (by decide +kernel)
theorem wM_L_72 : Cond.methodLink RL 72 yX8_about ∈ GG := GG_in (i := 973) (by decide +kernel) (by decide +kernel)
theorem wI_X8_about : Cond.instanceMethod yX8_about ∈ GG := GG_in (i := 974) (by decide +kernel) (by decide +kernel)
theorem wL_X8_about : Cond.selects RX8 yX8_about yX8_about ∈ GG := GG_in (i := 975) (by decide +kernel) (by decide +kernel)
set_option maxRecDepth 100000 in
theorem wC_X8_about : Cond.code yX8_about cX8_about 5 (some .int) ∈ GG := GG_in (i := 976) (rfl) (by decide +kernel)
theorem wM_X8_136 : Cond.methodLink RX8 136 yX8_amountOf ∈ GG := GG_in (i := 917) (by decide +kernel) (by decide +kernel)
theorem wI_X8_amountOf : Cond.instanceMethod yX8_amountOf ∈ GG := GG_in (i := 919) (by decide +kernel) (by decide +kernel)
theorem wL_X8_amountOf : Cond.selects RX8 yX8_amountOf yX8_amountOf ∈ GG := GG_in (i := 34) (by decide +kernel) (by decide +kernel)
set_option maxRecDepth 100000 in
theorem wC_X8_amountOf : Cond.code yX8_amountOf cX8_amountOf 4 (some .int) ∈ GG := GG_in (i := 920) (rfl) (by decide +kernel)
theorem wM_X8_114 : Cond.methodLink RX8 114 yX8_weightOf ∈ GG := GG_in (i := 905) (by decide +kernel) (by decide +kernel)
theorem wI_X8_weightOf : Cond.instanceMethod yX8_weightOf ∈ GG := GG_in (i := 907) (by decide +kernel) (by decide +kernel)
theorem wL_X8_weightOf : Cond.selects RX8 yX8_weightOf yX8_weightOf ∈ GG := GG_in (i := 32) (by decide +kernel) (by decide +kernel)
set_option maxRecDepth 100000 in
theorem wC_X8_weightOf : Cond.code yX8_weightOf cX8_weightOf 3 (some .int) ∈ GG := GG_in (i := 908) (rfl) (by decide +kernel)
theorem wM_X8_153 : Cond.methodLink RX8 153 yX8_least ∈ GG := GG_in (i := 909) (by decide +kernel) (by decide +kernel)
theorem wI_X8_least : Cond.instanceMethod yX8_least ∈ GG := GG_in (i := 911) (by decide +kernel) (by decide +kernel)
theorem wL_X8_least : Cond.selects RX8 yX8_least yX8_least ∈ GG := GG_in (i := 33) (by decide +kernel) (by decide +kernel)
set_option maxRecDepth 100000 in
theorem wC_X8_least : Cond.code yX8_least cX8_least 3 (some .long) ∈ GG := GG_in (i := 912) (rfl) (by decide +kernel)
theorem wK_X8_127 : Cond.constantLong RX8 127 (2) ∈ GG := GG_in (i := 913) (by decide +kernel) (by decide +kernel)
theorem wM_X8_129 : Cond.methodLink RX8 129 yX8_up ∈ GG := GG_in (i := 914) (by decide +kernel) (by decide +kernel)
theorem wS_X8_up : Cond.static yX8_up ∈ GG := GG_in (i := 915) (by decide +kernel) (by decide +kernel)
set_option maxRecDepth 100000 in
theorem wC_X8_up : Cond.code yX8_up cX8_up 4 (some .long) ∈ GG := GG_in (i := 916) (rfl) (by decide +kernel)
theorem wM_X8_157 : Cond.methodLink RX8 157 yX8_sort ∈ GG := GG_in (i := 889) (by decide +kernel) (by decide +kernel)
theorem wI_X8_sort : Cond.instanceMethod yX8_sort ∈ GG := GG_in (i := 891) (by decide +kernel) (by decide +kernel)
theorem wL_X8_sort : Cond.selects RX8 yX8_sort yX8_sort ∈ GG := GG_in (i := 28) (by decide +kernel) (by decide +kernel)
set_option maxRecDepth 100000 in
theorem wC_X8_sort : Cond.code yX8_sort cX8_sort 6 none ∈ GG := GG_in (i := 892) (rfl) (by decide +kernel)
theorem wM_X8_110 : Cond.methodLink RX8 110 yX8_isAhead ∈ GG := GG_in (i := 893) (by decide +kernel) (by decide +kernel)
theorem wI_X8_isAhead : Cond.instanceMethod yX8_isAhead ∈ GG := GG_in (i := 895) (by decide +kernel) (by decide +kernel)
theorem wL_X8_isAhead : Cond.selects RX8 yX8_isAhead yX8_isAhead ∈ GG := GG_in (i := 29) (by decide +kernel) (by decide +kernel)
set_option maxRecDepth 100000 in
theorem wC_X8_isAhead : Cond.code yX8_isAhead cX8_isAhead 5 (some .boolean) ∈ GG := GG_in (i := 896) (rfl) (by decide +kernel)
theorem wM_X8_161 : Cond.methodLink RX8 161 yX8_beginning ∈ GG := GG_in (i := 897) (by decide +kernel) (by decide +kernel)
theorem wI_X8_beginning : Cond.instanceMethod yX8_beginning ∈ GG := GG_in (i := 899) (by decide +kernel) (by decide +kernel)
theorem wL_X8_beginning : Cond.selects RX8 yX8_beginning yX8_beginning ∈ GG := GG_in (i := 30) (by decide +kernel) (by decide +kernel)
set_option maxRecDepth 100000 in
theorem wC_X8_beginning : Cond.code yX8_beginning cX8_beginning 6 (some .int) ∈ GG := GG_in (i := 900) (rfl) (by decide +kernel)
theorem wM_X8_149 : Cond.methodLink RX8 149 yX8_amount ∈ GG := GG_in (i := 901) (by decide +kernel) (by decide +kernel)
theorem wI_X8_amount : Cond.instanceMethod yX8_amount ∈ GG := GG_in (i := 903) (by decide +kernel) (by decide +kernel)
theorem wL_X8_amount : Cond.selects RX8 yX8_amount yX8_amount ∈ GG := GG_in (i := 31) (by decide +kernel) (by decide +kernel)
set_option maxRecDepth 100000 in
theorem wC_X8_amount : Cond.code yX8_amount cX8_amount 6 (some .int) ∈ GG := GG_in (i := 904) (rfl) (by decide +kernel)
theorem wM_X8_194 : Cond.methodLink RX8 194 yX8_steps ∈ GG := GG_in (i := 977) (by decide +kernel) (by decide +kernel)
theorem wI_X8_steps : Cond.instanceMethod yX8_steps ∈ GG := GG_in (i := 979) (by decide +kernel) (by decide +kernel)
theorem wL_X8_steps : Cond.selects RX8 yX8_steps yX8_steps ∈ GG := GG_in (i := 43) (by decide +kernel) (by decide +kernel)
set_option maxRecDepth 100000 in
theorem wC_X8_steps : Cond.code yX8_steps cX8_steps 6 none ∈ GG := GG_in (i := 980) (rfl) (by decide +kernel)
theorem wM_X8_171 : Cond.methodLink RX8 171 yX8_isTwo ∈ GG := GG_in (i := 881) (by decide +kernel) (by decide +kernel)
theorem wI_X8_isTwo : Cond.instanceMethod yX8_isTwo ∈ GG := GG_in (i := 883) (by decide +kernel) (by decide +kernel)
theorem wL_X8_isTwo : Cond.selects RX8 yX8_isTwo yX8_isTwo ∈ GG := GG_in (i := 26) (by decide +kernel) (by decide +kernel)
set_option maxRecDepth 100000 in
theorem wC_X8_isTwo : Cond.code yX8_isTwo cX8_isTwo 3 (some .boolean) ∈ GG := GG_in (i := 884) (rfl) (by decide +kernel)
theorem wM_X8_168 : Cond.methodLink RX8 168 yX8_isPair ∈ GG := GG_in (i := 925) (by decide +kernel) (by decide +kernel)
theorem wI_X8_isPair : Cond.instanceMethod yX8_isPair ∈ GG := GG_in (i := 927) (by decide +kernel) (by decide +kernel)
theorem wL_X8_isPair : Cond.selects RX8 yX8_isPair yX8_isPair ∈ GG := GG_in (i := 36) (by decide +kernel) (by decide +kernel)
set_option maxRecDepth 100000 in
theorem wC_X8_isPair : Cond.code yX8_isPair cX8_isPair 13 (some .boolean) ∈ GG := GG_in (i := 928) (rfl) (by decide +kernel)
theorem wM_X8_139 : Cond.methodLink RX8 139 yX8_shared ∈ GG := GG_in (i := 929) (by decide +kernel) (by decide +kernel)
theorem wI_X8_shared : Cond.instanceMethod yX8_shared ∈ GG := GG_in (i := 931) (by decide +kernel) (by decide +kernel)
theorem wL_X8_shared : Cond.selects RX8 yX8_shared yX8_shared ∈ GG := GG_in (i := 37) (by decide +kernel) (by decide +kernel)
set_option maxRecDepth 100000 in
theorem wC_X8_shared : Cond.code yX8_shared cX8_shared 5 (some .int) ∈ GG := GG_in (i := 932) (rfl) (by decide +kernel)
theorem wM_X8_142 : Cond.methodLink RX8 142 yX8_above ∈ GG := GG_in (i := 933) (by decide +kernel) (by decide +kernel)
theorem wI_X8_above : Cond.instanceMethod yX8_above ∈ GG := GG_in (i := 935) (by decide +kernel) (by decide +kernel)
theorem wL_X8_above : Cond.selects RX8 yX8_above yX8_above ∈ GG := GG_in (i := 38) (by decide +kernel) (by decide +kernel)
set_option maxRecDepth 100000 in
theorem wC_X8_above : Cond.code yX8_above cX8_above 7 (some .long) ∈ GG := GG_in (i := 936) (rfl) (by decide +kernel)
theorem wM_X8_146 : Cond.methodLink RX8 146 yX8_below ∈ GG := GG_in (i := 937) (by decide +kernel) (by decide +kernel)
theorem wI_X8_below : Cond.instanceMethod yX8_below ∈ GG := GG_in (i := 939) (by decide +kernel) (by decide +kernel)
theorem wL_X8_below : Cond.selects RX8 yX8_below yX8_below ∈ GG := GG_in (i := 39) (by decide +kernel) (by decide +kernel)
set_option maxRecDepth 100000 in
theorem wC_X8_below : Cond.code yX8_below cX8_below 7 (some .long) ∈ GG := GG_in (i := 940) (rfl) (by decide +kernel)
theorem wM_L_73 : Cond.methodLink RL 73 yX7_at ∈ GG := GG_in (i := 499) (by decide +kernel) (by decide +kernel)
theorem wI_X7_at : Cond.instanceMethod yX7_at ∈ GG := GG_in (i := 500) (by decide +kernel) (by decide +kernel)
theorem wL_X7_at : Cond.selects RX7 yX7_at yX7_at ∈ GG := GG_in (i := 501) (by decide +kernel) (by decide +kernel)
set_option maxRecDepth 100000 in
theorem wC_X7_at : Cond.code yX7_at cX7_at 4 (some .int) ∈ GG := GG_in (i := 502) (rfl) (by decide +kernel)
theorem wM_L_76 : Cond.methodLink RL 76 yX8_at ∈ GG := GG_in (i := 981) (by decide +kernel) (by decide +kernel)
theorem wI_X8_at : Cond.instanceMethod yX8_at ∈ GG := GG_in (i := 982) (by decide +kernel) (by decide +kernel)
theorem wL_X8_at : Cond.selects RX8 yX8_at yX8_at ∈ GG := GG_in (i := 983) (by decide +kernel) (by decide +kernel)
set_option maxRecDepth 100000 in
theorem wC_X8_at : Cond.code yX8_at cX8_at 3 (some .int) ∈ GG := GG_in (i := 984) (rfl) (by decide +kernel)
theorem wM_L_77 : Cond.methodLink RL 77 yX7_like ∈ GG := GG_in (i := 503) (by decide +kernel) (by decide +kernel)
theorem wI_X7_like : Cond.instanceMethod yX7_like ∈ GG := GG_in (i := 504) (by decide +kernel) (by decide +kernel)
theorem wL_X7_like : Cond.selects RX7 yX7_like yX7_like ∈ GG := GG_in (i := 505) (by decide +kernel) (by decide +kernel)
set_option maxRecDepth 100000 in
theorem wC_X7_like : Cond.code yX7_like cX7_like 12 (some .long) ∈ GG := GG_in (i := 506) (rfl) (by decide +kernel)
theorem wK_X7_178 : Cond.constantLong RX7 178 (-1) ∈ GG := GG_in (i := 507) (by decide +kernel) (by decide +kernel)
theorem wM_X7_187 : Cond.methodLink RX7 187 yX1_likenessAbove ∈ GG := GG_in (i := 508) (by decide +kernel) (by decide +kernel)
theorem wM_X7_191 : Cond.methodLink RX7 191 yX1_likenessBelow ∈ GG := GG_in (i := 509) (by decide +kernel) (by decide +kernel)
theorem wM_X7_194 : Cond.methodLink RX7 194 yX1_needed ∈ GG := GG_in (i := 510) (by decide +kernel) (by decide +kernel)
theorem wI_X1_needed : Cond.instanceMethod yX1_needed ∈ GG := GG_in (i := 511) (by decide +kernel) (by decide +kernel)
theorem wL_X1_needed : Cond.selects RX1 yX1_needed yX1_needed ∈ GG := GG_in (i := 512) (by decide +kernel) (by decide +kernel)
set_option maxRecDepth 100000 in
theorem wC_X1_needed : Cond.code yX1_needed cX1_needed 5 (some .long) ∈ GG := GG_in (i := 513) (rfl) (by decide +kernel)
theorem wM_X1_31 : Cond.methodLink RX1 31 yX1_rootUp ∈ GG := GG_in (i := 514) (by decide +kernel) (by decide +kernel)
theorem wS_X1_rootUp : Cond.static yX1_rootUp ∈ GG := GG_in (i := 515) (by decide +kernel) (by decide +kernel)
set_option maxRecDepth 100000 in
theorem wC_X1_rootUp : Cond.code yX1_rootUp cX1_rootUp 6 (some .long) ∈ GG := GG_in (i := 516) (rfl) (by decide +kernel)
theorem wK_X1_46 : Cond.constantLong RX1 46 (3000) ∈ GG := GG_in (i := 517) (by decide +kernel) (by decide +kernel)
theorem wM_X7_198 : Cond.methodLink RX7 198 yX1_withoutDivisor ∈ GG := GG_in (i := 518) (by decide +kernel) (by decide +kernel)
theorem wS_X1_withoutDivisor : Cond.static yX1_withoutDivisor ∈ GG := GG_in (i := 519) (by decide +kernel) (by decide +kernel)
set_option maxRecDepth 100000 in
theorem wC_X1_withoutDivisor : Cond.code yX1_withoutDivisor cX1_withoutDivisor 13 (some .long) ∈ GG := GG_in (i := 520) (rfl) (by decide +kernel)
theorem wM_L_81 : Cond.methodLink RL 81 yX8_like ∈ GG := GG_in (i := 941) (by decide +kernel) (by decide +kernel)
theorem wI_X8_like : Cond.instanceMethod yX8_like ∈ GG := GG_in (i := 942) (by decide +kernel) (by decide +kernel)
theorem wL_X8_like : Cond.selects RX8 yX8_like yX8_like ∈ GG := GG_in (i := 943) (by decide +kernel) (by decide +kernel)
set_option maxRecDepth 100000 in
theorem wC_X8_like : Cond.code yX8_like cX8_like 16 (some .long) ∈ GG := GG_in (i := 944) (rfl) (by decide +kernel)
theorem wK_X8_177 : Cond.constantLong RX8 177 (-1) ∈ GG := GG_in (i := 945) (by decide +kernel) (by decide +kernel)
theorem wM_X8_133 : Cond.methodLink RX8 133 yX8_divisor ∈ GG := GG_in (i := 946) (by decide +kernel) (by decide +kernel)
theorem wS_X8_divisor : Cond.static yX8_divisor ∈ GG := GG_in (i := 947) (by decide +kernel) (by decide +kernel)
set_option maxRecDepth 100000 in
theorem wC_X8_divisor : Cond.code yX8_divisor cX8_divisor 4 (some .long) ∈ GG := GG_in (i := 948) (rfl) (by decide +kernel)
theorem wM_X8_165 : Cond.methodLink RX8 165 yX8_needed ∈ GG := GG_in (i := 921) (by decide +kernel) (by decide +kernel)
theorem wI_X8_needed : Cond.instanceMethod yX8_needed ∈ GG := GG_in (i := 923) (by decide +kernel) (by decide +kernel)
theorem wL_X8_needed : Cond.selects RX8 yX8_needed yX8_needed ∈ GG := GG_in (i := 35) (by decide +kernel) (by decide +kernel)
set_option maxRecDepth 100000 in
theorem wC_X8_needed : Cond.code yX8_needed cX8_needed 9 (some .long) ∈ GG := GG_in (i := 924) (rfl) (by decide +kernel)
theorem wM_L_82 : Cond.methodLink RL 82 yX7_why ∈ GG := GG_in (i := 521) (by decide +kernel) (by decide +kernel)
theorem wI_X7_why : Cond.instanceMethod yX7_why ∈ GG := GG_in (i := 522) (by decide +kernel) (by decide +kernel)
theorem wL_X7_why : Cond.selects RX7 yX7_why yX7_why ∈ GG := GG_in (i := 523) (by decide +kernel) (by decide +kernel)
set_option maxRecDepth 100000 in
theorem wC_X7_why : Cond.code yX7_why cX7_why 5 (some .int) ∈ GG := GG_in (i := 524) (rfl) (by decide +kernel)
theorem wM_X7_205 : Cond.methodLink RX7 205 yX7_fateOf ∈ GG := GG_in (i := 525) (by decide +kernel) (by decide +kernel)
theorem wI_X7_fateOf : Cond.instanceMethod yX7_fateOf ∈ GG := GG_in (i := 527) (by decide +kernel) (by decide +kernel)
theorem wL_X7_fateOf : Cond.selects RX7 yX7_fateOf yX7_fateOf ∈ GG := GG_in (i := 12) (by decide +kernel) (by decide +kernel)
set_option maxRecDepth 100000 in
theorem wC_X7_fateOf : Cond.code yX7_fateOf cX7_fateOf 7 (some .int) ∈ GG := GG_in (i := 528) (rfl) (by decide +kernel)
theorem wM_X7_286 : Cond.methodLink RX7 286 Lib.Math.min.name ∈ GG := GG_in (i := 529) (by decide +kernel) (by decide +kernel)
theorem wM_L_85 : Cond.methodLink RL 85 yX8_why ∈ GG := GG_in (i := 877) (by decide +kernel) (by decide +kernel)
theorem wI_X8_why : Cond.instanceMethod yX8_why ∈ GG := GG_in (i := 878) (by decide +kernel) (by decide +kernel)
theorem wL_X8_why : Cond.selects RX8 yX8_why yX8_why ∈ GG := GG_in (i := 879) (by decide +kernel) (by decide +kernel)
set_option maxRecDepth 100000 in
theorem wC_X8_why : Cond.code yX8_why cX8_why 3 (some .int) ∈ GG := GG_in (i := 880) (rfl) (by decide +kernel)
theorem wM_X8_174 : Cond.methodLink RX8 174 yX8_whyOf ∈ GG := GG_in (i := 885) (by decide +kernel) (by decide +kernel)
theorem wI_X8_whyOf : Cond.instanceMethod yX8_whyOf ∈ GG := GG_in (i := 887) (by decide +kernel) (by decide +kernel)
theorem wL_X8_whyOf : Cond.selects RX8 yX8_whyOf yX8_whyOf ∈ GG := GG_in (i := 27) (by decide +kernel) (by decide +kernel)
set_option maxRecDepth 100000 in
theorem wC_X8_whyOf : Cond.code yX8_whyOf cX8_whyOf 16 (some .int) ∈ GG := GG_in (i := 888) (rfl) (by decide +kernel)
theorem wM_L_86 : Cond.methodLink RL 86 yX7_pairs ∈ GG := GG_in (i := 530) (by decide +kernel) (by decide +kernel)
theorem wI_X7_pairs : Cond.instanceMethod yX7_pairs ∈ GG := GG_in (i := 531) (by decide +kernel) (by decide +kernel)
theorem wL_X7_pairs : Cond.selects RX7 yX7_pairs yX7_pairs ∈ GG := GG_in (i := 532) (by decide +kernel) (by decide +kernel)
set_option maxRecDepth 100000 in
theorem wC_X7_pairs : Cond.code yX7_pairs cX7_pairs 3 (some .int) ∈ GG := GG_in (i := 533) (rfl) (by decide +kernel)
theorem wM_X7_209 : Cond.methodLink RX7 209 yX7_startSieve ∈ GG := GG_in (i := 534) (by decide +kernel) (by decide +kernel)
theorem wI_X7_startSieve : Cond.instanceMethod yX7_startSieve ∈ GG := GG_in (i := 536) (by decide +kernel) (by decide +kernel)
theorem wL_X7_startSieve : Cond.selects RX7 yX7_startSieve yX7_startSieve ∈ GG := GG_in (i := 13) (by decide +kernel) (by decide +kernel)
set_option maxRecDepth 100000 in
theorem wC_X7_startSieve : Cond.code yX7_startSieve cX7_startSieve 2 none ∈ GG := GG_in (i := 537) (rfl) (by decide +kernel)
theorem wF_X7_261 : Cond.fieldLink RX7 261 "PairSieve" "spent" "I" ∈ GG := GG_in (i := 199) (by decide +kernel) (by decide +kernel)
theorem wM_X7_232 : Cond.methodLink RX7 232 yX0_clear ∈ GG := GG_in (i := 538) (by decide +kernel) (by decide +kernel)
theorem wI_X0_clear : Cond.instanceMethod yX0_clear ∈ GG := GG_in (i := 539) (by decide +kernel) (by decide +kernel)
theorem wL_X0_clear : Cond.selects RX0 yX0_clear yX0_clear ∈ GG := GG_in (i := 540) (by decide +kernel) (by decide +kernel)
set_option maxRecDepth 100000 in
theorem wC_X0_clear : Cond.code yX0_clear cX0_clear 1 none ∈ GG := GG_in (i := 541) (rfl) (by decide +kernel)
theorem wF_X0_28 : Cond.fieldLink RX0 28 "PairSieve$KeptPairs" "size" "I" ∈ GG := GG_in (i := 161) (by decide +kernel) (by decide +kernel)
theorem wM_X7_212 : Cond.methodLink RX7 212 yX7_sift ∈ GG := GG_in (i := 542) (by decide +kernel) (by decide +kernel)
theorem wI_X7_sift : Cond.instanceMethod yX7_sift ∈ GG := GG_in (i := 544) (by decide +kernel) (by decide +kernel)
theorem wL_X7_sift : Cond.selects RX7 yX7_sift yX7_sift ∈ GG := GG_in (i := 14) (by decide +kernel) (by decide +kernel)
set_option maxRecDepth 100000 in
theorem wC_X7_sift : Cond.code yX7_sift cX7_sift 4 none ∈ GG := GG_in (i := 545) (rfl) (by decide +kernel)
theorem wM_X7_294 : Cond.methodLink RX7 294 yX0_append ∈ GG := GG_in (i := 546) (by decide +kernel) (by decide +kernel)
theorem wI_X0_append : Cond.instanceMethod yX0_append ∈ GG := GG_in (i := 547) (by decide +kernel) (by decide +kernel)
theorem wL_X0_append : Cond.selects RX0 yX0_append yX0_append ∈ GG := GG_in (i := 548) (by decide +kernel) (by decide +kernel)
set_option maxRecDepth 100000 in
theorem wC_X0_append : Cond.code yX0_append cX0_append 4 none ∈ GG := GG_in (i := 549) (rfl) (by decide +kernel)
theorem wM_X0_32 : Cond.methodLink RX0 32 yX0_set ∈ GG := GG_in (i := 550) (by decide +kernel) (by decide +kernel)
theorem wI_X0_set : Cond.instanceMethod yX0_set ∈ GG := GG_in (i := 551) (by decide +kernel) (by decide +kernel)
theorem wL_X0_set : Cond.selects RX0 yX0_set yX0_set ∈ GG := GG_in (i := 552) (by decide +kernel) (by decide +kernel)
set_option maxRecDepth 100000 in
theorem wC_X0_set : Cond.code yX0_set cX0_set 5 none ∈ GG := GG_in (i := 553) (rfl) (by decide +kernel)
theorem wM_L_89 : Cond.methodLink RL 89 yX8_pairs ∈ GG := GG_in (i := 949) (by decide +kernel) (by decide +kernel)
theorem wI_X8_pairs : Cond.instanceMethod yX8_pairs ∈ GG := GG_in (i := 950) (by decide +kernel) (by decide +kernel)
theorem wL_X8_pairs : Cond.selects RX8 yX8_pairs yX8_pairs ∈ GG := GG_in (i := 951) (by decide +kernel) (by decide +kernel)
set_option maxRecDepth 100000 in
theorem wC_X8_pairs : Cond.code yX8_pairs cX8_pairs 4 (some .int) ∈ GG := GG_in (i := 952) (rfl) (by decide +kernel)
theorem wF_X8_179 : Cond.fieldLink RX8 179 "PairSieveModel" "kept" "I" ∈ GG := GG_in (i := 724) (by decide +kernel) (by decide +kernel)
theorem wM_X8_182 : Cond.methodLink RX8 182 yX8_keep ∈ GG := GG_in (i := 953) (by decide +kernel) (by decide +kernel)
theorem wI_X8_keep : Cond.instanceMethod yX8_keep ∈ GG := GG_in (i := 955) (by decide +kernel) (by decide +kernel)
theorem wL_X8_keep : Cond.selects RX8 yX8_keep yX8_keep ∈ GG := GG_in (i := 40) (by decide +kernel) (by decide +kernel)
set_option maxRecDepth 100000 in
theorem wC_X8_keep : Cond.code yX8_keep cX8_keep 4 none ∈ GG := GG_in (i := 956) (rfl) (by decide +kernel)
theorem wM_X8_186 : Cond.methodLink RX8 186 yX8_spent ∈ GG := GG_in (i := 957) (by decide +kernel) (by decide +kernel)
theorem wI_X8_spent : Cond.instanceMethod yX8_spent ∈ GG := GG_in (i := 959) (by decide +kernel) (by decide +kernel)
theorem wL_X8_spent : Cond.selects RX8 yX8_spent yX8_spent ∈ GG := GG_in (i := 41) (by decide +kernel) (by decide +kernel)
set_option maxRecDepth 100000 in
theorem wC_X8_spent : Cond.code yX8_spent cX8_spent 8 (some .int) ∈ GG := GG_in (i := 960) (rfl) (by decide +kernel)
theorem wM_L_90 : Cond.methodLink RL 90 yL_pair ∈ GG := GG_in (i := 626) (by decide +kernel) (by decide +kernel)
theorem wS_L_pair : Cond.static yL_pair ∈ GG := GG_in (i := 627) (by decide +kernel) (by decide +kernel)
theorem wN_L : Cond.initialized RL ∈ GG := GG_in (i := 45) (by decide +kernel) (by decide +kernel)
theorem wE_L_13 : Cond.classLink RL 13 "java/util/NoSuchElementException" ∈ GG := GG_in (i := 629) (by decide +kernel) (by decide +kernel)
theorem wM_L_7 : Cond.methodLink RL 7 yX7_pair ∈ GG := GG_in (i := 630) (by decide +kernel) (by decide +kernel)
theorem wI_X7_pair : Cond.instanceMethod yX7_pair ∈ GG := GG_in (i := 631) (by decide +kernel) (by decide +kernel)
theorem wL_X7_pair : Cond.selects RX7 yX7_pair yX7_pair ∈ GG := GG_in (i := 632) (by decide +kernel) (by decide +kernel)
set_option maxRecDepth 100000 in
theorem wC_X7_pair : Cond.code yX7_pair cX7_pair 3 (some .int) ∈ GG := GG_in (i := 633) (rfl) (by decide +kernel)
theorem wE_X7_217 : Cond.classLink RX7 217 "java/util/NoSuchElementException" ∈ GG := GG_in (i := 634) (by decide +kernel) (by decide +kernel)
theorem wN_java_util_NoSuchElementException : Cond.initialized "java/util/NoSuchElementException" ∈ GG := GG_in (i := 61) (by decide +kernel) (by decide +kernel)
theorem wM_L_95 : Cond.methodLink RL 95 yX8_pair ∈ GG := GG_in (i := 961) (by decide +kernel) (by decide +kernel)
theorem wI_X8_pair : Cond.instanceMethod yX8_pair ∈ GG := GG_in (i := 962) (by decide +kernel) (by decide +kernel)
theorem wL_X8_pair : Cond.selects RX8 yX8_pair yX8_pair ∈ GG := GG_in (i := 963) (by decide +kernel) (by decide +kernel)
set_option maxRecDepth 100000 in
theorem wC_X8_pair : Cond.code yX8_pair cX8_pair 3 (some .int) ∈ GG := GG_in (i := 964) (rfl) (by decide +kernel)
theorem wM_L_96 : Cond.methodLink RL 96 yX8_thrown ∈ GG := GG_in (i := 798) (by decide +kernel) (by decide +kernel)
theorem wI_X8_thrown : Cond.instanceMethod yX8_thrown ∈ GG := GG_in (i := 799) (by decide +kernel) (by decide +kernel)
theorem wL_X8_thrown : Cond.selects RX8 yX8_thrown yX8_thrown ∈ GG := GG_in (i := 800) (by decide +kernel) (by decide +kernel)
set_option maxRecDepth 100000 in
theorem wC_X8_thrown : Cond.code yX8_thrown cX8_thrown 1 (some .int) ∈ GG := GG_in (i := 801) (rfl) (by decide +kernel)
theorem wM_L_99 : Cond.methodLink RL 99 yX7_top ∈ GG := GG_in (i := 554) (by decide +kernel) (by decide +kernel)
theorem wI_X7_top : Cond.instanceMethod yX7_top ∈ GG := GG_in (i := 555) (by decide +kernel) (by decide +kernel)
theorem wL_X7_top : Cond.selects RX7 yX7_top yX7_top ∈ GG := GG_in (i := 556) (by decide +kernel) (by decide +kernel)
set_option maxRecDepth 100000 in
theorem wC_X7_top : Cond.code yX7_top cX7_top 4 (some .int) ∈ GG := GG_in (i := 557) (rfl) (by decide +kernel)
theorem wM_X7_233 : Cond.methodLink RX7 233 yX7_rank ∈ GG := GG_in (i := 558) (by decide +kernel) (by decide +kernel)
theorem wI_X7_rank : Cond.instanceMethod yX7_rank ∈ GG := GG_in (i := 560) (by decide +kernel) (by decide +kernel)
theorem wL_X7_rank : Cond.selects RX7 yX7_rank yX7_rank ∈ GG := GG_in (i := 15) (by decide +kernel) (by decide +kernel)
set_option maxRecDepth 100000 in
theorem wC_X7_rank : Cond.code yX7_rank cX7_rank 12 none ∈ GG := GG_in (i := 561) (rfl) (by decide +kernel)
theorem wM_X7_296 : Cond.methodLink RX7 296 yX0_placeFor ∈ GG := GG_in (i := 562) (by decide +kernel) (by decide +kernel)
theorem wI_X0_placeFor : Cond.instanceMethod yX0_placeFor ∈ GG := GG_in (i := 563) (by decide +kernel) (by decide +kernel)
theorem wL_X0_placeFor : Cond.selects RX0 yX0_placeFor yX0_placeFor ∈ GG := GG_in (i := 564) (by decide +kernel) (by decide +kernel)
set_option maxRecDepth 100000 in
theorem wC_X0_placeFor : Cond.code yX0_placeFor cX0_placeFor 8 (some .int) ∈ GG := GG_in (i := 565) (rfl) (by decide +kernel)
theorem wM_X0_36 : Cond.methodLink RX0 36 Lib.Math.min.name ∈ GG := GG_in (i := 566) (by decide +kernel) (by decide +kernel)
theorem wM_X7_300 : Cond.methodLink RX7 300 yX0_makeRoom ∈ GG := GG_in (i := 567) (by decide +kernel) (by decide +kernel)
theorem wI_X0_makeRoom : Cond.instanceMethod yX0_makeRoom ∈ GG := GG_in (i := 568) (by decide +kernel) (by decide +kernel)
theorem wL_X0_makeRoom : Cond.selects RX0 yX0_makeRoom yX0_makeRoom ∈ GG := GG_in (i := 569) (by decide +kernel) (by decide +kernel)
set_option maxRecDepth 100000 in
theorem wC_X0_makeRoom : Cond.code yX0_makeRoom cX0_makeRoom 4 none ∈ GG := GG_in (i := 570) (rfl) (by decide +kernel)
theorem wM_X0_42 : Cond.methodLink RX0 42 arraycopyName ∈ GG := GG_in (i := 571) (by decide +kernel) (by decide +kernel)
theorem wM_X7_303 : Cond.methodLink RX7 303 yX0_set ∈ GG := GG_in (i := 572) (by decide +kernel) (by decide +kernel)
theorem wM_X7_307 : Cond.methodLink RX7 307 yX0_setLikeness ∈ GG := GG_in (i := 573) (by decide +kernel) (by decide +kernel)
theorem wI_X0_setLikeness : Cond.instanceMethod yX0_setLikeness ∈ GG := GG_in (i := 574) (by decide +kernel) (by decide +kernel)
theorem wL_X0_setLikeness : Cond.selects RX0 yX0_setLikeness yX0_setLikeness ∈ GG := GG_in (i := 575) (by decide +kernel) (by decide +kernel)
set_option maxRecDepth 100000 in
theorem wC_X0_setLikeness : Cond.code yX0_setLikeness cX0_setLikeness 6 none ∈ GG := GG_in (i := 576) (rfl) (by decide +kernel)
theorem wM_L_102 : Cond.methodLink RL 102 yX8_top ∈ GG := GG_in (i := 965) (by decide +kernel) (by decide +kernel)
theorem wI_X8_top : Cond.instanceMethod yX8_top ∈ GG := GG_in (i := 966) (by decide +kernel) (by decide +kernel)
theorem wL_X8_top : Cond.selects RX8 yX8_top yX8_top ∈ GG := GG_in (i := 967) (by decide +kernel) (by decide +kernel)
set_option maxRecDepth 100000 in
theorem wC_X8_top : Cond.code yX8_top cX8_top 5 (some .int) ∈ GG := GG_in (i := 968) (rfl) (by decide +kernel)
theorem wM_X8_190 : Cond.methodLink RX8 190 yX8_isLiker ∈ GG := GG_in (i := 969) (by decide +kernel) (by decide +kernel)
theorem wI_X8_isLiker : Cond.instanceMethod yX8_isLiker ∈ GG := GG_in (i := 971) (by decide +kernel) (by decide +kernel)
theorem wL_X8_isLiker : Cond.selects RX8 yX8_isLiker yX8_isLiker ∈ GG := GG_in (i := 42) (by decide +kernel) (by decide +kernel)
set_option maxRecDepth 100000 in
theorem wC_X8_isLiker : Cond.code yX8_isLiker cX8_isLiker 17 (some .boolean) ∈ GG := GG_in (i := 972) (rfl) (by decide +kernel)
theorem wM_L_103 : Cond.methodLink RL 103 yX7_core ∈ GG := GG_in (i := 577) (by decide +kernel) (by decide +kernel)
theorem wI_X7_core : Cond.instanceMethod yX7_core ∈ GG := GG_in (i := 578) (by decide +kernel) (by decide +kernel)
theorem wL_X7_core : Cond.selects RX7 yX7_core yX7_core ∈ GG := GG_in (i := 579) (by decide +kernel) (by decide +kernel)
set_option maxRecDepth 100000 in
theorem wC_X7_core : Cond.code yX7_core cX7_core 4 (some .int) ∈ GG := GG_in (i := 580) (rfl) (by decide +kernel)
theorem wF_X7_240 : Cond.fieldLink RX7 240 "PairSieve" "keptCore" "J" ∈ GG := GG_in (i := 202) (by decide +kernel) (by decide +kernel)
theorem wM_X7_237 : Cond.methodLink RX7 237 yX2_coreOf ∈ GG := GG_in (i := 581) (by decide +kernel) (by decide +kernel)
theorem wI_X2_coreOf : Cond.instanceMethod yX2_coreOf ∈ GG := GG_in (i := 582) (by decide +kernel) (by decide +kernel)
theorem wL_X2_coreOf : Cond.selects RX2 yX2_coreOf yX2_coreOf ∈ GG := GG_in (i := 583) (by decide +kernel) (by decide +kernel)
set_option maxRecDepth 100000 in
theorem wC_X2_coreOf : Cond.code yX2_coreOf cX2_coreOf 3 (some .long) ∈ GG := GG_in (i := 584) (rfl) (by decide +kernel)
theorem wM_X2_34 : Cond.methodLink RX2 34 yX2_greatestCore ∈ GG := GG_in (i := 585) (by decide +kernel) (by decide +kernel)
theorem wS_X2_greatestCore : Cond.static yX2_greatestCore ∈ GG := GG_in (i := 586) (by decide +kernel) (by decide +kernel)
set_option maxRecDepth 100000 in
theorem wC_X2_greatestCore : Cond.code yX2_greatestCore cX2_greatestCore 14 (some .long) ∈ GG := GG_in (i := 587) (rfl) (by decide +kernel)
theorem wM_X2_31 : Cond.methodLink RX2 31 yX2_leastOf ∈ GG := GG_in (i := 588) (by decide +kernel) (by decide +kernel)
theorem wM_L_106 : Cond.methodLink RL 106 yX8_core ∈ GG := GG_in (i := 993) (by decide +kernel) (by decide +kernel)
theorem wI_X8_core : Cond.instanceMethod yX8_core ∈ GG := GG_in (i := 994) (by decide +kernel) (by decide +kernel)
theorem wL_X8_core : Cond.selects RX8 yX8_core yX8_core ∈ GG := GG_in (i := 995) (by decide +kernel) (by decide +kernel)
set_option maxRecDepth 100000 in
theorem wC_X8_core : Cond.code yX8_core cX8_core 5 (some .int) ∈ GG := GG_in (i := 996) (rfl) (by decide +kernel)
theorem wF_X8_205 : Cond.fieldLink RX8 205 "PairSieveModel" "familyMany" "I" ∈ GG := GG_in (i := 730) (by decide +kernel) (by decide +kernel)
theorem wF_X8_197 : Cond.fieldLink RX8 197 "PairSieveModel" "best" "I" ∈ GG := GG_in (i := 735) (by decide +kernel) (by decide +kernel)
theorem wF_X8_212 : Cond.fieldLink RX8 212 "PairSieveModel" "coreMany" "I" ∈ GG := GG_in (i := 731) (by decide +kernel) (by decide +kernel)
theorem wM_X8_208 : Cond.methodLink RX8 208 yX8_grow ∈ GG := GG_in (i := 997) (by decide +kernel) (by decide +kernel)
theorem wI_X8_grow : Cond.instanceMethod yX8_grow ∈ GG := GG_in (i := 999) (by decide +kernel) (by decide +kernel)
theorem wL_X8_grow : Cond.selects RX8 yX8_grow yX8_grow ∈ GG := GG_in (i := 44) (by decide +kernel) (by decide +kernel)
set_option maxRecDepth 100000 in
theorem wC_X8_grow : Cond.code yX8_grow cX8_grow 6 none ∈ GG := GG_in (i := 1000) (rfl) (by decide +kernel)
theorem wM_X8_200 : Cond.methodLink RX8 200 yJ6_bitCount_0f7a4 ∈ GG := GG_in (i := 1001) (by decide +kernel) (by decide +kernel)
theorem wS_J6_bitCount_0f7a4 : Cond.static yJ6_bitCount_0f7a4 ∈ GG := GG_in (i := 1002) (by decide +kernel) (by decide +kernel)
theorem wN_J6 : Cond.initialized RJ6 ∈ GG := GG_in (i := 62) (by decide +kernel) (by decide +kernel)
set_option maxRecDepth 100000 in
theorem wC_J6_bitCount_0f7a4 : Cond.code yJ6_bitCount_0f7a4 cJ6_bitCount_0f7a4 1 (some .int) ∈ GG := GG_in (i := 1003) (rfl) (by decide +kernel)
theorem wK_J6_265 : Cond.constant RJ6 265 (1431655765) ∈ GG := GG_in (i := 1004) (by decide +kernel) (by decide +kernel)
theorem wK_J6_266 : Cond.constant RJ6 266 (858993459) ∈ GG := GG_in (i := 1005) (by decide +kernel) (by decide +kernel)
theorem wK_J6_267 : Cond.constant RJ6 267 (252645135) ∈ GG := GG_in (i := 1006) (by decide +kernel) (by decide +kernel)
theorem wM_L_107 : Cond.methodLink RL 107 yX7_member ∈ GG := GG_in (i := 589) (by decide +kernel) (by decide +kernel)
theorem wI_X7_member : Cond.instanceMethod yX7_member ∈ GG := GG_in (i := 590) (by decide +kernel) (by decide +kernel)
theorem wL_X7_member : Cond.selects RX7 yX7_member yX7_member ∈ GG := GG_in (i := 591) (by decide +kernel) (by decide +kernel)
set_option maxRecDepth 100000 in
theorem wC_X7_member : Cond.code yX7_member cX7_member 5 (some .int) ∈ GG := GG_in (i := 592) (rfl) (by decide +kernel)
theorem wM_L_110 : Cond.methodLink RL 110 yX8_member ∈ GG := GG_in (i := 1007) (by decide +kernel) (by decide +kernel)
theorem wI_X8_member : Cond.instanceMethod yX8_member ∈ GG := GG_in (i := 1008) (by decide +kernel) (by decide +kernel)
theorem wL_X8_member : Cond.selects RX8 yX8_member yX8_member ∈ GG := GG_in (i := 1009) (by decide +kernel) (by decide +kernel)
set_option maxRecDepth 100000 in
theorem wC_X8_member : Cond.code yX8_member cX8_member 2 (some .int) ∈ GG := GG_in (i := 1010) (rfl) (by decide +kernel)
theorem wM_L_111 : Cond.methodLink RL 111 yX7_chain ∈ GG := GG_in (i := 593) (by decide +kernel) (by decide +kernel)
theorem wI_X7_chain : Cond.instanceMethod yX7_chain ∈ GG := GG_in (i := 594) (by decide +kernel) (by decide +kernel)
theorem wL_X7_chain : Cond.selects RX7 yX7_chain yX7_chain ∈ GG := GG_in (i := 595) (by decide +kernel) (by decide +kernel)
set_option maxRecDepth 100000 in
theorem wC_X7_chain : Cond.code yX7_chain cX7_chain 3 (some .int) ∈ GG := GG_in (i := 596) (rfl) (by decide +kernel)
theorem wM_X7_244 : Cond.methodLink RX7 244 yX2_stepsBetween ∈ GG := GG_in (i := 597) (by decide +kernel) (by decide +kernel)
theorem wI_X2_stepsBetween : Cond.instanceMethod yX2_stepsBetween ∈ GG := GG_in (i := 598) (by decide +kernel) (by decide +kernel)
theorem wL_X2_stepsBetween : Cond.selects RX2 yX2_stepsBetween yX2_stepsBetween ∈ GG := GG_in (i := 599) (by decide +kernel) (by decide +kernel)
set_option maxRecDepth 100000 in
theorem wC_X2_stepsBetween : Cond.code yX2_stepsBetween cX2_stepsBetween 8 (some .int) ∈ GG := GG_in (i := 600) (rfl) (by decide +kernel)
theorem wM_L_114 : Cond.methodLink RL 114 yX8_chain ∈ GG := GG_in (i := 985) (by decide +kernel) (by decide +kernel)
theorem wI_X8_chain : Cond.instanceMethod yX8_chain ∈ GG := GG_in (i := 986) (by decide +kernel) (by decide +kernel)
theorem wL_X8_chain : Cond.selects RX8 yX8_chain yX8_chain ∈ GG := GG_in (i := 987) (by decide +kernel) (by decide +kernel)
set_option maxRecDepth 100000 in
theorem wC_X8_chain : Cond.code yX8_chain cX8_chain 3 (some .int) ∈ GG := GG_in (i := 988) (rfl) (by decide +kernel)
theorem wM_L_115 : Cond.methodLink RL 115 yX7_next ∈ GG := GG_in (i := 601) (by decide +kernel) (by decide +kernel)
theorem wI_X7_next : Cond.instanceMethod yX7_next ∈ GG := GG_in (i := 602) (by decide +kernel) (by decide +kernel)
theorem wL_X7_next : Cond.selects RX7 yX7_next yX7_next ∈ GG := GG_in (i := 603) (by decide +kernel) (by decide +kernel)
set_option maxRecDepth 100000 in
theorem wC_X7_next : Cond.code yX7_next cX7_next 4 (some .int) ∈ GG := GG_in (i := 604) (rfl) (by decide +kernel)
theorem wM_X7_247 : Cond.methodLink RX7 247 yX7_chain ∈ GG := GG_in (i := 605) (by decide +kernel) (by decide +kernel)
theorem wM_X7_250 : Cond.methodLink RX7 250 yX2_firstStep ∈ GG := GG_in (i := 606) (by decide +kernel) (by decide +kernel)
theorem wI_X2_firstStep : Cond.instanceMethod yX2_firstStep ∈ GG := GG_in (i := 607) (by decide +kernel) (by decide +kernel)
theorem wL_X2_firstStep : Cond.selects RX2 yX2_firstStep yX2_firstStep ∈ GG := GG_in (i := 608) (by decide +kernel) (by decide +kernel)
set_option maxRecDepth 100000 in
theorem wC_X2_firstStep : Cond.code yX2_firstStep cX2_firstStep 7 (some .int) ∈ GG := GG_in (i := 609) (rfl) (by decide +kernel)
theorem wM_L_118 : Cond.methodLink RL 118 yX8_next ∈ GG := GG_in (i := 989) (by decide +kernel) (by decide +kernel)
theorem wI_X8_next : Cond.instanceMethod yX8_next ∈ GG := GG_in (i := 990) (by decide +kernel) (by decide +kernel)
theorem wL_X8_next : Cond.selects RX8 yX8_next yX8_next ∈ GG := GG_in (i := 991) (by decide +kernel) (by decide +kernel)
set_option maxRecDepth 100000 in
theorem wC_X8_next : Cond.code yX8_next cX8_next 4 (some .int) ∈ GG := GG_in (i := 992) (rfl) (by decide +kernel)
theorem wM_L_119 : Cond.methodLink RL 119 yX7_count ∈ GG := GG_in (i := 610) (by decide +kernel) (by decide +kernel)
theorem wI_X7_count : Cond.instanceMethod yX7_count ∈ GG := GG_in (i := 611) (by decide +kernel) (by decide +kernel)
theorem wL_X7_count : Cond.selects RX7 yX7_count yX7_count ∈ GG := GG_in (i := 612) (by decide +kernel) (by decide +kernel)
set_option maxRecDepth 100000 in
theorem wC_X7_count : Cond.code yX7_count cX7_count 2 (some .int) ∈ GG := GG_in (i := 613) (rfl) (by decide +kernel)
theorem wM_X7_254 : Cond.methodLink RX7 254 yX7_countRecords ∈ GG := GG_in (i := 614) (by decide +kernel) (by decide +kernel)
theorem wI_X7_countRecords : Cond.instanceMethod yX7_countRecords ∈ GG := GG_in (i := 616) (by decide +kernel) (by decide +kernel)
theorem wL_X7_countRecords : Cond.selects RX7 yX7_countRecords yX7_countRecords ∈ GG := GG_in (i := 16) (by decide +kernel) (by decide +kernel)
set_option maxRecDepth 100000 in
theorem wC_X7_countRecords : Cond.code yX7_countRecords cX7_countRecords 3 (some .int) ∈ GG := GG_in (i := 617) (rfl) (by decide +kernel)
theorem wM_X7_258 : Cond.methodLink RX7 258 yX7_countNumbers ∈ GG := GG_in (i := 618) (by decide +kernel) (by decide +kernel)
theorem wI_X7_countNumbers : Cond.instanceMethod yX7_countNumbers ∈ GG := GG_in (i := 620) (by decide +kernel) (by decide +kernel)
theorem wL_X7_countNumbers : Cond.selects RX7 yX7_countNumbers yX7_countNumbers ∈ GG := GG_in (i := 17) (by decide +kernel) (by decide +kernel)
set_option maxRecDepth 100000 in
theorem wC_X7_countNumbers : Cond.code yX7_countNumbers cX7_countNumbers 3 (some .int) ∈ GG := GG_in (i := 621) (rfl) (by decide +kernel)
theorem wM_X7_264 : Cond.methodLink RX7 264 yX7_countFamilies ∈ GG := GG_in (i := 622) (by decide +kernel) (by decide +kernel)
theorem wI_X7_countFamilies : Cond.instanceMethod yX7_countFamilies ∈ GG := GG_in (i := 624) (by decide +kernel) (by decide +kernel)
theorem wL_X7_countFamilies : Cond.selects RX7 yX7_countFamilies yX7_countFamilies ∈ GG := GG_in (i := 18) (by decide +kernel) (by decide +kernel)
set_option maxRecDepth 100000 in
theorem wC_X7_countFamilies : Cond.code yX7_countFamilies cX7_countFamilies 5 (some .int) ∈ GG := GG_in (i := 625) (rfl) (by decide +kernel)
theorem wM_L_122 : Cond.methodLink RL 122 yX8_count ∈ GG := GG_in (i := 1011) (by decide +kernel) (by decide +kernel)
theorem wI_X8_count : Cond.instanceMethod yX8_count ∈ GG := GG_in (i := 1012) (by decide +kernel) (by decide +kernel)
theorem wL_X8_count : Cond.selects RX8 yX8_count yX8_count ∈ GG := GG_in (i := 1013) (by decide +kernel) (by decide +kernel)
set_option maxRecDepth 100000 in
theorem wC_X8_count : Cond.code yX8_count cX8_count 5 (some .int) ∈ GG := GG_in (i := 1014) (rfl) (by decide +kernel)
theorem inX0 : ∀ w ∈ u_ws RX0 TX0 6, w ∈ GG := fun w h => List.mem_filter.mpr ⟨(show ∀ w ∈ u_ws RX0 TX0 6, w ∈ lw_tbl by decide +kernel) w h, (show ∀ w ∈ u_ws RX0 TX0 6, goodWord w = true by decide +kernel) w h⟩
theorem inX1 : ∀ w ∈ u_ws RX1 TX1 3, w ∈ GG := fun w h => List.mem_filter.mpr ⟨(show ∀ w ∈ u_ws RX1 TX1 3, w ∈ lw_tbl by decide +kernel) w h, (show ∀ w ∈ u_ws RX1 TX1 3, goodWord w = true by decide +kernel) w h⟩
theorem inX2 : ∀ w ∈ u_ws RX2 TX2 2, w ∈ GG := fun w h => List.mem_filter.mpr ⟨(show ∀ w ∈ u_ws RX2 TX2 2, w ∈ lw_tbl by decide +kernel) w h, (show ∀ w ∈ u_ws RX2 TX2 2, goodWord w = true by decide +kernel) w h⟩
theorem inX3 : ∀ w ∈ u_ws RX3 TX3 4, w ∈ GG := fun w h => List.mem_filter.mpr ⟨(show ∀ w ∈ u_ws RX3 TX3 4, w ∈ lw_tbl by decide +kernel) w h, (show ∀ w ∈ u_ws RX3 TX3 4, goodWord w = true by decide +kernel) w h⟩
theorem inX4 : ∀ w ∈ u_ws RX4 TX4 3, w ∈ GG := fun w h => List.mem_filter.mpr ⟨(show ∀ w ∈ u_ws RX4 TX4 3, w ∈ lw_tbl by decide +kernel) w h, (show ∀ w ∈ u_ws RX4 TX4 3, goodWord w = true by decide +kernel) w h⟩
theorem inX5 : ∀ w ∈ u_ws RX5 TX5 3, w ∈ GG := fun w h => List.mem_filter.mpr ⟨(show ∀ w ∈ u_ws RX5 TX5 3, w ∈ lw_tbl by decide +kernel) w h, (show ∀ w ∈ u_ws RX5 TX5 3, goodWord w = true by decide +kernel) w h⟩
theorem inX6 : ∀ w ∈ u_ws RX6 TX6 3, w ∈ GG := fun w h => List.mem_filter.mpr ⟨(show ∀ w ∈ u_ws RX6 TX6 3, w ∈ lw_tbl by decide +kernel) w h, (show ∀ w ∈ u_ws RX6 TX6 3, goodWord w = true by decide +kernel) w h⟩
theorem inX7 : ∀ w ∈ u_ws RX7 TX7 13, w ∈ GG := fun w h => List.mem_filter.mpr ⟨(show ∀ w ∈ u_ws RX7 TX7 13, w ∈ lw_tbl by decide +kernel) w h, (show ∀ w ∈ u_ws RX7 TX7 13, goodWord w = true by decide +kernel) w h⟩
theorem inX8 : ∀ w ∈ u_ws RX8 TX8 30, w ∈ GG := fun w h => List.mem_filter.mpr ⟨(show ∀ w ∈ u_ws RX8 TX8 30, w ∈ lw_tbl by decide +kernel) w h, (show ∀ w ∈ u_ws RX8 TX8 30, goodWord w = true by decide +kernel) w h⟩
def NNf : List Cond := [Jvm.Cond.fieldLinkNest "PairSieve" (145 : Nat) "PairSieve$Table" "size" "I" "PairSieve", Jvm.Cond.fieldLinkNest "PairSieve" (267 : Nat) "PairSieve$Measure" "kind" "I" "PairSieve", Jvm.Cond.fieldLinkNest "PairSieve" (270 : Nat) "PairSieve$Measure" "p" "I" "PairSieve", Jvm.Cond.fieldLinkNest "PairSieve" (273 : Nat) "PairSieve$Measure" "q" "I" "PairSieve", Jvm.Cond.fieldLinkNest "PairSieve" (112 : Nat) "PairSieve$Tape" "length" "I" "PairSieve", Jvm.Cond.fieldLinkNest "PairSieve" (124 : Nat) "PairSieve$Tape" "numbers" "[I" "PairSieve", Jvm.Cond.fieldLinkNest "PairSieve" (184 : Nat) "PairSieve$Overlap" "shared" "I" "PairSieve", Jvm.Cond.fieldLinkNest "PairSieve" (283 : Nat) "PairSieve$Overlap" "sharedInBeginnings" "I" "PairSieve", Jvm.Cond.fieldLinkNest "PairSieve" (291 : Nat) "PairSieve$Overlap" "mostByPlaces" "I" "PairSieve", Jvm.Cond.fieldLinkNest "PairSieve" (226 : Nat) "PairSieve$KeptPairs" "first" "[I" "PairSieve", Jvm.Cond.fieldLinkNest "PairSieve" (229 : Nat) "PairSieve$KeptPairs" "second" "[I" "PairSieve", Jvm.Cond.fieldLinkNest "PairSieve" (224 : Nat) "PairSieve$KeptPairs" "shared" "[I" "PairSieve", Jvm.Cond.fieldLinkNest "PairSieve" (216 : Nat) "PairSieve$KeptPairs" "size" "I" "PairSieve", Jvm.Cond.fieldLinkNest "PairSieve$Overlap" (24 : Nat) "PairSieve$NumberSet" "keys" "[I" "PairSieve", Jvm.Cond.fieldLinkNest "PairSieve$Overlap" (28 : Nat) "PairSieve$NumberSet" "weights" "[I" "PairSieve", Jvm.Cond.fieldLinkNest "PairSieve$Overlap" (19 : Nat) "PairSieve$NumberSet" "size" "I" "PairSieve", Jvm.Cond.fieldLinkNest "PairSieve" (132 : Nat) "PairSieve$NumberSet" "size" "I" "PairSieve", Jvm.Cond.fieldLinkNest "PairSieve" (150 : Nat) "PairSieve$NumberSet" "amount" "I" "PairSieve"]
def NNm : List Cond := [Jvm.Cond.methodLinkNest "PairSieve" (29 : Nat) ({ cls := "PairSieve$Measure", name := "<init>", desc := "()V" } : Jvm.MethodName) "PairSieve", Jvm.Cond.methodLinkNest "PairSieve" (36 : Nat) ({ cls := "PairSieve$Tape", name := "<init>", desc := "()V" } : Jvm.MethodName) "PairSieve", Jvm.Cond.methodLinkNest "PairSieve" (43 : Nat) ({ cls := "PairSieve$Overlap", name := "<init>", desc := "()V" } : Jvm.MethodName) "PairSieve", Jvm.Cond.methodLinkNest "PairSieve" (57 : Nat) ({ cls := "PairSieve$KeptPairs", name := "<init>", desc := "()V" } : Jvm.MethodName) "PairSieve", Jvm.Cond.methodLinkNest "PairSieve" (64 : Nat) ({ cls := "PairSieve$Net", name := "<init>", desc := "()V" } : Jvm.MethodName) "PairSieve", Jvm.Cond.methodLinkNest "PairSieve" (73 : Nat) ({ cls := "PairSieve$NumberSet", name := "<init>", desc := "()V" } : Jvm.MethodName) "PairSieve"]
theorem wFn_X7_145 : Jvm.Cond.fieldLinkNest "PairSieve" (145 : Nat) "PairSieve$Table" "size" "I" "PairSieve" ∈ NNf := List.mem_of_getElem? (i := 0) rfl
theorem wFn_X7_267 : Jvm.Cond.fieldLinkNest "PairSieve" (267 : Nat) "PairSieve$Measure" "kind" "I" "PairSieve" ∈ NNf := List.mem_of_getElem? (i := 1) rfl
theorem wFn_X7_270 : Jvm.Cond.fieldLinkNest "PairSieve" (270 : Nat) "PairSieve$Measure" "p" "I" "PairSieve" ∈ NNf := List.mem_of_getElem? (i := 2) rfl
theorem wFn_X7_273 : Jvm.Cond.fieldLinkNest "PairSieve" (273 : Nat) "PairSieve$Measure" "q" "I" "PairSieve" ∈ NNf := List.mem_of_getElem? (i := 3) rfl
theorem wFn_X7_112 : Jvm.Cond.fieldLinkNest "PairSieve" (112 : Nat) "PairSieve$Tape" "length" "I" "PairSieve" ∈ NNf := List.mem_of_getElem? (i := 4) rfl
theorem wFn_X7_124 : Jvm.Cond.fieldLinkNest "PairSieve" (124 : Nat) "PairSieve$Tape" "numbers" "[I" "PairSieve" ∈ NNf := List.mem_of_getElem? (i := 5) rfl
theorem wFn_X7_184 : Jvm.Cond.fieldLinkNest "PairSieve" (184 : Nat) "PairSieve$Overlap" "shared" "I" "PairSieve" ∈ NNf := List.mem_of_getElem? (i := 6) rfl
theorem wFn_X7_283 : Jvm.Cond.fieldLinkNest "PairSieve" (283 : Nat) "PairSieve$Overlap" "sharedInBeginnings" "I" "PairSieve" ∈ NNf := List.mem_of_getElem? (i := 7) rfl
theorem wFn_X7_291 : Jvm.Cond.fieldLinkNest "PairSieve" (291 : Nat) "PairSieve$Overlap" "mostByPlaces" "I" "PairSieve" ∈ NNf := List.mem_of_getElem? (i := 8) rfl
theorem wFn_X7_226 : Jvm.Cond.fieldLinkNest "PairSieve" (226 : Nat) "PairSieve$KeptPairs" "first" "[I" "PairSieve" ∈ NNf := List.mem_of_getElem? (i := 9) rfl
theorem wFn_X7_229 : Jvm.Cond.fieldLinkNest "PairSieve" (229 : Nat) "PairSieve$KeptPairs" "second" "[I" "PairSieve" ∈ NNf := List.mem_of_getElem? (i := 10) rfl
theorem wFn_X7_224 : Jvm.Cond.fieldLinkNest "PairSieve" (224 : Nat) "PairSieve$KeptPairs" "shared" "[I" "PairSieve" ∈ NNf := List.mem_of_getElem? (i := 11) rfl
theorem wFn_X7_216 : Jvm.Cond.fieldLinkNest "PairSieve" (216 : Nat) "PairSieve$KeptPairs" "size" "I" "PairSieve" ∈ NNf := List.mem_of_getElem? (i := 12) rfl
theorem wFn_X4_24 : Jvm.Cond.fieldLinkNest "PairSieve$Overlap" (24 : Nat) "PairSieve$NumberSet" "keys" "[I" "PairSieve" ∈ NNf := List.mem_of_getElem? (i := 13) rfl
theorem wFn_X4_28 : Jvm.Cond.fieldLinkNest "PairSieve$Overlap" (28 : Nat) "PairSieve$NumberSet" "weights" "[I" "PairSieve" ∈ NNf := List.mem_of_getElem? (i := 14) rfl
theorem wFn_X4_19 : Jvm.Cond.fieldLinkNest "PairSieve$Overlap" (19 : Nat) "PairSieve$NumberSet" "size" "I" "PairSieve" ∈ NNf := List.mem_of_getElem? (i := 15) rfl
theorem wFn_X7_132 : Jvm.Cond.fieldLinkNest "PairSieve" (132 : Nat) "PairSieve$NumberSet" "size" "I" "PairSieve" ∈ NNf := List.mem_of_getElem? (i := 16) rfl
theorem wFn_X7_150 : Jvm.Cond.fieldLinkNest "PairSieve" (150 : Nat) "PairSieve$NumberSet" "amount" "I" "PairSieve" ∈ NNf := List.mem_of_getElem? (i := 17) rfl
theorem wMn_X7_29 : Jvm.Cond.methodLinkNest "PairSieve" (29 : Nat) ({ cls := "PairSieve$Measure", name := "<init>", desc := "()V" } : Jvm.MethodName) "PairSieve" ∈ NNm := List.mem_of_getElem? (i := 0) rfl
theorem wMn_X7_36 : Jvm.Cond.methodLinkNest "PairSieve" (36 : Nat) ({ cls := "PairSieve$Tape", name := "<init>", desc := "()V" } : Jvm.MethodName) "PairSieve" ∈ NNm := List.mem_of_getElem? (i := 1) rfl
theorem wMn_X7_43 : Jvm.Cond.methodLinkNest "PairSieve" (43 : Nat) ({ cls := "PairSieve$Overlap", name := "<init>", desc := "()V" } : Jvm.MethodName) "PairSieve" ∈ NNm := List.mem_of_getElem? (i := 2) rfl
theorem wMn_X7_57 : Jvm.Cond.methodLinkNest "PairSieve" (57 : Nat) ({ cls := "PairSieve$KeptPairs", name := "<init>", desc := "()V" } : Jvm.MethodName) "PairSieve" ∈ NNm := List.mem_of_getElem? (i := 3) rfl
theorem wMn_X7_64 : Jvm.Cond.methodLinkNest "PairSieve" (64 : Nat) ({ cls := "PairSieve$Net", name := "<init>", desc := "()V" } : Jvm.MethodName) "PairSieve" ∈ NNm := List.mem_of_getElem? (i := 4) rfl
theorem wMn_X7_73 : Jvm.Cond.methodLinkNest "PairSieve" (73 : Nat) ({ cls := "PairSieve$NumberSet", name := "<init>", desc := "()V" } : Jvm.MethodName) "PairSieve" ∈ NNm := List.mem_of_getElem? (i := 5) rfl
theorem NNf_in : ∀ w ∈ NNf, w ∈ lw_tbl := by decide +kernel
theorem NNm_in : ∀ w ∈ NNm, w ∈ lw_tbl := by decide +kernel
theorem NNf_on : ∀ w ∈ NNf, w.onTables = true := by decide +kernel
theorem NNm_on : ∀ w ∈ NNm, w.onTables = true := by decide +kernel
theorem NNf_is : ∀ w ∈ NNf, ∃ a i b n d x, w = Cond.fieldLinkNest a i b n d x := by
  intro w hw
  simp only [NNf, List.mem_cons, List.not_mem_nil, or_false] at hw
  rcases hw with rfl | rfl | rfl | rfl | rfl | rfl | rfl | rfl | rfl | rfl | rfl | rfl | rfl | rfl | rfl | rfl | rfl | rfl <;> exact ⟨_, _, _, _, _, _, rfl⟩
theorem NNm_is : ∀ w ∈ NNm, ∃ a i b x, w = Cond.methodLinkNest a i b x := by
  intro w hw
  simp only [NNm, List.mem_cons, List.not_mem_nil, or_false] at hw
  rcases hw with rfl | rfl | rfl | rfl | rfl | rfl <;> exact ⟨_, _, _, _, rfl⟩
end
section
theorem dX0_init_0 : decode cX0_init 0 = .ok (.aload_n 0, 1) := by decide +kernel
theorem dX0_init_1 : decode cX0_init 1 = .ok (.invokespecial 3, 3) := by decide +kernel
theorem dX0_init_4 : decode cX0_init 4 = .ok (.aload_n 0, 1) := by decide +kernel
theorem dX0_init_5 : decode cX0_init 5 = .ok (.sipush 1770, 3) := by decide +kernel
theorem dX0_init_8 : decode cX0_init 8 = .ok (.newarray .int, 2) := by decide +kernel
theorem dX0_init_10 : decode cX0_init 10 = .ok (.putfield 9, 3) := by decide +kernel
theorem dX0_init_13 : decode cX0_init 13 = .ok (.aload_n 0, 1) := by decide +kernel
theorem dX0_init_14 : decode cX0_init 14 = .ok (.sipush 1770, 3) := by decide +kernel
theorem dX0_init_17 : decode cX0_init 17 = .ok (.newarray .int, 2) := by decide +kernel
theorem dX0_init_19 : decode cX0_init 19 = .ok (.putfield 15, 3) := by decide +kernel
theorem dX0_init_22 : decode cX0_init 22 = .ok (.aload_n 0, 1) := by decide +kernel
theorem dX0_init_23 : decode cX0_init 23 = .ok (.sipush 1770, 3) := by decide +kernel
theorem dX0_init_26 : decode cX0_init 26 = .ok (.newarray .int, 2) := by decide +kernel
theorem dX0_init_28 : decode cX0_init 28 = .ok (.putfield 18, 3) := by decide +kernel
theorem dX0_init_31 : decode cX0_init 31 = .ok (.aload_n 0, 1) := by decide +kernel
theorem dX0_init_32 : decode cX0_init 32 = .ok (.bipush 100, 2) := by decide +kernel
theorem dX0_init_34 : decode cX0_init 34 = .ok (.newarray .long, 2) := by decide +kernel
theorem dX0_init_36 : decode cX0_init 36 = .ok (.putfield 21, 3) := by decide +kernel
theorem dX0_init_39 : decode cX0_init 39 = .ok (.aload_n 0, 1) := by decide +kernel
theorem dX0_init_40 : decode cX0_init 40 = .ok (.bipush 100, 2) := by decide +kernel
theorem dX0_init_42 : decode cX0_init 42 = .ok (.newarray .long, 2) := by decide +kernel
theorem dX0_init_44 : decode cX0_init 44 = .ok (.putfield 25, 3) := by decide +kernel
theorem dX0_init_47 : decode cX0_init 47 = .ok (.return_, 1) := by decide +kernel
theorem dX0_clear_0 : decode cX0_clear 0 = .ok (.aload_n 0, 1) := by decide +kernel
theorem dX0_clear_1 : decode cX0_clear 1 = .ok (.iconst 0, 1) := by decide +kernel
theorem dX0_clear_2 : decode cX0_clear 2 = .ok (.putfield 28, 3) := by decide +kernel
theorem dX0_clear_5 : decode cX0_clear 5 = .ok (.return_, 1) := by decide +kernel
theorem dX0_append_0 : decode cX0_append 0 = .ok (.aload_n 0, 1) := by decide +kernel
theorem dX0_append_1 : decode cX0_append 1 = .ok (.getfield 28, 3) := by decide +kernel
theorem dX0_append_4 : decode cX0_append 4 = .ok (.sipush 1770, 3) := by decide +kernel
theorem dX0_append_7 : decode cX0_append 7 = .ok (.if_icmp .ge 26, 3) := by decide +kernel
theorem dX0_append_10 : decode cX0_append 10 = .ok (.aload_n 0, 1) := by decide +kernel
theorem dX0_append_11 : decode cX0_append 11 = .ok (.dup, 1) := by decide +kernel
theorem dX0_append_12 : decode cX0_append 12 = .ok (.getfield 28, 3) := by decide +kernel
theorem dX0_append_15 : decode cX0_append 15 = .ok (.iconst 1, 1) := by decide +kernel
theorem dX0_append_16 : decode cX0_append 16 = .ok (.iadd, 1) := by decide +kernel
theorem dX0_append_17 : decode cX0_append 17 = .ok (.putfield 28, 3) := by decide +kernel
theorem dX0_append_20 : decode cX0_append 20 = .ok (.aload_n 0, 1) := by decide +kernel
theorem dX0_append_21 : decode cX0_append 21 = .ok (.aload_n 0, 1) := by decide +kernel
theorem dX0_append_22 : decode cX0_append 22 = .ok (.getfield 28, 3) := by decide +kernel
theorem dX0_append_25 : decode cX0_append 25 = .ok (.iconst 1, 1) := by decide +kernel
theorem dX0_append_26 : decode cX0_append 26 = .ok (.isub, 1) := by decide +kernel
theorem dX0_append_27 : decode cX0_append 27 = .ok (.iload_n 1, 1) := by decide +kernel
theorem dX0_append_28 : decode cX0_append 28 = .ok (.iload_n 2, 1) := by decide +kernel
theorem dX0_append_29 : decode cX0_append 29 = .ok (.iload_n 3, 1) := by decide +kernel
theorem dX0_append_30 : decode cX0_append 30 = .ok (.invokevirtual 32, 3) := by decide +kernel
theorem dX0_append_33 : decode cX0_append 33 = .ok (.return_, 1) := by decide +kernel
theorem dX0_set_0 : decode cX0_set 0 = .ok (.iload_n 1, 1) := by decide +kernel
theorem dX0_set_1 : decode cX0_set 1 = .ok (.ifCond .lt 33, 3) := by decide +kernel
theorem dX0_set_4 : decode cX0_set 4 = .ok (.iload_n 1, 1) := by decide +kernel
theorem dX0_set_5 : decode cX0_set 5 = .ok (.aload_n 0, 1) := by decide +kernel
theorem dX0_set_6 : decode cX0_set 6 = .ok (.getfield 28, 3) := by decide +kernel
theorem dX0_set_9 : decode cX0_set 9 = .ok (.if_icmp .ge 25, 3) := by decide +kernel
theorem dX0_set_12 : decode cX0_set 12 = .ok (.aload_n 0, 1) := by decide +kernel
theorem dX0_set_13 : decode cX0_set 13 = .ok (.getfield 9, 3) := by decide +kernel
theorem dX0_set_16 : decode cX0_set 16 = .ok (.iload_n 1, 1) := by decide +kernel
theorem dX0_set_17 : decode cX0_set 17 = .ok (.iload_n 2, 1) := by decide +kernel
theorem dX0_set_18 : decode cX0_set 18 = .ok (.iastore, 1) := by decide +kernel
theorem dX0_set_19 : decode cX0_set 19 = .ok (.aload_n 0, 1) := by decide +kernel
theorem dX0_set_20 : decode cX0_set 20 = .ok (.getfield 15, 3) := by decide +kernel
theorem dX0_set_23 : decode cX0_set 23 = .ok (.iload_n 1, 1) := by decide +kernel
theorem dX0_set_24 : decode cX0_set 24 = .ok (.iload_n 3, 1) := by decide +kernel
theorem dX0_set_25 : decode cX0_set 25 = .ok (.iastore, 1) := by decide +kernel
theorem dX0_set_26 : decode cX0_set 26 = .ok (.aload_n 0, 1) := by decide +kernel
theorem dX0_set_27 : decode cX0_set 27 = .ok (.getfield 18, 3) := by decide +kernel
theorem dX0_set_30 : decode cX0_set 30 = .ok (.iload_n 1, 1) := by decide +kernel
theorem dX0_set_31 : decode cX0_set 31 = .ok (.iload 4, 2) := by decide +kernel
theorem dX0_set_33 : decode cX0_set 33 = .ok (.iastore, 1) := by decide +kernel
theorem dX0_set_34 : decode cX0_set 34 = .ok (.return_, 1) := by decide +kernel
theorem dX0_setLikeness_0 : decode cX0_setLikeness 0 = .ok (.iload_n 1, 1) := by decide +kernel
theorem dX0_setLikeness_1 : decode cX0_setLikeness 1 = .ok (.ifCond .lt 24, 3) := by decide +kernel
theorem dX0_setLikeness_4 : decode cX0_setLikeness 4 = .ok (.iload_n 1, 1) := by decide +kernel
theorem dX0_setLikeness_5 : decode cX0_setLikeness 5 = .ok (.bipush 100, 2) := by decide +kernel
theorem dX0_setLikeness_7 : decode cX0_setLikeness 7 = .ok (.if_icmp .ge 18, 3) := by decide +kernel
theorem dX0_setLikeness_10 : decode cX0_setLikeness 10 = .ok (.aload_n 0, 1) := by decide +kernel
theorem dX0_setLikeness_11 : decode cX0_setLikeness 11 = .ok (.getfield 21, 3) := by decide +kernel
theorem dX0_setLikeness_14 : decode cX0_setLikeness 14 = .ok (.iload_n 1, 1) := by decide +kernel
theorem dX0_setLikeness_15 : decode cX0_setLikeness 15 = .ok (.lload_n 2, 1) := by decide +kernel
theorem dX0_setLikeness_16 : decode cX0_setLikeness 16 = .ok (.lastore, 1) := by decide +kernel
theorem dX0_setLikeness_17 : decode cX0_setLikeness 17 = .ok (.aload_n 0, 1) := by decide +kernel
theorem dX0_setLikeness_18 : decode cX0_setLikeness 18 = .ok (.getfield 25, 3) := by decide +kernel
theorem dX0_setLikeness_21 : decode cX0_setLikeness 21 = .ok (.iload_n 1, 1) := by decide +kernel
theorem dX0_setLikeness_22 : decode cX0_setLikeness 22 = .ok (.lload 4, 2) := by decide +kernel
theorem dX0_setLikeness_24 : decode cX0_setLikeness 24 = .ok (.lastore, 1) := by decide +kernel
theorem dX0_setLikeness_25 : decode cX0_setLikeness 25 = .ok (.return_, 1) := by decide +kernel
theorem dX0_placeFor_0 : decode cX0_placeFor 0 = .ok (.iconst 0, 1) := by decide +kernel
theorem dX0_placeFor_1 : decode cX0_placeFor 1 = .ok (.istore 5, 2) := by decide +kernel
theorem dX0_placeFor_3 : decode cX0_placeFor 3 = .ok (.aload_n 0, 1) := by decide +kernel
theorem dX0_placeFor_4 : decode cX0_placeFor 4 = .ok (.getfield 28, 3) := by decide +kernel
theorem dX0_placeFor_7 : decode cX0_placeFor 7 = .ok (.bipush 100, 2) := by decide +kernel
theorem dX0_placeFor_9 : decode cX0_placeFor 9 = .ok (.invokestatic 36, 3) := by decide +kernel
theorem dX0_placeFor_12 : decode cX0_placeFor 12 = .ok (.istore 6, 2) := by decide +kernel
theorem dX0_placeFor_14 : decode cX0_placeFor 14 = .ok (.iload 5, 2) := by decide +kernel
theorem dX0_placeFor_16 : decode cX0_placeFor 16 = .ok (.iload 6, 2) := by decide +kernel
theorem dX0_placeFor_18 : decode cX0_placeFor 18 = .ok (.if_icmp .ge 50, 3) := by decide +kernel
theorem dX0_placeFor_21 : decode cX0_placeFor 21 = .ok (.iload 5, 2) := by decide +kernel
theorem dX0_placeFor_23 : decode cX0_placeFor 23 = .ok (.iload 6, 2) := by decide +kernel
theorem dX0_placeFor_25 : decode cX0_placeFor 25 = .ok (.iadd, 1) := by decide +kernel
theorem dX0_placeFor_26 : decode cX0_placeFor 26 = .ok (.iconst 1, 1) := by decide +kernel
theorem dX0_placeFor_27 : decode cX0_placeFor 27 = .ok (.iushr, 1) := by decide +kernel
theorem dX0_placeFor_28 : decode cX0_placeFor 28 = .ok (.istore 7, 2) := by decide +kernel
theorem dX0_placeFor_30 : decode cX0_placeFor 30 = .ok (.aload_n 0, 1) := by decide +kernel
theorem dX0_placeFor_31 : decode cX0_placeFor 31 = .ok (.getfield 21, 3) := by decide +kernel
theorem dX0_placeFor_34 : decode cX0_placeFor 34 = .ok (.iload 7, 2) := by decide +kernel
theorem dX0_placeFor_36 : decode cX0_placeFor 36 = .ok (.laload, 1) := by decide +kernel
theorem dX0_placeFor_37 : decode cX0_placeFor 37 = .ok (.lload_n 3, 1) := by decide +kernel
theorem dX0_placeFor_38 : decode cX0_placeFor 38 = .ok (.lmul, 1) := by decide +kernel
theorem dX0_placeFor_39 : decode cX0_placeFor 39 = .ok (.lload_n 1, 1) := by decide +kernel
theorem dX0_placeFor_40 : decode cX0_placeFor 40 = .ok (.aload_n 0, 1) := by decide +kernel
theorem dX0_placeFor_41 : decode cX0_placeFor 41 = .ok (.getfield 25, 3) := by decide +kernel
theorem dX0_placeFor_44 : decode cX0_placeFor 44 = .ok (.iload 7, 2) := by decide +kernel
theorem dX0_placeFor_46 : decode cX0_placeFor 46 = .ok (.laload, 1) := by decide +kernel
theorem dX0_placeFor_47 : decode cX0_placeFor 47 = .ok (.lmul, 1) := by decide +kernel
theorem dX0_placeFor_48 : decode cX0_placeFor 48 = .ok (.lcmp, 1) := by decide +kernel
theorem dX0_placeFor_49 : decode cX0_placeFor 49 = .ok (.ifCond .lt 12, 3) := by decide +kernel
theorem dX0_placeFor_52 : decode cX0_placeFor 52 = .ok (.iload 7, 2) := by decide +kernel
theorem dX0_placeFor_54 : decode cX0_placeFor 54 = .ok (.iconst 1, 1) := by decide +kernel
theorem dX0_placeFor_55 : decode cX0_placeFor 55 = .ok (.iadd, 1) := by decide +kernel
theorem dX0_placeFor_56 : decode cX0_placeFor 56 = .ok (.istore 5, 2) := by decide +kernel
theorem dX0_placeFor_58 : decode cX0_placeFor 58 = .ok (.goto 7, 3) := by decide +kernel
theorem dX0_placeFor_61 : decode cX0_placeFor 61 = .ok (.iload 7, 2) := by decide +kernel
theorem dX0_placeFor_63 : decode cX0_placeFor 63 = .ok (.istore 6, 2) := by decide +kernel
theorem dX0_placeFor_65 : decode cX0_placeFor 65 = .ok (.goto (-51), 3) := by decide +kernel
theorem dX0_placeFor_68 : decode cX0_placeFor 68 = .ok (.iload 5, 2) := by decide +kernel
theorem dX0_placeFor_70 : decode cX0_placeFor 70 = .ok (.ireturn, 1) := by decide +kernel
theorem dX0_makeRoom_0 : decode cX0_makeRoom 0 = .ok (.iload_n 1, 1) := by decide +kernel
theorem dX0_makeRoom_1 : decode cX0_makeRoom 1 = .ok (.ifCond .lt 22, 3) := by decide +kernel
theorem dX0_makeRoom_4 : decode cX0_makeRoom 4 = .ok (.iload_n 1, 1) := by decide +kernel
theorem dX0_makeRoom_5 : decode cX0_makeRoom 5 = .ok (.aload_n 0, 1) := by decide +kernel
theorem dX0_makeRoom_6 : decode cX0_makeRoom 6 = .ok (.getfield 28, 3) := by decide +kernel
theorem dX0_makeRoom_9 : decode cX0_makeRoom 9 = .ok (.if_icmp .gt 14, 3) := by decide +kernel
theorem dX0_makeRoom_12 : decode cX0_makeRoom 12 = .ok (.iload_n 1, 1) := by decide +kernel
theorem dX0_makeRoom_13 : decode cX0_makeRoom 13 = .ok (.iload_n 2, 1) := by decide +kernel
theorem dX0_makeRoom_14 : decode cX0_makeRoom 14 = .ok (.if_icmp .ge 9, 3) := by decide +kernel
theorem dX0_makeRoom_17 : decode cX0_makeRoom 17 = .ok (.iload_n 2, 1) := by decide +kernel
theorem dX0_makeRoom_18 : decode cX0_makeRoom 18 = .ok (.bipush 100, 2) := by decide +kernel
theorem dX0_makeRoom_20 : decode cX0_makeRoom 20 = .ok (.if_icmp .le 4, 3) := by decide +kernel
theorem dX0_makeRoom_23 : decode cX0_makeRoom 23 = .ok (.return_, 1) := by decide +kernel
theorem dX0_makeRoom_24 : decode cX0_makeRoom 24 = .ok (.aload_n 0, 1) := by decide +kernel
theorem dX0_makeRoom_25 : decode cX0_makeRoom 25 = .ok (.getfield 28, 3) := by decide +kernel
theorem dX0_makeRoom_28 : decode cX0_makeRoom 28 = .ok (.iload_n 2, 1) := by decide +kernel
theorem dX0_makeRoom_29 : decode cX0_makeRoom 29 = .ok (.iconst 1, 1) := by decide +kernel
theorem dX0_makeRoom_30 : decode cX0_makeRoom 30 = .ok (.isub, 1) := by decide +kernel
theorem dX0_makeRoom_31 : decode cX0_makeRoom 31 = .ok (.invokestatic 36, 3) := by decide +kernel
theorem dX0_makeRoom_34 : decode cX0_makeRoom 34 = .ok (.iload_n 1, 1) := by decide +kernel
theorem dX0_makeRoom_35 : decode cX0_makeRoom 35 = .ok (.isub, 1) := by decide +kernel
theorem dX0_makeRoom_36 : decode cX0_makeRoom 36 = .ok (.istore_n 3, 1) := by decide +kernel
theorem dX0_makeRoom_37 : decode cX0_makeRoom 37 = .ok (.aload_n 0, 1) := by decide +kernel
theorem dX0_makeRoom_38 : decode cX0_makeRoom 38 = .ok (.getfield 9, 3) := by decide +kernel
theorem dX0_makeRoom_41 : decode cX0_makeRoom 41 = .ok (.iload_n 1, 1) := by decide +kernel
theorem dX0_makeRoom_42 : decode cX0_makeRoom 42 = .ok (.aload_n 0, 1) := by decide +kernel
theorem dX0_makeRoom_43 : decode cX0_makeRoom 43 = .ok (.getfield 9, 3) := by decide +kernel
theorem dX0_makeRoom_46 : decode cX0_makeRoom 46 = .ok (.iload_n 1, 1) := by decide +kernel
theorem dX0_makeRoom_47 : decode cX0_makeRoom 47 = .ok (.iconst 1, 1) := by decide +kernel
theorem dX0_makeRoom_48 : decode cX0_makeRoom 48 = .ok (.iadd, 1) := by decide +kernel
theorem dX0_makeRoom_49 : decode cX0_makeRoom 49 = .ok (.iload_n 3, 1) := by decide +kernel
theorem dX0_makeRoom_50 : decode cX0_makeRoom 50 = .ok (.invokestatic 42, 3) := by decide +kernel
theorem dX0_makeRoom_53 : decode cX0_makeRoom 53 = .ok (.aload_n 0, 1) := by decide +kernel
theorem dX0_makeRoom_54 : decode cX0_makeRoom 54 = .ok (.getfield 15, 3) := by decide +kernel
theorem dX0_makeRoom_57 : decode cX0_makeRoom 57 = .ok (.iload_n 1, 1) := by decide +kernel
theorem dX0_makeRoom_58 : decode cX0_makeRoom 58 = .ok (.aload_n 0, 1) := by decide +kernel
theorem dX0_makeRoom_59 : decode cX0_makeRoom 59 = .ok (.getfield 15, 3) := by decide +kernel
theorem dX0_makeRoom_62 : decode cX0_makeRoom 62 = .ok (.iload_n 1, 1) := by decide +kernel
theorem dX0_makeRoom_63 : decode cX0_makeRoom 63 = .ok (.iconst 1, 1) := by decide +kernel
theorem dX0_makeRoom_64 : decode cX0_makeRoom 64 = .ok (.iadd, 1) := by decide +kernel
theorem dX0_makeRoom_65 : decode cX0_makeRoom 65 = .ok (.iload_n 3, 1) := by decide +kernel
theorem dX0_makeRoom_66 : decode cX0_makeRoom 66 = .ok (.invokestatic 42, 3) := by decide +kernel
theorem dX0_makeRoom_69 : decode cX0_makeRoom 69 = .ok (.aload_n 0, 1) := by decide +kernel
theorem dX0_makeRoom_70 : decode cX0_makeRoom 70 = .ok (.getfield 18, 3) := by decide +kernel
theorem dX0_makeRoom_73 : decode cX0_makeRoom 73 = .ok (.iload_n 1, 1) := by decide +kernel
theorem dX0_makeRoom_74 : decode cX0_makeRoom 74 = .ok (.aload_n 0, 1) := by decide +kernel
theorem dX0_makeRoom_75 : decode cX0_makeRoom 75 = .ok (.getfield 18, 3) := by decide +kernel
theorem dX0_makeRoom_78 : decode cX0_makeRoom 78 = .ok (.iload_n 1, 1) := by decide +kernel
theorem dX0_makeRoom_79 : decode cX0_makeRoom 79 = .ok (.iconst 1, 1) := by decide +kernel
theorem dX0_makeRoom_80 : decode cX0_makeRoom 80 = .ok (.iadd, 1) := by decide +kernel
theorem dX0_makeRoom_81 : decode cX0_makeRoom 81 = .ok (.iload_n 3, 1) := by decide +kernel
theorem dX0_makeRoom_82 : decode cX0_makeRoom 82 = .ok (.invokestatic 42, 3) := by decide +kernel
theorem dX0_makeRoom_85 : decode cX0_makeRoom 85 = .ok (.aload_n 0, 1) := by decide +kernel
theorem dX0_makeRoom_86 : decode cX0_makeRoom 86 = .ok (.getfield 21, 3) := by decide +kernel
theorem dX0_makeRoom_89 : decode cX0_makeRoom 89 = .ok (.iload_n 1, 1) := by decide +kernel
theorem dX0_makeRoom_90 : decode cX0_makeRoom 90 = .ok (.aload_n 0, 1) := by decide +kernel
theorem dX0_makeRoom_91 : decode cX0_makeRoom 91 = .ok (.getfield 21, 3) := by decide +kernel
theorem dX0_makeRoom_94 : decode cX0_makeRoom 94 = .ok (.iload_n 1, 1) := by decide +kernel
theorem dX0_makeRoom_95 : decode cX0_makeRoom 95 = .ok (.iconst 1, 1) := by decide +kernel
theorem dX0_makeRoom_96 : decode cX0_makeRoom 96 = .ok (.iadd, 1) := by decide +kernel
theorem dX0_makeRoom_97 : decode cX0_makeRoom 97 = .ok (.iload_n 3, 1) := by decide +kernel
theorem dX0_makeRoom_98 : decode cX0_makeRoom 98 = .ok (.invokestatic 42, 3) := by decide +kernel
theorem dX0_makeRoom_101 : decode cX0_makeRoom 101 = .ok (.aload_n 0, 1) := by decide +kernel
theorem dX0_makeRoom_102 : decode cX0_makeRoom 102 = .ok (.getfield 25, 3) := by decide +kernel
theorem dX0_makeRoom_105 : decode cX0_makeRoom 105 = .ok (.iload_n 1, 1) := by decide +kernel
theorem dX0_makeRoom_106 : decode cX0_makeRoom 106 = .ok (.aload_n 0, 1) := by decide +kernel
theorem dX0_makeRoom_107 : decode cX0_makeRoom 107 = .ok (.getfield 25, 3) := by decide +kernel
theorem dX0_makeRoom_110 : decode cX0_makeRoom 110 = .ok (.iload_n 1, 1) := by decide +kernel
theorem dX0_makeRoom_111 : decode cX0_makeRoom 111 = .ok (.iconst 1, 1) := by decide +kernel
theorem dX0_makeRoom_112 : decode cX0_makeRoom 112 = .ok (.iadd, 1) := by decide +kernel
theorem dX0_makeRoom_113 : decode cX0_makeRoom 113 = .ok (.iload_n 3, 1) := by decide +kernel
theorem dX0_makeRoom_114 : decode cX0_makeRoom 114 = .ok (.invokestatic 42, 3) := by decide +kernel
theorem dX0_makeRoom_117 : decode cX0_makeRoom 117 = .ok (.aload_n 0, 1) := by decide +kernel
theorem dX0_makeRoom_118 : decode cX0_makeRoom 118 = .ok (.iload_n 1, 1) := by decide +kernel
theorem dX0_makeRoom_119 : decode cX0_makeRoom 119 = .ok (.iload_n 3, 1) := by decide +kernel
theorem dX0_makeRoom_120 : decode cX0_makeRoom 120 = .ok (.iadd, 1) := by decide +kernel
theorem dX0_makeRoom_121 : decode cX0_makeRoom 121 = .ok (.iconst 1, 1) := by decide +kernel
theorem dX0_makeRoom_122 : decode cX0_makeRoom 122 = .ok (.iadd, 1) := by decide +kernel
theorem dX0_makeRoom_123 : decode cX0_makeRoom 123 = .ok (.putfield 28, 3) := by decide +kernel
theorem dX0_makeRoom_126 : decode cX0_makeRoom 126 = .ok (.return_, 1) := by decide +kernel
theorem dX1_init_0 : decode cX1_init 0 = .ok (.aload_n 0, 1) := by decide +kernel
theorem dX1_init_1 : decode cX1_init 1 = .ok (.invokespecial 3, 3) := by decide +kernel
theorem dX1_init_4 : decode cX1_init 4 = .ok (.aload_n 0, 1) := by decide +kernel
theorem dX1_init_5 : decode cX1_init 5 = .ok (.iconst 1, 1) := by decide +kernel
theorem dX1_init_6 : decode cX1_init 6 = .ok (.putfield 9, 3) := by decide +kernel
theorem dX1_init_9 : decode cX1_init 9 = .ok (.aload_n 0, 1) := by decide +kernel
theorem dX1_init_10 : decode cX1_init 10 = .ok (.iconst 1, 1) := by decide +kernel
theorem dX1_init_11 : decode cX1_init 11 = .ok (.putfield 15, 3) := by decide +kernel
theorem dX1_init_14 : decode cX1_init 14 = .ok (.aload_n 0, 1) := by decide +kernel
theorem dX1_init_15 : decode cX1_init 15 = .ok (.iconst 2, 1) := by decide +kernel
theorem dX1_init_16 : decode cX1_init 16 = .ok (.putfield 18, 3) := by decide +kernel
theorem dX1_init_19 : decode cX1_init 19 = .ok (.return_, 1) := by decide +kernel
theorem dX1_tell_0 : decode cX1_tell 0 = .ok (.iload_n 1, 1) := by decide +kernel
theorem dX1_tell_1 : decode cX1_tell 1 = .ok (.iload_n 2, 1) := by decide +kernel
theorem dX1_tell_2 : decode cX1_tell 2 = .ok (.iload_n 3, 1) := by decide +kernel
theorem dX1_tell_3 : decode cX1_tell 3 = .ok (.invokestatic 21, 3) := by decide +kernel
theorem dX1_tell_6 : decode cX1_tell 6 = .ok (.ifCond .ne 5, 3) := by decide +kernel
theorem dX1_tell_9 : decode cX1_tell 9 = .ok (.iconst 0, 1) := by decide +kernel
theorem dX1_tell_10 : decode cX1_tell 10 = .ok (.ireturn, 1) := by decide +kernel
theorem dX1_tell_11 : decode cX1_tell 11 = .ok (.aload_n 0, 1) := by decide +kernel
theorem dX1_tell_12 : decode cX1_tell 12 = .ok (.iload_n 1, 1) := by decide +kernel
theorem dX1_tell_13 : decode cX1_tell 13 = .ok (.putfield 9, 3) := by decide +kernel
theorem dX1_tell_16 : decode cX1_tell 16 = .ok (.aload_n 0, 1) := by decide +kernel
theorem dX1_tell_17 : decode cX1_tell 17 = .ok (.iload_n 2, 1) := by decide +kernel
theorem dX1_tell_18 : decode cX1_tell 18 = .ok (.putfield 15, 3) := by decide +kernel
theorem dX1_tell_21 : decode cX1_tell 21 = .ok (.aload_n 0, 1) := by decide +kernel
theorem dX1_tell_22 : decode cX1_tell 22 = .ok (.iload_n 3, 1) := by decide +kernel
theorem dX1_tell_23 : decode cX1_tell 23 = .ok (.putfield 18, 3) := by decide +kernel
theorem dX1_tell_26 : decode cX1_tell 26 = .ok (.iconst 1, 1) := by decide +kernel
theorem dX1_tell_27 : decode cX1_tell 27 = .ok (.ireturn, 1) := by decide +kernel
theorem dX1_isAllowed_0 : decode cX1_isAllowed 0 = .ok (.iload_n 0, 1) := by decide +kernel
theorem dX1_isAllowed_1 : decode cX1_isAllowed 1 = .ok (.ifCond .ne 26, 3) := by decide +kernel
theorem dX1_isAllowed_4 : decode cX1_isAllowed 4 = .ok (.iload_n 1, 1) := by decide +kernel
theorem dX1_isAllowed_5 : decode cX1_isAllowed 5 = .ok (.iconst 1, 1) := by decide +kernel
theorem dX1_isAllowed_6 : decode cX1_isAllowed 6 = .ok (.if_icmp .lt 19, 3) := by decide +kernel
theorem dX1_isAllowed_9 : decode cX1_isAllowed 9 = .ok (.iload_n 1, 1) := by decide +kernel
theorem dX1_isAllowed_10 : decode cX1_isAllowed 10 = .ok (.sipush 3000, 3) := by decide +kernel
theorem dX1_isAllowed_13 : decode cX1_isAllowed 13 = .ok (.if_icmp .gt 12, 3) := by decide +kernel
theorem dX1_isAllowed_16 : decode cX1_isAllowed 16 = .ok (.iload_n 2, 1) := by decide +kernel
theorem dX1_isAllowed_17 : decode cX1_isAllowed 17 = .ok (.iconst 1, 1) := by decide +kernel
theorem dX1_isAllowed_18 : decode cX1_isAllowed 18 = .ok (.if_icmp .ne 7, 3) := by decide +kernel
theorem dX1_isAllowed_21 : decode cX1_isAllowed 21 = .ok (.iconst 1, 1) := by decide +kernel
theorem dX1_isAllowed_22 : decode cX1_isAllowed 22 = .ok (.goto 4, 3) := by decide +kernel
theorem dX1_isAllowed_25 : decode cX1_isAllowed 25 = .ok (.iconst 0, 1) := by decide +kernel
theorem dX1_isAllowed_26 : decode cX1_isAllowed 26 = .ok (.ireturn, 1) := by decide +kernel
theorem dX1_isAllowed_27 : decode cX1_isAllowed 27 = .ok (.iload_n 0, 1) := by decide +kernel
theorem dX1_isAllowed_28 : decode cX1_isAllowed 28 = .ok (.iconst 1, 1) := by decide +kernel
theorem dX1_isAllowed_29 : decode cX1_isAllowed 29 = .ok (.if_icmp .lt 29, 3) := by decide +kernel
theorem dX1_isAllowed_32 : decode cX1_isAllowed 32 = .ok (.iload_n 0, 1) := by decide +kernel
theorem dX1_isAllowed_33 : decode cX1_isAllowed 33 = .ok (.iconst 5, 1) := by decide +kernel
theorem dX1_isAllowed_34 : decode cX1_isAllowed 34 = .ok (.if_icmp .gt 24, 3) := by decide +kernel
theorem dX1_isAllowed_37 : decode cX1_isAllowed 37 = .ok (.iload_n 1, 1) := by decide +kernel
theorem dX1_isAllowed_38 : decode cX1_isAllowed 38 = .ok (.iconst 1, 1) := by decide +kernel
theorem dX1_isAllowed_39 : decode cX1_isAllowed 39 = .ok (.if_icmp .lt 19, 3) := by decide +kernel
theorem dX1_isAllowed_42 : decode cX1_isAllowed 42 = .ok (.iload_n 1, 1) := by decide +kernel
theorem dX1_isAllowed_43 : decode cX1_isAllowed 43 = .ok (.iload_n 2, 1) := by decide +kernel
theorem dX1_isAllowed_44 : decode cX1_isAllowed 44 = .ok (.if_icmp .gt 14, 3) := by decide +kernel
theorem dX1_isAllowed_47 : decode cX1_isAllowed 47 = .ok (.iload_n 2, 1) := by decide +kernel
theorem dX1_isAllowed_48 : decode cX1_isAllowed 48 = .ok (.sipush 1000, 3) := by decide +kernel
theorem dX1_isAllowed_51 : decode cX1_isAllowed 51 = .ok (.if_icmp .gt 7, 3) := by decide +kernel
theorem dX1_isAllowed_54 : decode cX1_isAllowed 54 = .ok (.iconst 1, 1) := by decide +kernel
theorem dX1_isAllowed_55 : decode cX1_isAllowed 55 = .ok (.goto 4, 3) := by decide +kernel
theorem dX1_isAllowed_58 : decode cX1_isAllowed 58 = .ok (.iconst 0, 1) := by decide +kernel
theorem dX1_isAllowed_59 : decode cX1_isAllowed 59 = .ok (.ireturn, 1) := by decide +kernel
theorem dX1_needed_0 : decode cX1_needed 0 = .ok (.aload_n 0, 1) := by decide +kernel
theorem dX1_needed_1 : decode cX1_needed 1 = .ok (.getfield 9, 3) := by decide +kernel
theorem dX1_needed_4 : decode cX1_needed 4 = .ok (.tableswitch 114 0 4 #[36, 114, 42, 64, 94], 36) := by decide +kernel
theorem dX1_needed_40 : decode cX1_needed 40 = .ok (.aload_n 0, 1) := by decide +kernel
theorem dX1_needed_41 : decode cX1_needed 41 = .ok (.getfield 15, 3) := by decide +kernel
theorem dX1_needed_44 : decode cX1_needed 44 = .ok (.i2l, 1) := by decide +kernel
theorem dX1_needed_45 : decode cX1_needed 45 = .ok (.lreturn, 1) := by decide +kernel
theorem dX1_needed_46 : decode cX1_needed 46 = .ok (.aload_n 0, 1) := by decide +kernel
theorem dX1_needed_47 : decode cX1_needed 47 = .ok (.getfield 15, 3) := by decide +kernel
theorem dX1_needed_50 : decode cX1_needed 50 = .ok (.i2l, 1) := by decide +kernel
theorem dX1_needed_51 : decode cX1_needed 51 = .ok (.lload_n 1, 1) := by decide +kernel
theorem dX1_needed_52 : decode cX1_needed 52 = .ok (.lload_n 3, 1) := by decide +kernel
theorem dX1_needed_53 : decode cX1_needed 53 = .ok (.ladd, 1) := by decide +kernel
theorem dX1_needed_54 : decode cX1_needed 54 = .ok (.lmul, 1) := by decide +kernel
theorem dX1_needed_55 : decode cX1_needed 55 = .ok (.ldc2_w 25, 3) := by decide +kernel
theorem dX1_needed_58 : decode cX1_needed 58 = .ok (.aload_n 0, 1) := by decide +kernel
theorem dX1_needed_59 : decode cX1_needed 59 = .ok (.getfield 18, 3) := by decide +kernel
theorem dX1_needed_62 : decode cX1_needed 62 = .ok (.i2l, 1) := by decide +kernel
theorem dX1_needed_63 : decode cX1_needed 63 = .ok (.lmul, 1) := by decide +kernel
theorem dX1_needed_64 : decode cX1_needed 64 = .ok (.invokestatic 27, 3) := by decide +kernel
theorem dX1_needed_67 : decode cX1_needed 67 = .ok (.lreturn, 1) := by decide +kernel
theorem dX1_needed_68 : decode cX1_needed 68 = .ok (.aload_n 0, 1) := by decide +kernel
theorem dX1_needed_69 : decode cX1_needed 69 = .ok (.getfield 15, 3) := by decide +kernel
theorem dX1_needed_72 : decode cX1_needed 72 = .ok (.i2l, 1) := by decide +kernel
theorem dX1_needed_73 : decode cX1_needed 73 = .ok (.aload_n 0, 1) := by decide +kernel
theorem dX1_needed_74 : decode cX1_needed 74 = .ok (.getfield 15, 3) := by decide +kernel
theorem dX1_needed_77 : decode cX1_needed 77 = .ok (.i2l, 1) := by decide +kernel
theorem dX1_needed_78 : decode cX1_needed 78 = .ok (.lmul, 1) := by decide +kernel
theorem dX1_needed_79 : decode cX1_needed 79 = .ok (.lload_n 1, 1) := by decide +kernel
theorem dX1_needed_80 : decode cX1_needed 80 = .ok (.lmul, 1) := by decide +kernel
theorem dX1_needed_81 : decode cX1_needed 81 = .ok (.lload_n 3, 1) := by decide +kernel
theorem dX1_needed_82 : decode cX1_needed 82 = .ok (.lmul, 1) := by decide +kernel
theorem dX1_needed_83 : decode cX1_needed 83 = .ok (.aload_n 0, 1) := by decide +kernel
theorem dX1_needed_84 : decode cX1_needed 84 = .ok (.getfield 18, 3) := by decide +kernel
theorem dX1_needed_87 : decode cX1_needed 87 = .ok (.i2l, 1) := by decide +kernel
theorem dX1_needed_88 : decode cX1_needed 88 = .ok (.aload_n 0, 1) := by decide +kernel
theorem dX1_needed_89 : decode cX1_needed 89 = .ok (.getfield 18, 3) := by decide +kernel
theorem dX1_needed_92 : decode cX1_needed 92 = .ok (.i2l, 1) := by decide +kernel
theorem dX1_needed_93 : decode cX1_needed 93 = .ok (.lmul, 1) := by decide +kernel
theorem dX1_needed_94 : decode cX1_needed 94 = .ok (.invokestatic 31, 3) := by decide +kernel
theorem dX1_needed_97 : decode cX1_needed 97 = .ok (.lreturn, 1) := by decide +kernel
theorem dX1_needed_98 : decode cX1_needed 98 = .ok (.aload_n 0, 1) := by decide +kernel
theorem dX1_needed_99 : decode cX1_needed 99 = .ok (.getfield 15, 3) := by decide +kernel
theorem dX1_needed_102 : decode cX1_needed 102 = .ok (.i2l, 1) := by decide +kernel
theorem dX1_needed_103 : decode cX1_needed 103 = .ok (.lload_n 1, 1) := by decide +kernel
theorem dX1_needed_104 : decode cX1_needed 104 = .ok (.lload_n 3, 1) := by decide +kernel
theorem dX1_needed_105 : decode cX1_needed 105 = .ok (.invokestatic 34, 3) := by decide +kernel
theorem dX1_needed_108 : decode cX1_needed 108 = .ok (.lmul, 1) := by decide +kernel
theorem dX1_needed_109 : decode cX1_needed 109 = .ok (.aload_n 0, 1) := by decide +kernel
theorem dX1_needed_110 : decode cX1_needed 110 = .ok (.getfield 18, 3) := by decide +kernel
theorem dX1_needed_113 : decode cX1_needed 113 = .ok (.i2l, 1) := by decide +kernel
theorem dX1_needed_114 : decode cX1_needed 114 = .ok (.invokestatic 27, 3) := by decide +kernel
theorem dX1_needed_117 : decode cX1_needed 117 = .ok (.lreturn, 1) := by decide +kernel
theorem dX1_needed_118 : decode cX1_needed 118 = .ok (.aload_n 0, 1) := by decide +kernel
theorem dX1_needed_119 : decode cX1_needed 119 = .ok (.getfield 15, 3) := by decide +kernel
theorem dX1_needed_122 : decode cX1_needed 122 = .ok (.i2l, 1) := by decide +kernel
theorem dX1_needed_123 : decode cX1_needed 123 = .ok (.lload_n 1, 1) := by decide +kernel
theorem dX1_needed_124 : decode cX1_needed 124 = .ok (.lload_n 3, 1) := by decide +kernel
theorem dX1_needed_125 : decode cX1_needed 125 = .ok (.ladd, 1) := by decide +kernel
theorem dX1_needed_126 : decode cX1_needed 126 = .ok (.lmul, 1) := by decide +kernel
theorem dX1_needed_127 : decode cX1_needed 127 = .ok (.aload_n 0, 1) := by decide +kernel
theorem dX1_needed_128 : decode cX1_needed 128 = .ok (.getfield 15, 3) := by decide +kernel
theorem dX1_needed_131 : decode cX1_needed 131 = .ok (.aload_n 0, 1) := by decide +kernel
theorem dX1_needed_132 : decode cX1_needed 132 = .ok (.getfield 18, 3) := by decide +kernel
theorem dX1_needed_135 : decode cX1_needed 135 = .ok (.iadd, 1) := by decide +kernel
theorem dX1_needed_136 : decode cX1_needed 136 = .ok (.i2l, 1) := by decide +kernel
theorem dX1_needed_137 : decode cX1_needed 137 = .ok (.invokestatic 27, 3) := by decide +kernel
theorem dX1_needed_140 : decode cX1_needed 140 = .ok (.lreturn, 1) := by decide +kernel
theorem dX1_least_0 : decode cX1_least 0 = .ok (.aload_n 0, 1) := by decide +kernel
theorem dX1_least_1 : decode cX1_least 1 = .ok (.getfield 9, 3) := by decide +kernel
theorem dX1_least_4 : decode cX1_least 4 = .ok (.tableswitch 98 0 4 #[36, 98, 42, 68, 96], 36) := by decide +kernel
theorem dX1_least_40 : decode cX1_least 40 = .ok (.aload_n 0, 1) := by decide +kernel
theorem dX1_least_41 : decode cX1_least 41 = .ok (.getfield 15, 3) := by decide +kernel
theorem dX1_least_44 : decode cX1_least 44 = .ok (.i2l, 1) := by decide +kernel
theorem dX1_least_45 : decode cX1_least 45 = .ok (.lreturn, 1) := by decide +kernel
theorem dX1_least_46 : decode cX1_least 46 = .ok (.aload_n 0, 1) := by decide +kernel
theorem dX1_least_47 : decode cX1_least 47 = .ok (.getfield 15, 3) := by decide +kernel
theorem dX1_least_50 : decode cX1_least 50 = .ok (.i2l, 1) := by decide +kernel
theorem dX1_least_51 : decode cX1_least 51 = .ok (.lload_n 1, 1) := by decide +kernel
theorem dX1_least_52 : decode cX1_least 52 = .ok (.lmul, 1) := by decide +kernel
theorem dX1_least_53 : decode cX1_least 53 = .ok (.ldc2_w 25, 3) := by decide +kernel
theorem dX1_least_56 : decode cX1_least 56 = .ok (.aload_n 0, 1) := by decide +kernel
theorem dX1_least_57 : decode cX1_least 57 = .ok (.getfield 18, 3) := by decide +kernel
theorem dX1_least_60 : decode cX1_least 60 = .ok (.i2l, 1) := by decide +kernel
theorem dX1_least_61 : decode cX1_least 61 = .ok (.lmul, 1) := by decide +kernel
theorem dX1_least_62 : decode cX1_least 62 = .ok (.aload_n 0, 1) := by decide +kernel
theorem dX1_least_63 : decode cX1_least 63 = .ok (.getfield 15, 3) := by decide +kernel
theorem dX1_least_66 : decode cX1_least 66 = .ok (.i2l, 1) := by decide +kernel
theorem dX1_least_67 : decode cX1_least 67 = .ok (.lsub, 1) := by decide +kernel
theorem dX1_least_68 : decode cX1_least 68 = .ok (.invokestatic 27, 3) := by decide +kernel
theorem dX1_least_71 : decode cX1_least 71 = .ok (.lreturn, 1) := by decide +kernel
theorem dX1_least_72 : decode cX1_least 72 = .ok (.aload_n 0, 1) := by decide +kernel
theorem dX1_least_73 : decode cX1_least 73 = .ok (.getfield 15, 3) := by decide +kernel
theorem dX1_least_76 : decode cX1_least 76 = .ok (.i2l, 1) := by decide +kernel
theorem dX1_least_77 : decode cX1_least 77 = .ok (.aload_n 0, 1) := by decide +kernel
theorem dX1_least_78 : decode cX1_least 78 = .ok (.getfield 15, 3) := by decide +kernel
theorem dX1_least_81 : decode cX1_least 81 = .ok (.i2l, 1) := by decide +kernel
theorem dX1_least_82 : decode cX1_least 82 = .ok (.lmul, 1) := by decide +kernel
theorem dX1_least_83 : decode cX1_least 83 = .ok (.lload_n 1, 1) := by decide +kernel
theorem dX1_least_84 : decode cX1_least 84 = .ok (.lmul, 1) := by decide +kernel
theorem dX1_least_85 : decode cX1_least 85 = .ok (.aload_n 0, 1) := by decide +kernel
theorem dX1_least_86 : decode cX1_least 86 = .ok (.getfield 18, 3) := by decide +kernel
theorem dX1_least_89 : decode cX1_least 89 = .ok (.i2l, 1) := by decide +kernel
theorem dX1_least_90 : decode cX1_least 90 = .ok (.aload_n 0, 1) := by decide +kernel
theorem dX1_least_91 : decode cX1_least 91 = .ok (.getfield 18, 3) := by decide +kernel
theorem dX1_least_94 : decode cX1_least 94 = .ok (.i2l, 1) := by decide +kernel
theorem dX1_least_95 : decode cX1_least 95 = .ok (.lmul, 1) := by decide +kernel
theorem dX1_least_96 : decode cX1_least 96 = .ok (.invokestatic 27, 3) := by decide +kernel
theorem dX1_least_99 : decode cX1_least 99 = .ok (.lreturn, 1) := by decide +kernel
theorem dX1_least_100 : decode cX1_least 100 = .ok (.lconst 1, 1) := by decide +kernel
theorem dX1_least_101 : decode cX1_least 101 = .ok (.lreturn, 1) := by decide +kernel
theorem dX1_least_102 : decode cX1_least 102 = .ok (.aload_n 0, 1) := by decide +kernel
theorem dX1_least_103 : decode cX1_least 103 = .ok (.getfield 15, 3) := by decide +kernel
theorem dX1_least_106 : decode cX1_least 106 = .ok (.i2l, 1) := by decide +kernel
theorem dX1_least_107 : decode cX1_least 107 = .ok (.lload_n 1, 1) := by decide +kernel
theorem dX1_least_108 : decode cX1_least 108 = .ok (.lmul, 1) := by decide +kernel
theorem dX1_least_109 : decode cX1_least 109 = .ok (.aload_n 0, 1) := by decide +kernel
theorem dX1_least_110 : decode cX1_least 110 = .ok (.getfield 18, 3) := by decide +kernel
theorem dX1_least_113 : decode cX1_least 113 = .ok (.i2l, 1) := by decide +kernel
theorem dX1_least_114 : decode cX1_least 114 = .ok (.invokestatic 27, 3) := by decide +kernel
theorem dX1_least_117 : decode cX1_least 117 = .ok (.lreturn, 1) := by decide +kernel
theorem dX1_isReached_0 : decode cX1_isReached 0 = .ok (.aload_n 0, 1) := by decide +kernel
theorem dX1_isReached_1 : decode cX1_isReached 1 = .ok (.getfield 9, 3) := by decide +kernel
theorem dX1_isReached_4 : decode cX1_isReached 4 = .ok (.iconst 3, 1) := by decide +kernel
theorem dX1_isReached_5 : decode cX1_isReached 5 = .ok (.if_icmp .ne 17, 3) := by decide +kernel
theorem dX1_isReached_8 : decode cX1_isReached 8 = .ok (.aload_n 0, 1) := by decide +kernel
theorem dX1_isReached_9 : decode cX1_isReached 9 = .ok (.getfield 15, 3) := by decide +kernel
theorem dX1_isReached_12 : decode cX1_isReached 12 = .ok (.i2l, 1) := by decide +kernel
theorem dX1_isReached_13 : decode cX1_isReached 13 = .ok (.aload_n 0, 1) := by decide +kernel
theorem dX1_isReached_14 : decode cX1_isReached 14 = .ok (.getfield 15, 3) := by decide +kernel
theorem dX1_isReached_17 : decode cX1_isReached 17 = .ok (.i2l, 1) := by decide +kernel
theorem dX1_isReached_18 : decode cX1_isReached 18 = .ok (.lmul, 1) := by decide +kernel
theorem dX1_isReached_19 : decode cX1_isReached 19 = .ok (.goto 8, 3) := by decide +kernel
theorem dX1_isReached_22 : decode cX1_isReached 22 = .ok (.aload_n 0, 1) := by decide +kernel
theorem dX1_isReached_23 : decode cX1_isReached 23 = .ok (.getfield 15, 3) := by decide +kernel
theorem dX1_isReached_26 : decode cX1_isReached 26 = .ok (.i2l, 1) := by decide +kernel
theorem dX1_isReached_27 : decode cX1_isReached 27 = .ok (.lstore 7, 2) := by decide +kernel
theorem dX1_isReached_29 : decode cX1_isReached 29 = .ok (.aload_n 0, 1) := by decide +kernel
theorem dX1_isReached_30 : decode cX1_isReached 30 = .ok (.getfield 9, 3) := by decide +kernel
theorem dX1_isReached_33 : decode cX1_isReached 33 = .ok (.iconst 3, 1) := by decide +kernel
theorem dX1_isReached_34 : decode cX1_isReached 34 = .ok (.if_icmp .ne 17, 3) := by decide +kernel
theorem dX1_isReached_37 : decode cX1_isReached 37 = .ok (.aload_n 0, 1) := by decide +kernel
theorem dX1_isReached_38 : decode cX1_isReached 38 = .ok (.getfield 18, 3) := by decide +kernel
theorem dX1_isReached_41 : decode cX1_isReached 41 = .ok (.i2l, 1) := by decide +kernel
theorem dX1_isReached_42 : decode cX1_isReached 42 = .ok (.aload_n 0, 1) := by decide +kernel
theorem dX1_isReached_43 : decode cX1_isReached 43 = .ok (.getfield 18, 3) := by decide +kernel
theorem dX1_isReached_46 : decode cX1_isReached 46 = .ok (.i2l, 1) := by decide +kernel
theorem dX1_isReached_47 : decode cX1_isReached 47 = .ok (.lmul, 1) := by decide +kernel
theorem dX1_isReached_48 : decode cX1_isReached 48 = .ok (.goto 8, 3) := by decide +kernel
theorem dX1_isReached_51 : decode cX1_isReached 51 = .ok (.aload_n 0, 1) := by decide +kernel
theorem dX1_isReached_52 : decode cX1_isReached 52 = .ok (.getfield 18, 3) := by decide +kernel
theorem dX1_isReached_55 : decode cX1_isReached 55 = .ok (.i2l, 1) := by decide +kernel
theorem dX1_isReached_56 : decode cX1_isReached 56 = .ok (.lstore 9, 2) := by decide +kernel
theorem dX1_isReached_58 : decode cX1_isReached 58 = .ok (.lload_n 1, 1) := by decide +kernel
theorem dX1_isReached_59 : decode cX1_isReached 59 = .ok (.lconst 0, 1) := by decide +kernel
theorem dX1_isReached_60 : decode cX1_isReached 60 = .ok (.lcmp, 1) := by decide +kernel
theorem dX1_isReached_61 : decode cX1_isReached 61 = .ok (.ifCond .le 33, 3) := by decide +kernel
theorem dX1_isReached_64 : decode cX1_isReached 64 = .ok (.aload_n 0, 1) := by decide +kernel
theorem dX1_isReached_65 : decode cX1_isReached 65 = .ok (.lload_n 1, 1) := by decide +kernel
theorem dX1_isReached_66 : decode cX1_isReached 66 = .ok (.lload_n 3, 1) := by decide +kernel
theorem dX1_isReached_67 : decode cX1_isReached 67 = .ok (.lload 5, 2) := by decide +kernel
theorem dX1_isReached_69 : decode cX1_isReached 69 = .ok (.invokevirtual 39, 3) := by decide +kernel
theorem dX1_isReached_72 : decode cX1_isReached 72 = .ok (.lload 9, 2) := by decide +kernel
theorem dX1_isReached_74 : decode cX1_isReached 74 = .ok (.lmul, 1) := by decide +kernel
theorem dX1_isReached_75 : decode cX1_isReached 75 = .ok (.lload 7, 2) := by decide +kernel
theorem dX1_isReached_77 : decode cX1_isReached 77 = .ok (.aload_n 0, 1) := by decide +kernel
theorem dX1_isReached_78 : decode cX1_isReached 78 = .ok (.lload_n 1, 1) := by decide +kernel
theorem dX1_isReached_79 : decode cX1_isReached 79 = .ok (.lload_n 3, 1) := by decide +kernel
theorem dX1_isReached_80 : decode cX1_isReached 80 = .ok (.lload 5, 2) := by decide +kernel
theorem dX1_isReached_82 : decode cX1_isReached 82 = .ok (.invokevirtual 43, 3) := by decide +kernel
theorem dX1_isReached_85 : decode cX1_isReached 85 = .ok (.lmul, 1) := by decide +kernel
theorem dX1_isReached_86 : decode cX1_isReached 86 = .ok (.lcmp, 1) := by decide +kernel
theorem dX1_isReached_87 : decode cX1_isReached 87 = .ok (.ifCond .lt 7, 3) := by decide +kernel
theorem dX1_isReached_90 : decode cX1_isReached 90 = .ok (.iconst 1, 1) := by decide +kernel
theorem dX1_isReached_91 : decode cX1_isReached 91 = .ok (.goto 4, 3) := by decide +kernel
theorem dX1_isReached_94 : decode cX1_isReached 94 = .ok (.iconst 0, 1) := by decide +kernel
theorem dX1_isReached_95 : decode cX1_isReached 95 = .ok (.ireturn, 1) := by decide +kernel
theorem dX1_likenessAbove_0 : decode cX1_likenessAbove 0 = .ok (.aload_n 0, 1) := by decide +kernel
theorem dX1_likenessAbove_1 : decode cX1_likenessAbove 1 = .ok (.getfield 9, 3) := by decide +kernel
theorem dX1_likenessAbove_4 : decode cX1_likenessAbove 4 = .ok (.lookupswitch 38 #[(2, 28), (3, 34)], 28) := by decide +kernel
theorem dX1_likenessAbove_32 : decode cX1_likenessAbove 32 = .ok (.ldc2_w 25, 3) := by decide +kernel
theorem dX1_likenessAbove_35 : decode cX1_likenessAbove 35 = .ok (.lload_n 1, 1) := by decide +kernel
theorem dX1_likenessAbove_36 : decode cX1_likenessAbove 36 = .ok (.lmul, 1) := by decide +kernel
theorem dX1_likenessAbove_37 : decode cX1_likenessAbove 37 = .ok (.lreturn, 1) := by decide +kernel
theorem dX1_likenessAbove_38 : decode cX1_likenessAbove 38 = .ok (.lload_n 1, 1) := by decide +kernel
theorem dX1_likenessAbove_39 : decode cX1_likenessAbove 39 = .ok (.lload_n 1, 1) := by decide +kernel
theorem dX1_likenessAbove_40 : decode cX1_likenessAbove 40 = .ok (.lmul, 1) := by decide +kernel
theorem dX1_likenessAbove_41 : decode cX1_likenessAbove 41 = .ok (.lreturn, 1) := by decide +kernel
theorem dX1_likenessAbove_42 : decode cX1_likenessAbove 42 = .ok (.lload_n 1, 1) := by decide +kernel
theorem dX1_likenessAbove_43 : decode cX1_likenessAbove 43 = .ok (.lreturn, 1) := by decide +kernel
theorem dX1_likenessBelow_0 : decode cX1_likenessBelow 0 = .ok (.lload_n 1, 1) := by decide +kernel
theorem dX1_likenessBelow_1 : decode cX1_likenessBelow 1 = .ok (.lconst 0, 1) := by decide +kernel
theorem dX1_likenessBelow_2 : decode cX1_likenessBelow 2 = .ok (.lcmp, 1) := by decide +kernel
theorem dX1_likenessBelow_3 : decode cX1_likenessBelow 3 = .ok (.ifCond .ne 5, 3) := by decide +kernel
theorem dX1_likenessBelow_6 : decode cX1_likenessBelow 6 = .ok (.lconst 1, 1) := by decide +kernel
theorem dX1_likenessBelow_7 : decode cX1_likenessBelow 7 = .ok (.lreturn, 1) := by decide +kernel
theorem dX1_likenessBelow_8 : decode cX1_likenessBelow 8 = .ok (.aload_n 0, 1) := by decide +kernel
theorem dX1_likenessBelow_9 : decode cX1_likenessBelow 9 = .ok (.getfield 9, 3) := by decide +kernel
theorem dX1_likenessBelow_12 : decode cX1_likenessBelow 12 = .ok (.tableswitch 55 0 4 #[36, 55, 38, 43, 48], 36) := by decide +kernel
theorem dX1_likenessBelow_48 : decode cX1_likenessBelow 48 = .ok (.lconst 1, 1) := by decide +kernel
theorem dX1_likenessBelow_49 : decode cX1_likenessBelow 49 = .ok (.lreturn, 1) := by decide +kernel
theorem dX1_likenessBelow_50 : decode cX1_likenessBelow 50 = .ok (.lload_n 3, 1) := by decide +kernel
theorem dX1_likenessBelow_51 : decode cX1_likenessBelow 51 = .ok (.lload 5, 2) := by decide +kernel
theorem dX1_likenessBelow_53 : decode cX1_likenessBelow 53 = .ok (.ladd, 1) := by decide +kernel
theorem dX1_likenessBelow_54 : decode cX1_likenessBelow 54 = .ok (.lreturn, 1) := by decide +kernel
theorem dX1_likenessBelow_55 : decode cX1_likenessBelow 55 = .ok (.lload_n 3, 1) := by decide +kernel
theorem dX1_likenessBelow_56 : decode cX1_likenessBelow 56 = .ok (.lload 5, 2) := by decide +kernel
theorem dX1_likenessBelow_58 : decode cX1_likenessBelow 58 = .ok (.lmul, 1) := by decide +kernel
theorem dX1_likenessBelow_59 : decode cX1_likenessBelow 59 = .ok (.lreturn, 1) := by decide +kernel
theorem dX1_likenessBelow_60 : decode cX1_likenessBelow 60 = .ok (.lload_n 3, 1) := by decide +kernel
theorem dX1_likenessBelow_61 : decode cX1_likenessBelow 61 = .ok (.lload 5, 2) := by decide +kernel
theorem dX1_likenessBelow_63 : decode cX1_likenessBelow 63 = .ok (.invokestatic 34, 3) := by decide +kernel
theorem dX1_likenessBelow_66 : decode cX1_likenessBelow 66 = .ok (.lreturn, 1) := by decide +kernel
theorem dX1_likenessBelow_67 : decode cX1_likenessBelow 67 = .ok (.lload_n 3, 1) := by decide +kernel
theorem dX1_likenessBelow_68 : decode cX1_likenessBelow 68 = .ok (.lload 5, 2) := by decide +kernel
theorem dX1_likenessBelow_70 : decode cX1_likenessBelow 70 = .ok (.ladd, 1) := by decide +kernel
theorem dX1_likenessBelow_71 : decode cX1_likenessBelow 71 = .ok (.lload_n 1, 1) := by decide +kernel
theorem dX1_likenessBelow_72 : decode cX1_likenessBelow 72 = .ok (.lsub, 1) := by decide +kernel
theorem dX1_likenessBelow_73 : decode cX1_likenessBelow 73 = .ok (.lreturn, 1) := by decide +kernel
theorem dX1_withoutDivisor_0 : decode cX1_withoutDivisor 0 = .ok (.lload 4, 2) := by decide +kernel
theorem dX1_withoutDivisor_2 : decode cX1_withoutDivisor 2 = .ok (.lstore 6, 2) := by decide +kernel
theorem dX1_withoutDivisor_4 : decode cX1_withoutDivisor 4 = .ok (.lload_n 2, 1) := by decide +kernel
theorem dX1_withoutDivisor_5 : decode cX1_withoutDivisor 5 = .ok (.lstore 8, 2) := by decide +kernel
theorem dX1_withoutDivisor_7 : decode cX1_withoutDivisor 7 = .ok (.iconst 0, 1) := by decide +kernel
theorem dX1_withoutDivisor_8 : decode cX1_withoutDivisor 8 = .ok (.istore 10, 2) := by decide +kernel
theorem dX1_withoutDivisor_10 : decode cX1_withoutDivisor 10 = .ok (.iload 10, 2) := by decide +kernel
theorem dX1_withoutDivisor_12 : decode cX1_withoutDivisor 12 = .ok (.bipush 100, 2) := by decide +kernel
theorem dX1_withoutDivisor_14 : decode cX1_withoutDivisor 14 = .ok (.if_icmp .ge 31, 3) := by decide +kernel
theorem dX1_withoutDivisor_17 : decode cX1_withoutDivisor 17 = .ok (.lload 8, 2) := by decide +kernel
theorem dX1_withoutDivisor_19 : decode cX1_withoutDivisor 19 = .ok (.lconst 0, 1) := by decide +kernel
theorem dX1_withoutDivisor_20 : decode cX1_withoutDivisor 20 = .ok (.lcmp, 1) := by decide +kernel
theorem dX1_withoutDivisor_21 : decode cX1_withoutDivisor 21 = .ok (.ifCond .eq 24, 3) := by decide +kernel
theorem dX1_withoutDivisor_24 : decode cX1_withoutDivisor 24 = .ok (.lload 6, 2) := by decide +kernel
theorem dX1_withoutDivisor_26 : decode cX1_withoutDivisor 26 = .ok (.lload 8, 2) := by decide +kernel
theorem dX1_withoutDivisor_28 : decode cX1_withoutDivisor 28 = .ok (.lrem, 1) := by decide +kernel
theorem dX1_withoutDivisor_29 : decode cX1_withoutDivisor 29 = .ok (.lstore 11, 2) := by decide +kernel
theorem dX1_withoutDivisor_31 : decode cX1_withoutDivisor 31 = .ok (.lload 8, 2) := by decide +kernel
theorem dX1_withoutDivisor_33 : decode cX1_withoutDivisor 33 = .ok (.lstore 6, 2) := by decide +kernel
theorem dX1_withoutDivisor_35 : decode cX1_withoutDivisor 35 = .ok (.lload 11, 2) := by decide +kernel
theorem dX1_withoutDivisor_37 : decode cX1_withoutDivisor 37 = .ok (.lstore 8, 2) := by decide +kernel
theorem dX1_withoutDivisor_39 : decode cX1_withoutDivisor 39 = .ok (.iinc 10 1, 3) := by decide +kernel
theorem dX1_withoutDivisor_42 : decode cX1_withoutDivisor 42 = .ok (.goto (-32), 3) := by decide +kernel
theorem dX1_withoutDivisor_45 : decode cX1_withoutDivisor 45 = .ok (.lload 6, 2) := by decide +kernel
theorem dX1_withoutDivisor_47 : decode cX1_withoutDivisor 47 = .ok (.lconst 0, 1) := by decide +kernel
theorem dX1_withoutDivisor_48 : decode cX1_withoutDivisor 48 = .ok (.lcmp, 1) := by decide +kernel
theorem dX1_withoutDivisor_49 : decode cX1_withoutDivisor 49 = .ok (.ifCond .ne 7, 3) := by decide +kernel
theorem dX1_withoutDivisor_52 : decode cX1_withoutDivisor 52 = .ok (.lload_n 0, 1) := by decide +kernel
theorem dX1_withoutDivisor_53 : decode cX1_withoutDivisor 53 = .ok (.goto 7, 3) := by decide +kernel
theorem dX1_withoutDivisor_56 : decode cX1_withoutDivisor 56 = .ok (.lload_n 0, 1) := by decide +kernel
theorem dX1_withoutDivisor_57 : decode cX1_withoutDivisor 57 = .ok (.lload 6, 2) := by decide +kernel
theorem dX1_withoutDivisor_59 : decode cX1_withoutDivisor 59 = .ok (.ldiv, 1) := by decide +kernel
theorem dX1_withoutDivisor_60 : decode cX1_withoutDivisor 60 = .ok (.lreturn, 1) := by decide +kernel
theorem dX1_quotientUp_0 : decode cX1_quotientUp 0 = .ok (.lload_n 2, 1) := by decide +kernel
theorem dX1_quotientUp_1 : decode cX1_quotientUp 1 = .ok (.lconst 0, 1) := by decide +kernel
theorem dX1_quotientUp_2 : decode cX1_quotientUp 2 = .ok (.lcmp, 1) := by decide +kernel
theorem dX1_quotientUp_3 : decode cX1_quotientUp 3 = .ok (.ifCond .gt 7, 3) := by decide +kernel
theorem dX1_quotientUp_6 : decode cX1_quotientUp 6 = .ok (.lconst 0, 1) := by decide +kernel
theorem dX1_quotientUp_7 : decode cX1_quotientUp 7 = .ok (.goto 10, 3) := by decide +kernel
theorem dX1_quotientUp_10 : decode cX1_quotientUp 10 = .ok (.lload_n 0, 1) := by decide +kernel
theorem dX1_quotientUp_11 : decode cX1_quotientUp 11 = .ok (.lload_n 2, 1) := by decide +kernel
theorem dX1_quotientUp_12 : decode cX1_quotientUp 12 = .ok (.ladd, 1) := by decide +kernel
theorem dX1_quotientUp_13 : decode cX1_quotientUp 13 = .ok (.lconst 1, 1) := by decide +kernel
theorem dX1_quotientUp_14 : decode cX1_quotientUp 14 = .ok (.lsub, 1) := by decide +kernel
theorem dX1_quotientUp_15 : decode cX1_quotientUp 15 = .ok (.lload_n 2, 1) := by decide +kernel
theorem dX1_quotientUp_16 : decode cX1_quotientUp 16 = .ok (.ldiv, 1) := by decide +kernel
theorem dX1_quotientUp_17 : decode cX1_quotientUp 17 = .ok (.lreturn, 1) := by decide +kernel
theorem dX1_rootUp_0 : decode cX1_rootUp 0 = .ok (.lconst 0, 1) := by decide +kernel
theorem dX1_rootUp_1 : decode cX1_rootUp 1 = .ok (.lstore 4, 2) := by decide +kernel
theorem dX1_rootUp_3 : decode cX1_rootUp 3 = .ok (.lload 4, 2) := by decide +kernel
theorem dX1_rootUp_5 : decode cX1_rootUp 5 = .ok (.ldc2_w 46, 3) := by decide +kernel
theorem dX1_rootUp_8 : decode cX1_rootUp 8 = .ok (.lcmp, 1) := by decide +kernel
theorem dX1_rootUp_9 : decode cX1_rootUp 9 = .ok (.ifCond .ge 24, 3) := by decide +kernel
theorem dX1_rootUp_12 : decode cX1_rootUp 12 = .ok (.lload 4, 2) := by decide +kernel
theorem dX1_rootUp_14 : decode cX1_rootUp 14 = .ok (.lload 4, 2) := by decide +kernel
theorem dX1_rootUp_16 : decode cX1_rootUp 16 = .ok (.lmul, 1) := by decide +kernel
theorem dX1_rootUp_17 : decode cX1_rootUp 17 = .ok (.lload_n 2, 1) := by decide +kernel
theorem dX1_rootUp_18 : decode cX1_rootUp 18 = .ok (.lmul, 1) := by decide +kernel
theorem dX1_rootUp_19 : decode cX1_rootUp 19 = .ok (.lload_n 0, 1) := by decide +kernel
theorem dX1_rootUp_20 : decode cX1_rootUp 20 = .ok (.lcmp, 1) := by decide +kernel
theorem dX1_rootUp_21 : decode cX1_rootUp 21 = .ok (.ifCond .ge 12, 3) := by decide +kernel
theorem dX1_rootUp_24 : decode cX1_rootUp 24 = .ok (.lload 4, 2) := by decide +kernel
theorem dX1_rootUp_26 : decode cX1_rootUp 26 = .ok (.lconst 1, 1) := by decide +kernel
theorem dX1_rootUp_27 : decode cX1_rootUp 27 = .ok (.ladd, 1) := by decide +kernel
theorem dX1_rootUp_28 : decode cX1_rootUp 28 = .ok (.lstore 4, 2) := by decide +kernel
theorem dX1_rootUp_30 : decode cX1_rootUp 30 = .ok (.goto (-27), 3) := by decide +kernel
theorem dX1_rootUp_33 : decode cX1_rootUp 33 = .ok (.lload 4, 2) := by decide +kernel
theorem dX1_rootUp_35 : decode cX1_rootUp 35 = .ok (.lreturn, 1) := by decide +kernel
theorem dX2_init_0 : decode cX2_init 0 = .ok (.aload_n 0, 1) := by decide +kernel
theorem dX2_init_1 : decode cX2_init 1 = .ok (.invokespecial 3, 3) := by decide +kernel
theorem dX2_init_4 : decode cX2_init 4 = .ok (.aload_n 0, 1) := by decide +kernel
theorem dX2_init_5 : decode cX2_init 5 = .ok (.bipush 60, 2) := by decide +kernel
theorem dX2_init_7 : decode cX2_init 7 = .ok (.newarray .long, 2) := by decide +kernel
theorem dX2_init_9 : decode cX2_init 9 = .ok (.putfield 9, 3) := by decide +kernel
theorem dX2_init_12 : decode cX2_init 12 = .ok (.return_, 1) := by decide +kernel
theorem dX2_forget_0 : decode cX2_forget 0 = .ok (.aload_n 0, 1) := by decide +kernel
theorem dX2_forget_1 : decode cX2_forget 1 = .ok (.dup, 1) := by decide +kernel
theorem dX2_forget_2 : decode cX2_forget 2 = .ok (.getfield 15, 3) := by decide +kernel
theorem dX2_forget_5 : decode cX2_forget 5 = .ok (.lconst 1, 1) := by decide +kernel
theorem dX2_forget_6 : decode cX2_forget 6 = .ok (.iload_n 1, 1) := by decide +kernel
theorem dX2_forget_7 : decode cX2_forget 7 = .ok (.lshl, 1) := by decide +kernel
theorem dX2_forget_8 : decode cX2_forget 8 = .ok (.lor, 1) := by decide +kernel
theorem dX2_forget_9 : decode cX2_forget 9 = .ok (.putfield 15, 3) := by decide +kernel
theorem dX2_forget_12 : decode cX2_forget 12 = .ok (.return_, 1) := by decide +kernel
theorem dX2_isForgotten_0 : decode cX2_isForgotten 0 = .ok (.aload_n 0, 1) := by decide +kernel
theorem dX2_isForgotten_1 : decode cX2_isForgotten 1 = .ok (.getfield 15, 3) := by decide +kernel
theorem dX2_isForgotten_4 : decode cX2_isForgotten 4 = .ok (.lconst 1, 1) := by decide +kernel
theorem dX2_isForgotten_5 : decode cX2_isForgotten 5 = .ok (.iload_n 1, 1) := by decide +kernel
theorem dX2_isForgotten_6 : decode cX2_isForgotten 6 = .ok (.lshl, 1) := by decide +kernel
theorem dX2_isForgotten_7 : decode cX2_isForgotten 7 = .ok (.land, 1) := by decide +kernel
theorem dX2_isForgotten_8 : decode cX2_isForgotten 8 = .ok (.lconst 0, 1) := by decide +kernel
theorem dX2_isForgotten_9 : decode cX2_isForgotten 9 = .ok (.lcmp, 1) := by decide +kernel
theorem dX2_isForgotten_10 : decode cX2_isForgotten 10 = .ok (.ifCond .eq 7, 3) := by decide +kernel
theorem dX2_isForgotten_13 : decode cX2_isForgotten 13 = .ok (.iconst 1, 1) := by decide +kernel
theorem dX2_isForgotten_14 : decode cX2_isForgotten 14 = .ok (.goto 4, 3) := by decide +kernel
theorem dX2_isForgotten_17 : decode cX2_isForgotten 17 = .ok (.iconst 0, 1) := by decide +kernel
theorem dX2_isForgotten_18 : decode cX2_isForgotten 18 = .ok (.ireturn, 1) := by decide +kernel
theorem dX2_know_0 : decode cX2_know 0 = .ok (.aload_n 0, 1) := by decide +kernel
theorem dX2_know_1 : decode cX2_know 1 = .ok (.dup, 1) := by decide +kernel
theorem dX2_know_2 : decode cX2_know 2 = .ok (.getfield 15, 3) := by decide +kernel
theorem dX2_know_5 : decode cX2_know 5 = .ok (.lconst 1, 1) := by decide +kernel
theorem dX2_know_6 : decode cX2_know 6 = .ok (.iload_n 1, 1) := by decide +kernel
theorem dX2_know_7 : decode cX2_know 7 = .ok (.lshl, 1) := by decide +kernel
theorem dX2_know_8 : decode cX2_know 8 = .ok (.ldc2_w 19, 3) := by decide +kernel
theorem dX2_know_11 : decode cX2_know 11 = .ok (.lxor, 1) := by decide +kernel
theorem dX2_know_12 : decode cX2_know 12 = .ok (.land, 1) := by decide +kernel
theorem dX2_know_13 : decode cX2_know 13 = .ok (.putfield 15, 3) := by decide +kernel
theorem dX2_know_16 : decode cX2_know 16 = .ok (.return_, 1) := by decide +kernel
theorem dX2_tie_0 : decode cX2_tie 0 = .ok (.aload_n 0, 1) := by decide +kernel
theorem dX2_tie_1 : decode cX2_tie 1 = .ok (.getfield 9, 3) := by decide +kernel
theorem dX2_tie_4 : decode cX2_tie 4 = .ok (.iload_n 1, 1) := by decide +kernel
theorem dX2_tie_5 : decode cX2_tie 5 = .ok (.iload_n 3, 1) := by decide +kernel
theorem dX2_tie_6 : decode cX2_tie 6 = .ok (.ifCond .eq 16, 3) := by decide +kernel
theorem dX2_tie_9 : decode cX2_tie 9 = .ok (.aload_n 0, 1) := by decide +kernel
theorem dX2_tie_10 : decode cX2_tie 10 = .ok (.getfield 9, 3) := by decide +kernel
theorem dX2_tie_13 : decode cX2_tie 13 = .ok (.iload_n 1, 1) := by decide +kernel
theorem dX2_tie_14 : decode cX2_tie 14 = .ok (.laload, 1) := by decide +kernel
theorem dX2_tie_15 : decode cX2_tie 15 = .ok (.lconst 1, 1) := by decide +kernel
theorem dX2_tie_16 : decode cX2_tie 16 = .ok (.iload_n 2, 1) := by decide +kernel
theorem dX2_tie_17 : decode cX2_tie 17 = .ok (.lshl, 1) := by decide +kernel
theorem dX2_tie_18 : decode cX2_tie 18 = .ok (.lor, 1) := by decide +kernel
theorem dX2_tie_19 : decode cX2_tie 19 = .ok (.goto 17, 3) := by decide +kernel
theorem dX2_tie_22 : decode cX2_tie 22 = .ok (.aload_n 0, 1) := by decide +kernel
theorem dX2_tie_23 : decode cX2_tie 23 = .ok (.getfield 9, 3) := by decide +kernel
theorem dX2_tie_26 : decode cX2_tie 26 = .ok (.iload_n 1, 1) := by decide +kernel
theorem dX2_tie_27 : decode cX2_tie 27 = .ok (.laload, 1) := by decide +kernel
theorem dX2_tie_28 : decode cX2_tie 28 = .ok (.lconst 1, 1) := by decide +kernel
theorem dX2_tie_29 : decode cX2_tie 29 = .ok (.iload_n 2, 1) := by decide +kernel
theorem dX2_tie_30 : decode cX2_tie 30 = .ok (.lshl, 1) := by decide +kernel
theorem dX2_tie_31 : decode cX2_tie 31 = .ok (.ldc2_w 19, 3) := by decide +kernel
theorem dX2_tie_34 : decode cX2_tie 34 = .ok (.lxor, 1) := by decide +kernel
theorem dX2_tie_35 : decode cX2_tie 35 = .ok (.land, 1) := by decide +kernel
theorem dX2_tie_36 : decode cX2_tie 36 = .ok (.lastore, 1) := by decide +kernel
theorem dX2_tie_37 : decode cX2_tie 37 = .ok (.aload_n 0, 1) := by decide +kernel
theorem dX2_tie_38 : decode cX2_tie 38 = .ok (.getfield 9, 3) := by decide +kernel
theorem dX2_tie_41 : decode cX2_tie 41 = .ok (.iload_n 2, 1) := by decide +kernel
theorem dX2_tie_42 : decode cX2_tie 42 = .ok (.iload_n 3, 1) := by decide +kernel
theorem dX2_tie_43 : decode cX2_tie 43 = .ok (.ifCond .eq 16, 3) := by decide +kernel
theorem dX2_tie_46 : decode cX2_tie 46 = .ok (.aload_n 0, 1) := by decide +kernel
theorem dX2_tie_47 : decode cX2_tie 47 = .ok (.getfield 9, 3) := by decide +kernel
theorem dX2_tie_50 : decode cX2_tie 50 = .ok (.iload_n 2, 1) := by decide +kernel
theorem dX2_tie_51 : decode cX2_tie 51 = .ok (.laload, 1) := by decide +kernel
theorem dX2_tie_52 : decode cX2_tie 52 = .ok (.lconst 1, 1) := by decide +kernel
theorem dX2_tie_53 : decode cX2_tie 53 = .ok (.iload_n 1, 1) := by decide +kernel
theorem dX2_tie_54 : decode cX2_tie 54 = .ok (.lshl, 1) := by decide +kernel
theorem dX2_tie_55 : decode cX2_tie 55 = .ok (.lor, 1) := by decide +kernel
theorem dX2_tie_56 : decode cX2_tie 56 = .ok (.goto 17, 3) := by decide +kernel
theorem dX2_tie_59 : decode cX2_tie 59 = .ok (.aload_n 0, 1) := by decide +kernel
theorem dX2_tie_60 : decode cX2_tie 60 = .ok (.getfield 9, 3) := by decide +kernel
theorem dX2_tie_63 : decode cX2_tie 63 = .ok (.iload_n 2, 1) := by decide +kernel
theorem dX2_tie_64 : decode cX2_tie 64 = .ok (.laload, 1) := by decide +kernel
theorem dX2_tie_65 : decode cX2_tie 65 = .ok (.lconst 1, 1) := by decide +kernel
theorem dX2_tie_66 : decode cX2_tie 66 = .ok (.iload_n 1, 1) := by decide +kernel
theorem dX2_tie_67 : decode cX2_tie 67 = .ok (.lshl, 1) := by decide +kernel
theorem dX2_tie_68 : decode cX2_tie 68 = .ok (.ldc2_w 19, 3) := by decide +kernel
theorem dX2_tie_71 : decode cX2_tie 71 = .ok (.lxor, 1) := by decide +kernel
theorem dX2_tie_72 : decode cX2_tie 72 = .ok (.land, 1) := by decide +kernel
theorem dX2_tie_73 : decode cX2_tie 73 = .ok (.lastore, 1) := by decide +kernel
theorem dX2_tie_74 : decode cX2_tie 74 = .ok (.return_, 1) := by decide +kernel
theorem dX2_leastOf_0 : decode cX2_leastOf 0 = .ok (.lload_n 0, 1) := by decide +kernel
theorem dX2_leastOf_1 : decode cX2_leastOf 1 = .ok (.lconst 0, 1) := by decide +kernel
theorem dX2_leastOf_2 : decode cX2_leastOf 2 = .ok (.lcmp, 1) := by decide +kernel
theorem dX2_leastOf_3 : decode cX2_leastOf 3 = .ok (.ifCond .ne 7, 3) := by decide +kernel
theorem dX2_leastOf_6 : decode cX2_leastOf 6 = .ok (.iconst (-1), 1) := by decide +kernel
theorem dX2_leastOf_7 : decode cX2_leastOf 7 = .ok (.goto 12, 3) := by decide +kernel
theorem dX2_leastOf_10 : decode cX2_leastOf 10 = .ok (.lload_n 0, 1) := by decide +kernel
theorem dX2_leastOf_11 : decode cX2_leastOf 11 = .ok (.lload_n 0, 1) := by decide +kernel
theorem dX2_leastOf_12 : decode cX2_leastOf 12 = .ok (.lneg, 1) := by decide +kernel
theorem dX2_leastOf_13 : decode cX2_leastOf 13 = .ok (.land, 1) := by decide +kernel
theorem dX2_leastOf_14 : decode cX2_leastOf 14 = .ok (.lconst 1, 1) := by decide +kernel
theorem dX2_leastOf_15 : decode cX2_leastOf 15 = .ok (.lsub, 1) := by decide +kernel
theorem dX2_leastOf_16 : decode cX2_leastOf 16 = .ok (.invokestatic 21, 3) := by decide +kernel
theorem dX2_leastOf_19 : decode cX2_leastOf 19 = .ok (.ireturn, 1) := by decide +kernel
theorem dX2_familyOf_0 : decode cX2_familyOf 0 = .ok (.lconst 1, 1) := by decide +kernel
theorem dX2_familyOf_1 : decode cX2_familyOf 1 = .ok (.iload_n 1, 1) := by decide +kernel
theorem dX2_familyOf_2 : decode cX2_familyOf 2 = .ok (.lshl, 1) := by decide +kernel
theorem dX2_familyOf_3 : decode cX2_familyOf 3 = .ok (.lstore_n 2, 1) := by decide +kernel
theorem dX2_familyOf_4 : decode cX2_familyOf 4 = .ok (.lload_n 2, 1) := by decide +kernel
theorem dX2_familyOf_5 : decode cX2_familyOf 5 = .ok (.lstore 4, 2) := by decide +kernel
theorem dX2_familyOf_7 : decode cX2_familyOf 7 = .ok (.iconst 0, 1) := by decide +kernel
theorem dX2_familyOf_8 : decode cX2_familyOf 8 = .ok (.istore 6, 2) := by decide +kernel
theorem dX2_familyOf_10 : decode cX2_familyOf 10 = .ok (.iload 6, 2) := by decide +kernel
theorem dX2_familyOf_12 : decode cX2_familyOf 12 = .ok (.bipush 60, 2) := by decide +kernel
theorem dX2_familyOf_14 : decode cX2_familyOf 14 = .ok (.if_icmp .ge 35, 3) := by decide +kernel
theorem dX2_familyOf_17 : decode cX2_familyOf 17 = .ok (.lload 4, 2) := by decide +kernel
theorem dX2_familyOf_19 : decode cX2_familyOf 19 = .ok (.lconst 0, 1) := by decide +kernel
theorem dX2_familyOf_20 : decode cX2_familyOf 20 = .ok (.lcmp, 1) := by decide +kernel
theorem dX2_familyOf_21 : decode cX2_familyOf 21 = .ok (.ifCond .eq 28, 3) := by decide +kernel
theorem dX2_familyOf_24 : decode cX2_familyOf 24 = .ok (.aload_n 0, 1) := by decide +kernel
theorem dX2_familyOf_25 : decode cX2_familyOf 25 = .ok (.lload 4, 2) := by decide +kernel
theorem dX2_familyOf_27 : decode cX2_familyOf 27 = .ok (.invokevirtual 27, 3) := by decide +kernel
theorem dX2_familyOf_30 : decode cX2_familyOf 30 = .ok (.lload_n 2, 1) := by decide +kernel
theorem dX2_familyOf_31 : decode cX2_familyOf 31 = .ok (.ldc2_w 19, 3) := by decide +kernel
theorem dX2_familyOf_34 : decode cX2_familyOf 34 = .ok (.lxor, 1) := by decide +kernel
theorem dX2_familyOf_35 : decode cX2_familyOf 35 = .ok (.land, 1) := by decide +kernel
theorem dX2_familyOf_36 : decode cX2_familyOf 36 = .ok (.lstore 4, 2) := by decide +kernel
theorem dX2_familyOf_38 : decode cX2_familyOf 38 = .ok (.lload_n 2, 1) := by decide +kernel
theorem dX2_familyOf_39 : decode cX2_familyOf 39 = .ok (.lload 4, 2) := by decide +kernel
theorem dX2_familyOf_41 : decode cX2_familyOf 41 = .ok (.lor, 1) := by decide +kernel
theorem dX2_familyOf_42 : decode cX2_familyOf 42 = .ok (.lstore_n 2, 1) := by decide +kernel
theorem dX2_familyOf_43 : decode cX2_familyOf 43 = .ok (.iinc 6 1, 3) := by decide +kernel
theorem dX2_familyOf_46 : decode cX2_familyOf 46 = .ok (.goto (-36), 3) := by decide +kernel
theorem dX2_familyOf_49 : decode cX2_familyOf 49 = .ok (.lload_n 2, 1) := by decide +kernel
theorem dX2_familyOf_50 : decode cX2_familyOf 50 = .ok (.lreturn, 1) := by decide +kernel
theorem dX2_stepsBetween_0 : decode cX2_stepsBetween 0 = .ok (.lconst 1, 1) := by decide +kernel
theorem dX2_stepsBetween_1 : decode cX2_stepsBetween 1 = .ok (.iload_n 2, 1) := by decide +kernel
theorem dX2_stepsBetween_2 : decode cX2_stepsBetween 2 = .ok (.lshl, 1) := by decide +kernel
theorem dX2_stepsBetween_3 : decode cX2_stepsBetween 3 = .ok (.lstore_n 3, 1) := by decide +kernel
theorem dX2_stepsBetween_4 : decode cX2_stepsBetween 4 = .ok (.lload_n 3, 1) := by decide +kernel
theorem dX2_stepsBetween_5 : decode cX2_stepsBetween 5 = .ok (.lstore 5, 2) := by decide +kernel
theorem dX2_stepsBetween_7 : decode cX2_stepsBetween 7 = .ok (.iconst 0, 1) := by decide +kernel
theorem dX2_stepsBetween_8 : decode cX2_stepsBetween 8 = .ok (.istore 7, 2) := by decide +kernel
theorem dX2_stepsBetween_10 : decode cX2_stepsBetween 10 = .ok (.iload 7, 2) := by decide +kernel
theorem dX2_stepsBetween_12 : decode cX2_stepsBetween 12 = .ok (.bipush 60, 2) := by decide +kernel
theorem dX2_stepsBetween_14 : decode cX2_stepsBetween 14 = .ok (.if_icmp .ge 49, 3) := by decide +kernel
theorem dX2_stepsBetween_17 : decode cX2_stepsBetween 17 = .ok (.lload 5, 2) := by decide +kernel
theorem dX2_stepsBetween_19 : decode cX2_stepsBetween 19 = .ok (.lconst 0, 1) := by decide +kernel
theorem dX2_stepsBetween_20 : decode cX2_stepsBetween 20 = .ok (.lcmp, 1) := by decide +kernel
theorem dX2_stepsBetween_21 : decode cX2_stepsBetween 21 = .ok (.ifCond .eq 42, 3) := by decide +kernel
theorem dX2_stepsBetween_24 : decode cX2_stepsBetween 24 = .ok (.lload 5, 2) := by decide +kernel
theorem dX2_stepsBetween_26 : decode cX2_stepsBetween 26 = .ok (.lconst 1, 1) := by decide +kernel
theorem dX2_stepsBetween_27 : decode cX2_stepsBetween 27 = .ok (.iload_n 1, 1) := by decide +kernel
theorem dX2_stepsBetween_28 : decode cX2_stepsBetween 28 = .ok (.lshl, 1) := by decide +kernel
theorem dX2_stepsBetween_29 : decode cX2_stepsBetween 29 = .ok (.land, 1) := by decide +kernel
theorem dX2_stepsBetween_30 : decode cX2_stepsBetween 30 = .ok (.lconst 0, 1) := by decide +kernel
theorem dX2_stepsBetween_31 : decode cX2_stepsBetween 31 = .ok (.lcmp, 1) := by decide +kernel
theorem dX2_stepsBetween_32 : decode cX2_stepsBetween 32 = .ok (.ifCond .eq 6, 3) := by decide +kernel
theorem dX2_stepsBetween_35 : decode cX2_stepsBetween 35 = .ok (.iload 7, 2) := by decide +kernel
theorem dX2_stepsBetween_37 : decode cX2_stepsBetween 37 = .ok (.ireturn, 1) := by decide +kernel
theorem dX2_stepsBetween_38 : decode cX2_stepsBetween 38 = .ok (.aload_n 0, 1) := by decide +kernel
theorem dX2_stepsBetween_39 : decode cX2_stepsBetween 39 = .ok (.lload 5, 2) := by decide +kernel
theorem dX2_stepsBetween_41 : decode cX2_stepsBetween 41 = .ok (.invokevirtual 27, 3) := by decide +kernel
theorem dX2_stepsBetween_44 : decode cX2_stepsBetween 44 = .ok (.lload_n 3, 1) := by decide +kernel
theorem dX2_stepsBetween_45 : decode cX2_stepsBetween 45 = .ok (.ldc2_w 19, 3) := by decide +kernel
theorem dX2_stepsBetween_48 : decode cX2_stepsBetween 48 = .ok (.lxor, 1) := by decide +kernel
theorem dX2_stepsBetween_49 : decode cX2_stepsBetween 49 = .ok (.land, 1) := by decide +kernel
theorem dX2_stepsBetween_50 : decode cX2_stepsBetween 50 = .ok (.lstore 5, 2) := by decide +kernel
theorem dX2_stepsBetween_52 : decode cX2_stepsBetween 52 = .ok (.lload_n 3, 1) := by decide +kernel
theorem dX2_stepsBetween_53 : decode cX2_stepsBetween 53 = .ok (.lload 5, 2) := by decide +kernel
theorem dX2_stepsBetween_55 : decode cX2_stepsBetween 55 = .ok (.lor, 1) := by decide +kernel
theorem dX2_stepsBetween_56 : decode cX2_stepsBetween 56 = .ok (.lstore_n 3, 1) := by decide +kernel
theorem dX2_stepsBetween_57 : decode cX2_stepsBetween 57 = .ok (.iinc 7 1, 3) := by decide +kernel
theorem dX2_stepsBetween_60 : decode cX2_stepsBetween 60 = .ok (.goto (-50), 3) := by decide +kernel
theorem dX2_stepsBetween_63 : decode cX2_stepsBetween 63 = .ok (.iconst (-1), 1) := by decide +kernel
theorem dX2_stepsBetween_64 : decode cX2_stepsBetween 64 = .ok (.ireturn, 1) := by decide +kernel
theorem dX2_firstStep_0 : decode cX2_firstStep 0 = .ok (.lconst 1, 1) := by decide +kernel
theorem dX2_firstStep_1 : decode cX2_firstStep 1 = .ok (.iload_n 2, 1) := by decide +kernel
theorem dX2_firstStep_2 : decode cX2_firstStep 2 = .ok (.lshl, 1) := by decide +kernel
theorem dX2_firstStep_3 : decode cX2_firstStep 3 = .ok (.lstore 4, 2) := by decide +kernel
theorem dX2_firstStep_5 : decode cX2_firstStep 5 = .ok (.iconst 1, 1) := by decide +kernel
theorem dX2_firstStep_6 : decode cX2_firstStep 6 = .ok (.istore 6, 2) := by decide +kernel
theorem dX2_firstStep_8 : decode cX2_firstStep 8 = .ok (.iload 6, 2) := by decide +kernel
theorem dX2_firstStep_10 : decode cX2_firstStep 10 = .ok (.iload_n 3, 1) := by decide +kernel
theorem dX2_firstStep_11 : decode cX2_firstStep 11 = .ok (.if_icmp .ge 17, 3) := by decide +kernel
theorem dX2_firstStep_14 : decode cX2_firstStep 14 = .ok (.aload_n 0, 1) := by decide +kernel
theorem dX2_firstStep_15 : decode cX2_firstStep 15 = .ok (.lload 4, 2) := by decide +kernel
theorem dX2_firstStep_17 : decode cX2_firstStep 17 = .ok (.invokevirtual 27, 3) := by decide +kernel
theorem dX2_firstStep_20 : decode cX2_firstStep 20 = .ok (.lstore 4, 2) := by decide +kernel
theorem dX2_firstStep_22 : decode cX2_firstStep 22 = .ok (.iinc 6 1, 3) := by decide +kernel
theorem dX2_firstStep_25 : decode cX2_firstStep 25 = .ok (.goto (-17), 3) := by decide +kernel
theorem dX2_firstStep_28 : decode cX2_firstStep 28 = .ok (.lload 4, 2) := by decide +kernel
theorem dX2_firstStep_30 : decode cX2_firstStep 30 = .ok (.aload_n 0, 1) := by decide +kernel
theorem dX2_firstStep_31 : decode cX2_firstStep 31 = .ok (.getfield 9, 3) := by decide +kernel
theorem dX2_firstStep_34 : decode cX2_firstStep 34 = .ok (.iload_n 1, 1) := by decide +kernel
theorem dX2_firstStep_35 : decode cX2_firstStep 35 = .ok (.laload, 1) := by decide +kernel
theorem dX2_firstStep_36 : decode cX2_firstStep 36 = .ok (.land, 1) := by decide +kernel
theorem dX2_firstStep_37 : decode cX2_firstStep 37 = .ok (.invokestatic 31, 3) := by decide +kernel
theorem dX2_firstStep_40 : decode cX2_firstStep 40 = .ok (.ireturn, 1) := by decide +kernel
theorem dX2_coreOf_0 : decode cX2_coreOf 0 = .ok (.aload_n 0, 1) := by decide +kernel
theorem dX2_coreOf_1 : decode cX2_coreOf 1 = .ok (.getfield 9, 3) := by decide +kernel
theorem dX2_coreOf_4 : decode cX2_coreOf 4 = .ok (.lconst 0, 1) := by decide +kernel
theorem dX2_coreOf_5 : decode cX2_coreOf 5 = .ok (.lload_n 1, 1) := by decide +kernel
theorem dX2_coreOf_6 : decode cX2_coreOf 6 = .ok (.lconst 0, 1) := by decide +kernel
theorem dX2_coreOf_7 : decode cX2_coreOf 7 = .ok (.iconst 0, 1) := by decide +kernel
theorem dX2_coreOf_8 : decode cX2_coreOf 8 = .ok (.invokestatic 34, 3) := by decide +kernel
theorem dX2_coreOf_11 : decode cX2_coreOf 11 = .ok (.lreturn, 1) := by decide +kernel
theorem dX2_friendsOf_0 : decode cX2_friendsOf 0 = .ok (.lconst 0, 1) := by decide +kernel
theorem dX2_friendsOf_1 : decode cX2_friendsOf 1 = .ok (.lstore_n 3, 1) := by decide +kernel
theorem dX2_friendsOf_2 : decode cX2_friendsOf 2 = .ok (.iconst 0, 1) := by decide +kernel
theorem dX2_friendsOf_3 : decode cX2_friendsOf 3 = .ok (.istore 5, 2) := by decide +kernel
theorem dX2_friendsOf_5 : decode cX2_friendsOf 5 = .ok (.iload 5, 2) := by decide +kernel
theorem dX2_friendsOf_7 : decode cX2_friendsOf 7 = .ok (.bipush 60, 2) := by decide +kernel
theorem dX2_friendsOf_9 : decode cX2_friendsOf 9 = .ok (.if_icmp .ge 30, 3) := by decide +kernel
theorem dX2_friendsOf_12 : decode cX2_friendsOf 12 = .ok (.lload_n 1, 1) := by decide +kernel
theorem dX2_friendsOf_13 : decode cX2_friendsOf 13 = .ok (.lconst 1, 1) := by decide +kernel
theorem dX2_friendsOf_14 : decode cX2_friendsOf 14 = .ok (.iload 5, 2) := by decide +kernel
theorem dX2_friendsOf_16 : decode cX2_friendsOf 16 = .ok (.lshl, 1) := by decide +kernel
theorem dX2_friendsOf_17 : decode cX2_friendsOf 17 = .ok (.land, 1) := by decide +kernel
theorem dX2_friendsOf_18 : decode cX2_friendsOf 18 = .ok (.lconst 0, 1) := by decide +kernel
theorem dX2_friendsOf_19 : decode cX2_friendsOf 19 = .ok (.lcmp, 1) := by decide +kernel
theorem dX2_friendsOf_20 : decode cX2_friendsOf 20 = .ok (.ifCond .eq 13, 3) := by decide +kernel
theorem dX2_friendsOf_23 : decode cX2_friendsOf 23 = .ok (.lload_n 3, 1) := by decide +kernel
theorem dX2_friendsOf_24 : decode cX2_friendsOf 24 = .ok (.aload_n 0, 1) := by decide +kernel
theorem dX2_friendsOf_25 : decode cX2_friendsOf 25 = .ok (.getfield 9, 3) := by decide +kernel
theorem dX2_friendsOf_28 : decode cX2_friendsOf 28 = .ok (.iload 5, 2) := by decide +kernel
theorem dX2_friendsOf_30 : decode cX2_friendsOf 30 = .ok (.laload, 1) := by decide +kernel
theorem dX2_friendsOf_31 : decode cX2_friendsOf 31 = .ok (.lor, 1) := by decide +kernel
theorem dX2_friendsOf_32 : decode cX2_friendsOf 32 = .ok (.lstore_n 3, 1) := by decide +kernel
theorem dX2_friendsOf_33 : decode cX2_friendsOf 33 = .ok (.iinc 5 1, 3) := by decide +kernel
theorem dX2_friendsOf_36 : decode cX2_friendsOf 36 = .ok (.goto (-31), 3) := by decide +kernel
theorem dX2_friendsOf_39 : decode cX2_friendsOf 39 = .ok (.lload_n 3, 1) := by decide +kernel
theorem dX2_friendsOf_40 : decode cX2_friendsOf 40 = .ok (.lreturn, 1) := by decide +kernel
theorem dX2_greatestCore_0 : decode cX2_greatestCore 0 = .ok (.lload_n 1, 1) := by decide +kernel
theorem dX2_greatestCore_1 : decode cX2_greatestCore 1 = .ok (.invokestatic 21, 3) := by decide +kernel
theorem dX2_greatestCore_4 : decode cX2_greatestCore 4 = .ok (.lload 5, 2) := by decide +kernel
theorem dX2_greatestCore_6 : decode cX2_greatestCore 6 = .ok (.invokestatic 21, 3) := by decide +kernel
theorem dX2_greatestCore_9 : decode cX2_greatestCore 9 = .ok (.if_icmp .le 7, 3) := by decide +kernel
theorem dX2_greatestCore_12 : decode cX2_greatestCore 12 = .ok (.lload_n 1, 1) := by decide +kernel
theorem dX2_greatestCore_13 : decode cX2_greatestCore 13 = .ok (.goto 5, 3) := by decide +kernel
theorem dX2_greatestCore_16 : decode cX2_greatestCore 16 = .ok (.lload 5, 2) := by decide +kernel
theorem dX2_greatestCore_18 : decode cX2_greatestCore 18 = .ok (.lstore 8, 2) := by decide +kernel
theorem dX2_greatestCore_20 : decode cX2_greatestCore 20 = .ok (.iload 7, 2) := by decide +kernel
end
section
theorem dX2_greatestCore_22 : decode cX2_greatestCore 22 = .ok (.bipush 20, 2) := by decide +kernel
theorem dX2_greatestCore_24 : decode cX2_greatestCore 24 = .ok (.if_icmp .lt 6, 3) := by decide +kernel
theorem dX2_greatestCore_27 : decode cX2_greatestCore 27 = .ok (.lload 8, 2) := by decide +kernel
theorem dX2_greatestCore_29 : decode cX2_greatestCore 29 = .ok (.lreturn, 1) := by decide +kernel
theorem dX2_greatestCore_30 : decode cX2_greatestCore 30 = .ok (.lload_n 3, 1) := by decide +kernel
theorem dX2_greatestCore_31 : decode cX2_greatestCore 31 = .ok (.lstore 10, 2) := by decide +kernel
theorem dX2_greatestCore_33 : decode cX2_greatestCore 33 = .ok (.lload_n 3, 1) := by decide +kernel
theorem dX2_greatestCore_34 : decode cX2_greatestCore 34 = .ok (.invokestatic 21, 3) := by decide +kernel
theorem dX2_greatestCore_37 : decode cX2_greatestCore 37 = .ok (.istore 12, 2) := by decide +kernel
theorem dX2_greatestCore_39 : decode cX2_greatestCore 39 = .ok (.iload 12, 2) := by decide +kernel
theorem dX2_greatestCore_41 : decode cX2_greatestCore 41 = .ok (.ifCond .le 78, 3) := by decide +kernel
theorem dX2_greatestCore_44 : decode cX2_greatestCore 44 = .ok (.iload 7, 2) := by decide +kernel
theorem dX2_greatestCore_46 : decode cX2_greatestCore 46 = .ok (.iload 12, 2) := by decide +kernel
theorem dX2_greatestCore_48 : decode cX2_greatestCore 48 = .ok (.iadd, 1) := by decide +kernel
theorem dX2_greatestCore_49 : decode cX2_greatestCore 49 = .ok (.lload 8, 2) := by decide +kernel
theorem dX2_greatestCore_51 : decode cX2_greatestCore 51 = .ok (.invokestatic 21, 3) := by decide +kernel
theorem dX2_greatestCore_54 : decode cX2_greatestCore 54 = .ok (.if_icmp .le 65, 3) := by decide +kernel
theorem dX2_greatestCore_57 : decode cX2_greatestCore 57 = .ok (.lload 10, 2) := by decide +kernel
theorem dX2_greatestCore_59 : decode cX2_greatestCore 59 = .ok (.invokestatic 31, 3) := by decide +kernel
theorem dX2_greatestCore_62 : decode cX2_greatestCore 62 = .ok (.istore 13, 2) := by decide +kernel
theorem dX2_greatestCore_64 : decode cX2_greatestCore 64 = .ok (.iload 13, 2) := by decide +kernel
theorem dX2_greatestCore_66 : decode cX2_greatestCore 66 = .ok (.ifCond .lt 10, 3) := by decide +kernel
theorem dX2_greatestCore_69 : decode cX2_greatestCore 69 = .ok (.iload 13, 2) := by decide +kernel
theorem dX2_greatestCore_71 : decode cX2_greatestCore 71 = .ok (.aload_n 0, 1) := by decide +kernel
theorem dX2_greatestCore_72 : decode cX2_greatestCore 72 = .ok (.arraylength, 1) := by decide +kernel
theorem dX2_greatestCore_73 : decode cX2_greatestCore 73 = .ok (.if_icmp .lt 6, 3) := by decide +kernel
theorem dX2_greatestCore_76 : decode cX2_greatestCore 76 = .ok (.lload 8, 2) := by decide +kernel
theorem dX2_greatestCore_78 : decode cX2_greatestCore 78 = .ok (.lreturn, 1) := by decide +kernel
theorem dX2_greatestCore_79 : decode cX2_greatestCore 79 = .ok (.lload 10, 2) := by decide +kernel
theorem dX2_greatestCore_81 : decode cX2_greatestCore 81 = .ok (.lload 10, 2) := by decide +kernel
theorem dX2_greatestCore_83 : decode cX2_greatestCore 83 = .ok (.lconst 1, 1) := by decide +kernel
theorem dX2_greatestCore_84 : decode cX2_greatestCore 84 = .ok (.lsub, 1) := by decide +kernel
theorem dX2_greatestCore_85 : decode cX2_greatestCore 85 = .ok (.land, 1) := by decide +kernel
theorem dX2_greatestCore_86 : decode cX2_greatestCore 86 = .ok (.lstore 10, 2) := by decide +kernel
theorem dX2_greatestCore_88 : decode cX2_greatestCore 88 = .ok (.aload_n 0, 1) := by decide +kernel
theorem dX2_greatestCore_89 : decode cX2_greatestCore 89 = .ok (.lload_n 1, 1) := by decide +kernel
theorem dX2_greatestCore_90 : decode cX2_greatestCore 90 = .ok (.lconst 1, 1) := by decide +kernel
theorem dX2_greatestCore_91 : decode cX2_greatestCore 91 = .ok (.iload 13, 2) := by decide +kernel
theorem dX2_greatestCore_93 : decode cX2_greatestCore 93 = .ok (.lshl, 1) := by decide +kernel
theorem dX2_greatestCore_94 : decode cX2_greatestCore 94 = .ok (.lor, 1) := by decide +kernel
theorem dX2_greatestCore_95 : decode cX2_greatestCore 95 = .ok (.lload 10, 2) := by decide +kernel
theorem dX2_greatestCore_97 : decode cX2_greatestCore 97 = .ok (.aload_n 0, 1) := by decide +kernel
theorem dX2_greatestCore_98 : decode cX2_greatestCore 98 = .ok (.iload 13, 2) := by decide +kernel
theorem dX2_greatestCore_100 : decode cX2_greatestCore 100 = .ok (.laload, 1) := by decide +kernel
theorem dX2_greatestCore_101 : decode cX2_greatestCore 101 = .ok (.land, 1) := by decide +kernel
theorem dX2_greatestCore_102 : decode cX2_greatestCore 102 = .ok (.lload 8, 2) := by decide +kernel
theorem dX2_greatestCore_104 : decode cX2_greatestCore 104 = .ok (.iload 7, 2) := by decide +kernel
theorem dX2_greatestCore_106 : decode cX2_greatestCore 106 = .ok (.iconst 1, 1) := by decide +kernel
theorem dX2_greatestCore_107 : decode cX2_greatestCore 107 = .ok (.iadd, 1) := by decide +kernel
theorem dX2_greatestCore_108 : decode cX2_greatestCore 108 = .ok (.invokestatic 34, 3) := by decide +kernel
theorem dX2_greatestCore_111 : decode cX2_greatestCore 111 = .ok (.lstore 8, 2) := by decide +kernel
theorem dX2_greatestCore_113 : decode cX2_greatestCore 113 = .ok (.iinc 12 (-1), 3) := by decide +kernel
theorem dX2_greatestCore_116 : decode cX2_greatestCore 116 = .ok (.goto (-77), 3) := by decide +kernel
theorem dX2_greatestCore_119 : decode cX2_greatestCore 119 = .ok (.lload 8, 2) := by decide +kernel
theorem dX2_greatestCore_121 : decode cX2_greatestCore 121 = .ok (.lreturn, 1) := by decide +kernel
theorem dX3_init_0 : decode cX3_init 0 = .ok (.aload_n 0, 1) := by decide +kernel
theorem dX3_init_1 : decode cX3_init 1 = .ok (.invokespecial 3, 3) := by decide +kernel
theorem dX3_init_4 : decode cX3_init 4 = .ok (.aload_n 0, 1) := by decide +kernel
theorem dX3_init_5 : decode cX3_init 5 = .ok (.bipush 30, 2) := by decide +kernel
theorem dX3_init_7 : decode cX3_init 7 = .ok (.newarray .int, 2) := by decide +kernel
theorem dX3_init_9 : decode cX3_init 9 = .ok (.putfield 9, 3) := by decide +kernel
theorem dX3_init_12 : decode cX3_init 12 = .ok (.aload_n 0, 1) := by decide +kernel
theorem dX3_init_13 : decode cX3_init 13 = .ok (.bipush 30, 2) := by decide +kernel
theorem dX3_init_15 : decode cX3_init 15 = .ok (.newarray .int, 2) := by decide +kernel
theorem dX3_init_17 : decode cX3_init 17 = .ok (.putfield 15, 3) := by decide +kernel
theorem dX3_init_20 : decode cX3_init 20 = .ok (.return_, 1) := by decide +kernel
theorem dX3_keyOf_0 : decode cX3_keyOf 0 = .ok (.aload_n 1, 1) := by decide +kernel
theorem dX3_keyOf_1 : decode cX3_keyOf 1 = .ok (.iload_n 0, 1) := by decide +kernel
theorem dX3_keyOf_2 : decode cX3_keyOf 2 = .ok (.iconst 0, 1) := by decide +kernel
theorem dX3_keyOf_3 : decode cX3_keyOf 3 = .ok (.invokevirtual 18, 3) := by decide +kernel
theorem dX3_keyOf_6 : decode cX3_keyOf 6 = .ok (.ldc 24, 2) := by decide +kernel
theorem dX3_keyOf_8 : decode cX3_keyOf 8 = .ok (.imul, 1) := by decide +kernel
theorem dX3_keyOf_9 : decode cX3_keyOf 9 = .ok (.iload_n 0, 1) := by decide +kernel
theorem dX3_keyOf_10 : decode cX3_keyOf 10 = .ok (.iadd, 1) := by decide +kernel
theorem dX3_keyOf_11 : decode cX3_keyOf 11 = .ok (.ireturn, 1) := by decide +kernel
theorem dX3_numberAt_0 : decode cX3_numberAt 0 = .ok (.iload_n 1, 1) := by decide +kernel
theorem dX3_numberAt_1 : decode cX3_numberAt 1 = .ok (.ifCond .lt 11, 3) := by decide +kernel
theorem dX3_numberAt_4 : decode cX3_numberAt 4 = .ok (.iload_n 1, 1) := by decide +kernel
theorem dX3_numberAt_5 : decode cX3_numberAt 5 = .ok (.aload_n 0, 1) := by decide +kernel
theorem dX3_numberAt_6 : decode cX3_numberAt 6 = .ok (.getfield 25, 3) := by decide +kernel
theorem dX3_numberAt_9 : decode cX3_numberAt 9 = .ok (.if_icmp .lt 7, 3) := by decide +kernel
theorem dX3_numberAt_12 : decode cX3_numberAt 12 = .ok (.iconst (-1), 1) := by decide +kernel
theorem dX3_numberAt_13 : decode cX3_numberAt 13 = .ok (.goto 12, 3) := by decide +kernel
theorem dX3_numberAt_16 : decode cX3_numberAt 16 = .ok (.aload_n 0, 1) := by decide +kernel
theorem dX3_numberAt_17 : decode cX3_numberAt 17 = .ok (.getfield 9, 3) := by decide +kernel
theorem dX3_numberAt_20 : decode cX3_numberAt 20 = .ok (.iload_n 1, 1) := by decide +kernel
theorem dX3_numberAt_21 : decode cX3_numberAt 21 = .ok (.iaload, 1) := by decide +kernel
theorem dX3_numberAt_22 : decode cX3_numberAt 22 = .ok (.ldc 24, 2) := by decide +kernel
theorem dX3_numberAt_24 : decode cX3_numberAt 24 = .ok (.irem, 1) := by decide +kernel
theorem dX3_numberAt_25 : decode cX3_numberAt 25 = .ok (.ireturn, 1) := by decide +kernel
theorem dX3_clear_0 : decode cX3_clear 0 = .ok (.aload_n 0, 1) := by decide +kernel
theorem dX3_clear_1 : decode cX3_clear 1 = .ok (.iconst 0, 1) := by decide +kernel
theorem dX3_clear_2 : decode cX3_clear 2 = .ok (.putfield 25, 3) := by decide +kernel
theorem dX3_clear_5 : decode cX3_clear 5 = .ok (.aload_n 0, 1) := by decide +kernel
theorem dX3_clear_6 : decode cX3_clear 6 = .ok (.iconst 0, 1) := by decide +kernel
theorem dX3_clear_7 : decode cX3_clear 7 = .ok (.putfield 29, 3) := by decide +kernel
theorem dX3_clear_10 : decode cX3_clear 10 = .ok (.return_, 1) := by decide +kernel
theorem dX3_insert_0 : decode cX3_insert 0 = .ok (.aload_n 0, 1) := by decide +kernel
theorem dX3_insert_1 : decode cX3_insert 1 = .ok (.iload_n 1, 1) := by decide +kernel
theorem dX3_insert_2 : decode cX3_insert 2 = .ok (.invokevirtual 32, 3) := by decide +kernel
theorem dX3_insert_5 : decode cX3_insert 5 = .ok (.istore_n 3, 1) := by decide +kernel
theorem dX3_insert_6 : decode cX3_insert 6 = .ok (.aload_n 0, 1) := by decide +kernel
theorem dX3_insert_7 : decode cX3_insert 7 = .ok (.getfield 25, 3) := by decide +kernel
theorem dX3_insert_10 : decode cX3_insert 10 = .ok (.bipush 30, 2) := by decide +kernel
theorem dX3_insert_12 : decode cX3_insert 12 = .ok (.if_icmp .ge 21, 3) := by decide +kernel
theorem dX3_insert_15 : decode cX3_insert 15 = .ok (.iload_n 3, 1) := by decide +kernel
theorem dX3_insert_16 : decode cX3_insert 16 = .ok (.aload_n 0, 1) := by decide +kernel
theorem dX3_insert_17 : decode cX3_insert 17 = .ok (.getfield 25, 3) := by decide +kernel
theorem dX3_insert_20 : decode cX3_insert 20 = .ok (.if_icmp .ge 15, 3) := by decide +kernel
theorem dX3_insert_23 : decode cX3_insert 23 = .ok (.aload_n 0, 1) := by decide +kernel
theorem dX3_insert_24 : decode cX3_insert 24 = .ok (.getfield 9, 3) := by decide +kernel
theorem dX3_insert_27 : decode cX3_insert 27 = .ok (.iload_n 3, 1) := by decide +kernel
theorem dX3_insert_28 : decode cX3_insert 28 = .ok (.iaload, 1) := by decide +kernel
theorem dX3_insert_29 : decode cX3_insert 29 = .ok (.iload_n 1, 1) := by decide +kernel
theorem dX3_insert_30 : decode cX3_insert 30 = .ok (.if_icmp .ne 5, 3) := by decide +kernel
theorem dX3_insert_33 : decode cX3_insert 33 = .ok (.iconst 0, 1) := by decide +kernel
theorem dX3_insert_34 : decode cX3_insert 34 = .ok (.ireturn, 1) := by decide +kernel
theorem dX3_insert_35 : decode cX3_insert 35 = .ok (.aload_n 0, 1) := by decide +kernel
theorem dX3_insert_36 : decode cX3_insert 36 = .ok (.getfield 9, 3) := by decide +kernel
theorem dX3_insert_39 : decode cX3_insert 39 = .ok (.iload_n 3, 1) := by decide +kernel
theorem dX3_insert_40 : decode cX3_insert 40 = .ok (.aload_n 0, 1) := by decide +kernel
theorem dX3_insert_41 : decode cX3_insert 41 = .ok (.getfield 9, 3) := by decide +kernel
theorem dX3_insert_44 : decode cX3_insert 44 = .ok (.iload_n 3, 1) := by decide +kernel
theorem dX3_insert_45 : decode cX3_insert 45 = .ok (.iconst 1, 1) := by decide +kernel
theorem dX3_insert_46 : decode cX3_insert 46 = .ok (.iadd, 1) := by decide +kernel
theorem dX3_insert_47 : decode cX3_insert 47 = .ok (.aload_n 0, 1) := by decide +kernel
theorem dX3_insert_48 : decode cX3_insert 48 = .ok (.getfield 25, 3) := by decide +kernel
theorem dX3_insert_51 : decode cX3_insert 51 = .ok (.iload_n 3, 1) := by decide +kernel
theorem dX3_insert_52 : decode cX3_insert 52 = .ok (.isub, 1) := by decide +kernel
theorem dX3_insert_53 : decode cX3_insert 53 = .ok (.invokestatic 36, 3) := by decide +kernel
theorem dX3_insert_56 : decode cX3_insert 56 = .ok (.aload_n 0, 1) := by decide +kernel
theorem dX3_insert_57 : decode cX3_insert 57 = .ok (.getfield 15, 3) := by decide +kernel
theorem dX3_insert_60 : decode cX3_insert 60 = .ok (.iload_n 3, 1) := by decide +kernel
theorem dX3_insert_61 : decode cX3_insert 61 = .ok (.aload_n 0, 1) := by decide +kernel
theorem dX3_insert_62 : decode cX3_insert 62 = .ok (.getfield 15, 3) := by decide +kernel
theorem dX3_insert_65 : decode cX3_insert 65 = .ok (.iload_n 3, 1) := by decide +kernel
theorem dX3_insert_66 : decode cX3_insert 66 = .ok (.iconst 1, 1) := by decide +kernel
theorem dX3_insert_67 : decode cX3_insert 67 = .ok (.iadd, 1) := by decide +kernel
theorem dX3_insert_68 : decode cX3_insert 68 = .ok (.aload_n 0, 1) := by decide +kernel
theorem dX3_insert_69 : decode cX3_insert 69 = .ok (.getfield 25, 3) := by decide +kernel
theorem dX3_insert_72 : decode cX3_insert 72 = .ok (.iload_n 3, 1) := by decide +kernel
theorem dX3_insert_73 : decode cX3_insert 73 = .ok (.isub, 1) := by decide +kernel
theorem dX3_insert_74 : decode cX3_insert 74 = .ok (.invokestatic 36, 3) := by decide +kernel
theorem dX3_insert_77 : decode cX3_insert 77 = .ok (.aload_n 0, 1) := by decide +kernel
theorem dX3_insert_78 : decode cX3_insert 78 = .ok (.getfield 9, 3) := by decide +kernel
theorem dX3_insert_81 : decode cX3_insert 81 = .ok (.iload_n 3, 1) := by decide +kernel
theorem dX3_insert_82 : decode cX3_insert 82 = .ok (.iload_n 1, 1) := by decide +kernel
theorem dX3_insert_83 : decode cX3_insert 83 = .ok (.iastore, 1) := by decide +kernel
theorem dX3_insert_84 : decode cX3_insert 84 = .ok (.aload_n 0, 1) := by decide +kernel
theorem dX3_insert_85 : decode cX3_insert 85 = .ok (.getfield 15, 3) := by decide +kernel
theorem dX3_insert_88 : decode cX3_insert 88 = .ok (.iload_n 3, 1) := by decide +kernel
theorem dX3_insert_89 : decode cX3_insert 89 = .ok (.iload_n 2, 1) := by decide +kernel
theorem dX3_insert_90 : decode cX3_insert 90 = .ok (.iastore, 1) := by decide +kernel
theorem dX3_insert_91 : decode cX3_insert 91 = .ok (.aload_n 0, 1) := by decide +kernel
theorem dX3_insert_92 : decode cX3_insert 92 = .ok (.dup, 1) := by decide +kernel
theorem dX3_insert_93 : decode cX3_insert 93 = .ok (.getfield 25, 3) := by decide +kernel
theorem dX3_insert_96 : decode cX3_insert 96 = .ok (.iconst 1, 1) := by decide +kernel
theorem dX3_insert_97 : decode cX3_insert 97 = .ok (.iadd, 1) := by decide +kernel
theorem dX3_insert_98 : decode cX3_insert 98 = .ok (.putfield 25, 3) := by decide +kernel
theorem dX3_insert_101 : decode cX3_insert 101 = .ok (.aload_n 0, 1) := by decide +kernel
theorem dX3_insert_102 : decode cX3_insert 102 = .ok (.dup, 1) := by decide +kernel
theorem dX3_insert_103 : decode cX3_insert 103 = .ok (.getfield 29, 3) := by decide +kernel
theorem dX3_insert_106 : decode cX3_insert 106 = .ok (.iload_n 2, 1) := by decide +kernel
theorem dX3_insert_107 : decode cX3_insert 107 = .ok (.iadd, 1) := by decide +kernel
theorem dX3_insert_108 : decode cX3_insert 108 = .ok (.putfield 29, 3) := by decide +kernel
theorem dX3_insert_111 : decode cX3_insert 111 = .ok (.iconst 1, 1) := by decide +kernel
theorem dX3_insert_112 : decode cX3_insert 112 = .ok (.ireturn, 1) := by decide +kernel
theorem dX3_remove_0 : decode cX3_remove 0 = .ok (.aload_n 0, 1) := by decide +kernel
theorem dX3_remove_1 : decode cX3_remove 1 = .ok (.iload_n 1, 1) := by decide +kernel
theorem dX3_remove_2 : decode cX3_remove 2 = .ok (.invokevirtual 32, 3) := by decide +kernel
theorem dX3_remove_5 : decode cX3_remove 5 = .ok (.istore_n 2, 1) := by decide +kernel
theorem dX3_remove_6 : decode cX3_remove 6 = .ok (.iload_n 2, 1) := by decide +kernel
theorem dX3_remove_7 : decode cX3_remove 7 = .ok (.aload_n 0, 1) := by decide +kernel
theorem dX3_remove_8 : decode cX3_remove 8 = .ok (.getfield 25, 3) := by decide +kernel
theorem dX3_remove_11 : decode cX3_remove 11 = .ok (.if_icmp .ge 13, 3) := by decide +kernel
theorem dX3_remove_14 : decode cX3_remove 14 = .ok (.aload_n 0, 1) := by decide +kernel
theorem dX3_remove_15 : decode cX3_remove 15 = .ok (.getfield 9, 3) := by decide +kernel
theorem dX3_remove_18 : decode cX3_remove 18 = .ok (.iload_n 2, 1) := by decide +kernel
theorem dX3_remove_19 : decode cX3_remove 19 = .ok (.iaload, 1) := by decide +kernel
theorem dX3_remove_20 : decode cX3_remove 20 = .ok (.iload_n 1, 1) := by decide +kernel
theorem dX3_remove_21 : decode cX3_remove 21 = .ok (.if_icmp .eq 5, 3) := by decide +kernel
theorem dX3_remove_24 : decode cX3_remove 24 = .ok (.iconst 0, 1) := by decide +kernel
theorem dX3_remove_25 : decode cX3_remove 25 = .ok (.ireturn, 1) := by decide +kernel
theorem dX3_remove_26 : decode cX3_remove 26 = .ok (.aload_n 0, 1) := by decide +kernel
theorem dX3_remove_27 : decode cX3_remove 27 = .ok (.dup, 1) := by decide +kernel
theorem dX3_remove_28 : decode cX3_remove 28 = .ok (.getfield 25, 3) := by decide +kernel
theorem dX3_remove_31 : decode cX3_remove 31 = .ok (.iconst 1, 1) := by decide +kernel
theorem dX3_remove_32 : decode cX3_remove 32 = .ok (.isub, 1) := by decide +kernel
theorem dX3_remove_33 : decode cX3_remove 33 = .ok (.putfield 25, 3) := by decide +kernel
theorem dX3_remove_36 : decode cX3_remove 36 = .ok (.aload_n 0, 1) := by decide +kernel
theorem dX3_remove_37 : decode cX3_remove 37 = .ok (.dup, 1) := by decide +kernel
theorem dX3_remove_38 : decode cX3_remove 38 = .ok (.getfield 29, 3) := by decide +kernel
theorem dX3_remove_41 : decode cX3_remove 41 = .ok (.aload_n 0, 1) := by decide +kernel
theorem dX3_remove_42 : decode cX3_remove 42 = .ok (.getfield 15, 3) := by decide +kernel
theorem dX3_remove_45 : decode cX3_remove 45 = .ok (.iload_n 2, 1) := by decide +kernel
theorem dX3_remove_46 : decode cX3_remove 46 = .ok (.iaload, 1) := by decide +kernel
theorem dX3_remove_47 : decode cX3_remove 47 = .ok (.isub, 1) := by decide +kernel
theorem dX3_remove_48 : decode cX3_remove 48 = .ok (.putfield 29, 3) := by decide +kernel
theorem dX3_remove_51 : decode cX3_remove 51 = .ok (.aload_n 0, 1) := by decide +kernel
theorem dX3_remove_52 : decode cX3_remove 52 = .ok (.getfield 9, 3) := by decide +kernel
theorem dX3_remove_55 : decode cX3_remove 55 = .ok (.iload_n 2, 1) := by decide +kernel
theorem dX3_remove_56 : decode cX3_remove 56 = .ok (.iconst 1, 1) := by decide +kernel
theorem dX3_remove_57 : decode cX3_remove 57 = .ok (.iadd, 1) := by decide +kernel
theorem dX3_remove_58 : decode cX3_remove 58 = .ok (.aload_n 0, 1) := by decide +kernel
theorem dX3_remove_59 : decode cX3_remove 59 = .ok (.getfield 9, 3) := by decide +kernel
theorem dX3_remove_62 : decode cX3_remove 62 = .ok (.iload_n 2, 1) := by decide +kernel
theorem dX3_remove_63 : decode cX3_remove 63 = .ok (.aload_n 0, 1) := by decide +kernel
theorem dX3_remove_64 : decode cX3_remove 64 = .ok (.getfield 25, 3) := by decide +kernel
theorem dX3_remove_67 : decode cX3_remove 67 = .ok (.iload_n 2, 1) := by decide +kernel
theorem dX3_remove_68 : decode cX3_remove 68 = .ok (.isub, 1) := by decide +kernel
theorem dX3_remove_69 : decode cX3_remove 69 = .ok (.invokestatic 36, 3) := by decide +kernel
theorem dX3_remove_72 : decode cX3_remove 72 = .ok (.aload_n 0, 1) := by decide +kernel
theorem dX3_remove_73 : decode cX3_remove 73 = .ok (.getfield 15, 3) := by decide +kernel
theorem dX3_remove_76 : decode cX3_remove 76 = .ok (.iload_n 2, 1) := by decide +kernel
theorem dX3_remove_77 : decode cX3_remove 77 = .ok (.iconst 1, 1) := by decide +kernel
theorem dX3_remove_78 : decode cX3_remove 78 = .ok (.iadd, 1) := by decide +kernel
theorem dX3_remove_79 : decode cX3_remove 79 = .ok (.aload_n 0, 1) := by decide +kernel
theorem dX3_remove_80 : decode cX3_remove 80 = .ok (.getfield 15, 3) := by decide +kernel
theorem dX3_remove_83 : decode cX3_remove 83 = .ok (.iload_n 2, 1) := by decide +kernel
theorem dX3_remove_84 : decode cX3_remove 84 = .ok (.aload_n 0, 1) := by decide +kernel
theorem dX3_remove_85 : decode cX3_remove 85 = .ok (.getfield 25, 3) := by decide +kernel
theorem dX3_remove_88 : decode cX3_remove 88 = .ok (.iload_n 2, 1) := by decide +kernel
theorem dX3_remove_89 : decode cX3_remove 89 = .ok (.isub, 1) := by decide +kernel
theorem dX3_remove_90 : decode cX3_remove 90 = .ok (.invokestatic 36, 3) := by decide +kernel
theorem dX3_remove_93 : decode cX3_remove 93 = .ok (.iconst 1, 1) := by decide +kernel
theorem dX3_remove_94 : decode cX3_remove 94 = .ok (.ireturn, 1) := by decide +kernel
theorem dX3_reweigh_0 : decode cX3_reweigh 0 = .ok (.iload_n 1, 1) := by decide +kernel
theorem dX3_reweigh_1 : decode cX3_reweigh 1 = .ok (.ifCond .lt 35, 3) := by decide +kernel
theorem dX3_reweigh_4 : decode cX3_reweigh 4 = .ok (.iload_n 1, 1) := by decide +kernel
theorem dX3_reweigh_5 : decode cX3_reweigh 5 = .ok (.aload_n 0, 1) := by decide +kernel
theorem dX3_reweigh_6 : decode cX3_reweigh 6 = .ok (.getfield 25, 3) := by decide +kernel
theorem dX3_reweigh_9 : decode cX3_reweigh 9 = .ok (.if_icmp .ge 27, 3) := by decide +kernel
theorem dX3_reweigh_12 : decode cX3_reweigh 12 = .ok (.aload_n 0, 1) := by decide +kernel
theorem dX3_reweigh_13 : decode cX3_reweigh 13 = .ok (.dup, 1) := by decide +kernel
theorem dX3_reweigh_14 : decode cX3_reweigh 14 = .ok (.getfield 29, 3) := by decide +kernel
theorem dX3_reweigh_17 : decode cX3_reweigh 17 = .ok (.iload_n 2, 1) := by decide +kernel
theorem dX3_reweigh_18 : decode cX3_reweigh 18 = .ok (.aload_n 0, 1) := by decide +kernel
theorem dX3_reweigh_19 : decode cX3_reweigh 19 = .ok (.getfield 15, 3) := by decide +kernel
theorem dX3_reweigh_22 : decode cX3_reweigh 22 = .ok (.iload_n 1, 1) := by decide +kernel
theorem dX3_reweigh_23 : decode cX3_reweigh 23 = .ok (.iaload, 1) := by decide +kernel
theorem dX3_reweigh_24 : decode cX3_reweigh 24 = .ok (.isub, 1) := by decide +kernel
theorem dX3_reweigh_25 : decode cX3_reweigh 25 = .ok (.iadd, 1) := by decide +kernel
theorem dX3_reweigh_26 : decode cX3_reweigh 26 = .ok (.putfield 29, 3) := by decide +kernel
theorem dX3_reweigh_29 : decode cX3_reweigh 29 = .ok (.aload_n 0, 1) := by decide +kernel
theorem dX3_reweigh_30 : decode cX3_reweigh 30 = .ok (.getfield 15, 3) := by decide +kernel
theorem dX3_reweigh_33 : decode cX3_reweigh 33 = .ok (.iload_n 1, 1) := by decide +kernel
theorem dX3_reweigh_34 : decode cX3_reweigh 34 = .ok (.iload_n 2, 1) := by decide +kernel
theorem dX3_reweigh_35 : decode cX3_reweigh 35 = .ok (.iastore, 1) := by decide +kernel
theorem dX3_reweigh_36 : decode cX3_reweigh 36 = .ok (.return_, 1) := by decide +kernel
theorem dX3_putInOrder_0 : decode cX3_putInOrder 0 = .ok (.aload_n 0, 1) := by decide +kernel
theorem dX3_putInOrder_1 : decode cX3_putInOrder 1 = .ok (.getfield 25, 3) := by decide +kernel
theorem dX3_putInOrder_4 : decode cX3_putInOrder 4 = .ok (.istore_n 2, 1) := by decide +kernel
theorem dX3_putInOrder_5 : decode cX3_putInOrder 5 = .ok (.aload_n 0, 1) := by decide +kernel
theorem dX3_putInOrder_6 : decode cX3_putInOrder 6 = .ok (.invokevirtual 42, 3) := by decide +kernel
theorem dX3_putInOrder_9 : decode cX3_putInOrder 9 = .ok (.iconst 0, 1) := by decide +kernel
theorem dX3_putInOrder_10 : decode cX3_putInOrder 10 = .ok (.istore_n 3, 1) := by decide +kernel
theorem dX3_putInOrder_11 : decode cX3_putInOrder 11 = .ok (.iload_n 3, 1) := by decide +kernel
theorem dX3_putInOrder_12 : decode cX3_putInOrder 12 = .ok (.iload_n 2, 1) := by decide +kernel
theorem dX3_putInOrder_13 : decode cX3_putInOrder 13 = .ok (.if_icmp .ge 33, 3) := by decide +kernel
theorem dX3_putInOrder_16 : decode cX3_putInOrder 16 = .ok (.aload_n 0, 1) := by decide +kernel
theorem dX3_putInOrder_17 : decode cX3_putInOrder 17 = .ok (.aload_n 0, 1) := by decide +kernel
theorem dX3_putInOrder_18 : decode cX3_putInOrder 18 = .ok (.getfield 9, 3) := by decide +kernel
theorem dX3_putInOrder_21 : decode cX3_putInOrder 21 = .ok (.iload_n 3, 1) := by decide +kernel
theorem dX3_putInOrder_22 : decode cX3_putInOrder 22 = .ok (.iaload, 1) := by decide +kernel
theorem dX3_putInOrder_23 : decode cX3_putInOrder 23 = .ok (.ldc 24, 2) := by decide +kernel
theorem dX3_putInOrder_25 : decode cX3_putInOrder 25 = .ok (.irem, 1) := by decide +kernel
theorem dX3_putInOrder_26 : decode cX3_putInOrder 26 = .ok (.aload_n 1, 1) := by decide +kernel
theorem dX3_putInOrder_27 : decode cX3_putInOrder 27 = .ok (.invokestatic 45, 3) := by decide +kernel
theorem dX3_putInOrder_30 : decode cX3_putInOrder 30 = .ok (.aload_n 0, 1) := by decide +kernel
theorem dX3_putInOrder_31 : decode cX3_putInOrder 31 = .ok (.getfield 15, 3) := by decide +kernel
theorem dX3_putInOrder_34 : decode cX3_putInOrder 34 = .ok (.iload_n 3, 1) := by decide +kernel
theorem dX3_putInOrder_35 : decode cX3_putInOrder 35 = .ok (.iaload, 1) := by decide +kernel
theorem dX3_putInOrder_36 : decode cX3_putInOrder 36 = .ok (.invokevirtual 49, 3) := by decide +kernel
theorem dX3_putInOrder_39 : decode cX3_putInOrder 39 = .ok (.pop, 1) := by decide +kernel
theorem dX3_putInOrder_40 : decode cX3_putInOrder 40 = .ok (.iinc 3 1, 3) := by decide +kernel
theorem dX3_putInOrder_43 : decode cX3_putInOrder 43 = .ok (.goto (-32), 3) := by decide +kernel
theorem dX3_putInOrder_46 : decode cX3_putInOrder 46 = .ok (.return_, 1) := by decide +kernel
theorem dX3_countBeginning_0 : decode cX3_countBeginning 0 = .ok (.iconst 0, 1) := by decide +kernel
theorem dX3_countBeginning_1 : decode cX3_countBeginning 1 = .ok (.istore_n 3, 1) := by decide +kernel
theorem dX3_countBeginning_2 : decode cX3_countBeginning 2 = .ok (.aload_n 0, 1) := by decide +kernel
theorem dX3_countBeginning_3 : decode cX3_countBeginning 3 = .ok (.getfield 29, 3) := by decide +kernel
theorem dX3_countBeginning_6 : decode cX3_countBeginning 6 = .ok (.istore 4, 2) := by decide +kernel
theorem dX3_countBeginning_8 : decode cX3_countBeginning 8 = .ok (.iload_n 3, 1) := by decide +kernel
theorem dX3_countBeginning_9 : decode cX3_countBeginning 9 = .ok (.aload_n 0, 1) := by decide +kernel
theorem dX3_countBeginning_10 : decode cX3_countBeginning 10 = .ok (.getfield 25, 3) := by decide +kernel
theorem dX3_countBeginning_13 : decode cX3_countBeginning 13 = .ok (.if_icmp .ge 28, 3) := by decide +kernel
theorem dX3_countBeginning_16 : decode cX3_countBeginning 16 = .ok (.iload 4, 2) := by decide +kernel
theorem dX3_countBeginning_18 : decode cX3_countBeginning 18 = .ok (.i2l, 1) := by decide +kernel
theorem dX3_countBeginning_19 : decode cX3_countBeginning 19 = .ok (.lload_n 1, 1) := by decide +kernel
theorem dX3_countBeginning_20 : decode cX3_countBeginning 20 = .ok (.lcmp, 1) := by decide +kernel
theorem dX3_countBeginning_21 : decode cX3_countBeginning 21 = .ok (.ifCond .lt 20, 3) := by decide +kernel
theorem dX3_countBeginning_24 : decode cX3_countBeginning 24 = .ok (.iload 4, 2) := by decide +kernel
theorem dX3_countBeginning_26 : decode cX3_countBeginning 26 = .ok (.aload_n 0, 1) := by decide +kernel
theorem dX3_countBeginning_27 : decode cX3_countBeginning 27 = .ok (.getfield 15, 3) := by decide +kernel
theorem dX3_countBeginning_30 : decode cX3_countBeginning 30 = .ok (.iload_n 3, 1) := by decide +kernel
theorem dX3_countBeginning_31 : decode cX3_countBeginning 31 = .ok (.iaload, 1) := by decide +kernel
theorem dX3_countBeginning_32 : decode cX3_countBeginning 32 = .ok (.isub, 1) := by decide +kernel
theorem dX3_countBeginning_33 : decode cX3_countBeginning 33 = .ok (.istore 4, 2) := by decide +kernel
theorem dX3_countBeginning_35 : decode cX3_countBeginning 35 = .ok (.iinc 3 1, 3) := by decide +kernel
theorem dX3_countBeginning_38 : decode cX3_countBeginning 38 = .ok (.goto (-30), 3) := by decide +kernel
theorem dX3_countBeginning_41 : decode cX3_countBeginning 41 = .ok (.iload_n 3, 1) := by decide +kernel
theorem dX3_countBeginning_42 : decode cX3_countBeginning 42 = .ok (.ireturn, 1) := by decide +kernel
theorem dX3_amountBehind_0 : decode cX3_amountBehind 0 = .ok (.iconst 0, 1) := by decide +kernel
theorem dX3_amountBehind_1 : decode cX3_amountBehind 1 = .ok (.istore_n 2, 1) := by decide +kernel
theorem dX3_amountBehind_2 : decode cX3_amountBehind 2 = .ok (.iload_n 1, 1) := by decide +kernel
theorem dX3_amountBehind_3 : decode cX3_amountBehind 3 = .ok (.iconst 1, 1) := by decide +kernel
theorem dX3_amountBehind_4 : decode cX3_amountBehind 4 = .ok (.iadd, 1) := by decide +kernel
theorem dX3_amountBehind_5 : decode cX3_amountBehind 5 = .ok (.istore_n 3, 1) := by decide +kernel
theorem dX3_amountBehind_6 : decode cX3_amountBehind 6 = .ok (.iload_n 3, 1) := by decide +kernel
theorem dX3_amountBehind_7 : decode cX3_amountBehind 7 = .ok (.aload_n 0, 1) := by decide +kernel
theorem dX3_amountBehind_8 : decode cX3_amountBehind 8 = .ok (.getfield 25, 3) := by decide +kernel
theorem dX3_amountBehind_11 : decode cX3_amountBehind 11 = .ok (.if_icmp .ge 18, 3) := by decide +kernel
theorem dX3_amountBehind_14 : decode cX3_amountBehind 14 = .ok (.iload_n 2, 1) := by decide +kernel
theorem dX3_amountBehind_15 : decode cX3_amountBehind 15 = .ok (.aload_n 0, 1) := by decide +kernel
theorem dX3_amountBehind_16 : decode cX3_amountBehind 16 = .ok (.getfield 15, 3) := by decide +kernel
theorem dX3_amountBehind_19 : decode cX3_amountBehind 19 = .ok (.iload_n 3, 1) := by decide +kernel
theorem dX3_amountBehind_20 : decode cX3_amountBehind 20 = .ok (.iaload, 1) := by decide +kernel
theorem dX3_amountBehind_21 : decode cX3_amountBehind 21 = .ok (.iadd, 1) := by decide +kernel
theorem dX3_amountBehind_22 : decode cX3_amountBehind 22 = .ok (.istore_n 2, 1) := by decide +kernel
theorem dX3_amountBehind_23 : decode cX3_amountBehind 23 = .ok (.iinc 3 1, 3) := by decide +kernel
theorem dX3_amountBehind_26 : decode cX3_amountBehind 26 = .ok (.goto (-20), 3) := by decide +kernel
theorem dX3_amountBehind_29 : decode cX3_amountBehind 29 = .ok (.iload_n 2, 1) := by decide +kernel
theorem dX3_amountBehind_30 : decode cX3_amountBehind 30 = .ok (.ireturn, 1) := by decide +kernel
theorem dX3_placeOf_0 : decode cX3_placeOf 0 = .ok (.iconst 0, 1) := by decide +kernel
theorem dX3_placeOf_1 : decode cX3_placeOf 1 = .ok (.istore_n 2, 1) := by decide +kernel
theorem dX3_placeOf_2 : decode cX3_placeOf 2 = .ok (.iload_n 2, 1) := by decide +kernel
theorem dX3_placeOf_3 : decode cX3_placeOf 3 = .ok (.aload_n 0, 1) := by decide +kernel
theorem dX3_placeOf_4 : decode cX3_placeOf 4 = .ok (.getfield 25, 3) := by decide +kernel
theorem dX3_placeOf_7 : decode cX3_placeOf 7 = .ok (.if_icmp .ge 19, 3) := by decide +kernel
theorem dX3_placeOf_10 : decode cX3_placeOf 10 = .ok (.aload_n 0, 1) := by decide +kernel
theorem dX3_placeOf_11 : decode cX3_placeOf 11 = .ok (.getfield 9, 3) := by decide +kernel
theorem dX3_placeOf_14 : decode cX3_placeOf 14 = .ok (.iload_n 2, 1) := by decide +kernel
theorem dX3_placeOf_15 : decode cX3_placeOf 15 = .ok (.iaload, 1) := by decide +kernel
theorem dX3_placeOf_16 : decode cX3_placeOf 16 = .ok (.iload_n 1, 1) := by decide +kernel
theorem dX3_placeOf_17 : decode cX3_placeOf 17 = .ok (.if_icmp .ge 9, 3) := by decide +kernel
theorem dX3_placeOf_20 : decode cX3_placeOf 20 = .ok (.iinc 2 1, 3) := by decide +kernel
theorem dX3_placeOf_23 : decode cX3_placeOf 23 = .ok (.goto (-21), 3) := by decide +kernel
theorem dX3_placeOf_26 : decode cX3_placeOf 26 = .ok (.iload_n 2, 1) := by decide +kernel
theorem dX3_placeOf_27 : decode cX3_placeOf 27 = .ok (.ireturn, 1) := by decide +kernel
theorem dX4_init_0 : decode cX4_init 0 = .ok (.aload_n 0, 1) := by decide +kernel
theorem dX4_init_1 : decode cX4_init 1 = .ok (.invokespecial 1, 3) := by decide +kernel
theorem dX4_init_4 : decode cX4_init 4 = .ok (.return_, 1) := by decide +kernel
theorem dX4_compare_0 : decode cX4_compare 0 = .ok (.aload_n 0, 1) := by decide +kernel
theorem dX4_compare_1 : decode cX4_compare 1 = .ok (.iconst 0, 1) := by decide +kernel
theorem dX4_compare_2 : decode cX4_compare 2 = .ok (.putfield 7, 3) := by decide +kernel
theorem dX4_compare_5 : decode cX4_compare 5 = .ok (.aload_n 0, 1) := by decide +kernel
theorem dX4_compare_6 : decode cX4_compare 6 = .ok (.iconst 0, 1) := by decide +kernel
theorem dX4_compare_7 : decode cX4_compare 7 = .ok (.putfield 13, 3) := by decide +kernel
theorem dX4_compare_10 : decode cX4_compare 10 = .ok (.aload_n 0, 1) := by decide +kernel
theorem dX4_compare_11 : decode cX4_compare 11 = .ok (.iconst 0, 1) := by decide +kernel
theorem dX4_compare_12 : decode cX4_compare 12 = .ok (.putfield 16, 3) := by decide +kernel
theorem dX4_compare_15 : decode cX4_compare 15 = .ok (.iconst 0, 1) := by decide +kernel
theorem dX4_compare_16 : decode cX4_compare 16 = .ok (.istore 5, 2) := by decide +kernel
theorem dX4_compare_18 : decode cX4_compare 18 = .ok (.iconst 0, 1) := by decide +kernel
theorem dX4_compare_19 : decode cX4_compare 19 = .ok (.istore 6, 2) := by decide +kernel
theorem dX4_compare_21 : decode cX4_compare 21 = .ok (.iload 5, 2) := by decide +kernel
theorem dX4_compare_23 : decode cX4_compare 23 = .ok (.aload_n 1, 1) := by decide +kernel
theorem dX4_compare_24 : decode cX4_compare 24 = .ok (.getfield 19, 3) := by decide +kernel
theorem dX4_compare_27 : decode cX4_compare 27 = .ok (.if_icmp .ge 133, 3) := by decide +kernel
theorem dX4_compare_30 : decode cX4_compare 30 = .ok (.iload 6, 2) := by decide +kernel
theorem dX4_compare_32 : decode cX4_compare 32 = .ok (.aload_n 3, 1) := by decide +kernel
theorem dX4_compare_33 : decode cX4_compare 33 = .ok (.getfield 19, 3) := by decide +kernel
theorem dX4_compare_36 : decode cX4_compare 36 = .ok (.if_icmp .ge 124, 3) := by decide +kernel
theorem dX4_compare_39 : decode cX4_compare 39 = .ok (.aload_n 1, 1) := by decide +kernel
theorem dX4_compare_40 : decode cX4_compare 40 = .ok (.getfield 24, 3) := by decide +kernel
theorem dX4_compare_43 : decode cX4_compare 43 = .ok (.iload 5, 2) := by decide +kernel
theorem dX4_compare_45 : decode cX4_compare 45 = .ok (.iaload, 1) := by decide +kernel
theorem dX4_compare_46 : decode cX4_compare 46 = .ok (.istore 7, 2) := by decide +kernel
theorem dX4_compare_48 : decode cX4_compare 48 = .ok (.aload_n 3, 1) := by decide +kernel
theorem dX4_compare_49 : decode cX4_compare 49 = .ok (.getfield 24, 3) := by decide +kernel
theorem dX4_compare_52 : decode cX4_compare 52 = .ok (.iload 6, 2) := by decide +kernel
theorem dX4_compare_54 : decode cX4_compare 54 = .ok (.iaload, 1) := by decide +kernel
theorem dX4_compare_55 : decode cX4_compare 55 = .ok (.istore 8, 2) := by decide +kernel
theorem dX4_compare_57 : decode cX4_compare 57 = .ok (.iload 7, 2) := by decide +kernel
theorem dX4_compare_59 : decode cX4_compare 59 = .ok (.iload 8, 2) := by decide +kernel
theorem dX4_compare_61 : decode cX4_compare 61 = .ok (.if_icmp .ne 76, 3) := by decide +kernel
theorem dX4_compare_64 : decode cX4_compare 64 = .ok (.aload_n 0, 1) := by decide +kernel
theorem dX4_compare_65 : decode cX4_compare 65 = .ok (.getfield 7, 3) := by decide +kernel
theorem dX4_compare_68 : decode cX4_compare 68 = .ok (.ifCond .ne 30, 3) := by decide +kernel
theorem dX4_compare_71 : decode cX4_compare 71 = .ok (.aload_n 0, 1) := by decide +kernel
theorem dX4_compare_72 : decode cX4_compare 72 = .ok (.aload_n 1, 1) := by decide +kernel
theorem dX4_compare_73 : decode cX4_compare 73 = .ok (.getfield 28, 3) := by decide +kernel
theorem dX4_compare_76 : decode cX4_compare 76 = .ok (.iload 5, 2) := by decide +kernel
theorem dX4_compare_78 : decode cX4_compare 78 = .ok (.iaload, 1) := by decide +kernel
theorem dX4_compare_79 : decode cX4_compare 79 = .ok (.aload_n 1, 1) := by decide +kernel
theorem dX4_compare_80 : decode cX4_compare 80 = .ok (.iload 5, 2) := by decide +kernel
theorem dX4_compare_82 : decode cX4_compare 82 = .ok (.invokevirtual 31, 3) := by decide +kernel
theorem dX4_compare_85 : decode cX4_compare 85 = .ok (.aload_n 3, 1) := by decide +kernel
theorem dX4_compare_86 : decode cX4_compare 86 = .ok (.iload 6, 2) := by decide +kernel
theorem dX4_compare_88 : decode cX4_compare 88 = .ok (.invokevirtual 31, 3) := by decide +kernel
theorem dX4_compare_91 : decode cX4_compare 91 = .ok (.invokestatic 35, 3) := by decide +kernel
theorem dX4_compare_94 : decode cX4_compare 94 = .ok (.iadd, 1) := by decide +kernel
theorem dX4_compare_95 : decode cX4_compare 95 = .ok (.putfield 16, 3) := by decide +kernel
theorem dX4_compare_98 : decode cX4_compare 98 = .ok (.iload 5, 2) := by decide +kernel
theorem dX4_compare_100 : decode cX4_compare 100 = .ok (.iload_n 2, 1) := by decide +kernel
theorem dX4_compare_101 : decode cX4_compare 101 = .ok (.if_icmp .ge 20, 3) := by decide +kernel
theorem dX4_compare_104 : decode cX4_compare 104 = .ok (.iload 6, 2) := by decide +kernel
theorem dX4_compare_106 : decode cX4_compare 106 = .ok (.iload 4, 2) := by decide +kernel
theorem dX4_compare_108 : decode cX4_compare 108 = .ok (.if_icmp .ge 13, 3) := by decide +kernel
theorem dX4_compare_111 : decode cX4_compare 111 = .ok (.aload_n 0, 1) := by decide +kernel
theorem dX4_compare_112 : decode cX4_compare 112 = .ok (.dup, 1) := by decide +kernel
theorem dX4_compare_113 : decode cX4_compare 113 = .ok (.getfield 13, 3) := by decide +kernel
theorem dX4_compare_116 : decode cX4_compare 116 = .ok (.iconst 1, 1) := by decide +kernel
theorem dX4_compare_117 : decode cX4_compare 117 = .ok (.iadd, 1) := by decide +kernel
theorem dX4_compare_118 : decode cX4_compare 118 = .ok (.putfield 13, 3) := by decide +kernel
theorem dX4_compare_121 : decode cX4_compare 121 = .ok (.aload_n 0, 1) := by decide +kernel
theorem dX4_compare_122 : decode cX4_compare 122 = .ok (.dup, 1) := by decide +kernel
theorem dX4_compare_123 : decode cX4_compare 123 = .ok (.getfield 7, 3) := by decide +kernel
theorem dX4_compare_126 : decode cX4_compare 126 = .ok (.aload_n 1, 1) := by decide +kernel
theorem dX4_compare_127 : decode cX4_compare 127 = .ok (.getfield 28, 3) := by decide +kernel
theorem dX4_compare_130 : decode cX4_compare 130 = .ok (.iload 5, 2) := by decide +kernel
theorem dX4_compare_132 : decode cX4_compare 132 = .ok (.iaload, 1) := by decide +kernel
theorem dX4_compare_133 : decode cX4_compare 133 = .ok (.iadd, 1) := by decide +kernel
theorem dX4_compare_134 : decode cX4_compare 134 = .ok (.putfield 7, 3) := by decide +kernel
theorem dX4_compare_137 : decode cX4_compare 137 = .ok (.iload 7, 2) := by decide +kernel
theorem dX4_compare_139 : decode cX4_compare 139 = .ok (.iload 8, 2) := by decide +kernel
theorem dX4_compare_141 : decode cX4_compare 141 = .ok (.if_icmp .gt 6, 3) := by decide +kernel
theorem dX4_compare_144 : decode cX4_compare 144 = .ok (.iinc 5 1, 3) := by decide +kernel
theorem dX4_compare_147 : decode cX4_compare 147 = .ok (.iload 8, 2) := by decide +kernel
theorem dX4_compare_149 : decode cX4_compare 149 = .ok (.iload 7, 2) := by decide +kernel
theorem dX4_compare_151 : decode cX4_compare 151 = .ok (.if_icmp .gt 6, 3) := by decide +kernel
theorem dX4_compare_154 : decode cX4_compare 154 = .ok (.iinc 6 1, 3) := by decide +kernel
theorem dX4_compare_157 : decode cX4_compare 157 = .ok (.goto (-136), 3) := by decide +kernel
theorem dX4_compare_160 : decode cX4_compare 160 = .ok (.return_, 1) := by decide +kernel
theorem dX5_init_0 : decode cX5_init 0 = .ok (.aload_n 0, 1) := by decide +kernel
theorem dX5_init_1 : decode cX5_init 1 = .ok (.invokespecial 1, 3) := by decide +kernel
theorem dX5_init_4 : decode cX5_init 4 = .ok (.aload_n 0, 1) := by decide +kernel
theorem dX5_init_5 : decode cX5_init 5 = .ok (.iload_n 1, 1) := by decide +kernel
theorem dX5_init_6 : decode cX5_init 6 = .ok (.newarray .int, 2) := by decide +kernel
theorem dX5_init_8 : decode cX5_init 8 = .ok (.putfield 7, 3) := by decide +kernel
theorem dX5_init_11 : decode cX5_init 11 = .ok (.aload_n 0, 1) := by decide +kernel
theorem dX5_init_12 : decode cX5_init 12 = .ok (.iload_n 1, 1) := by decide +kernel
theorem dX5_init_13 : decode cX5_init 13 = .ok (.newarray .int, 2) := by decide +kernel
theorem dX5_init_15 : decode cX5_init 15 = .ok (.putfield 13, 3) := by decide +kernel
theorem dX5_init_18 : decode cX5_init 18 = .ok (.return_, 1) := by decide +kernel
theorem dX5_clear_0 : decode cX5_clear 0 = .ok (.aload_n 0, 1) := by decide +kernel
theorem dX5_clear_1 : decode cX5_clear 1 = .ok (.iconst 0, 1) := by decide +kernel
theorem dX5_clear_2 : decode cX5_clear 2 = .ok (.putfield 16, 3) := by decide +kernel
theorem dX5_clear_5 : decode cX5_clear 5 = .ok (.return_, 1) := by decide +kernel
theorem dX5_valueOf_0 : decode cX5_valueOf 0 = .ok (.aload_n 0, 1) := by decide +kernel
theorem dX5_valueOf_1 : decode cX5_valueOf 1 = .ok (.iload_n 1, 1) := by decide +kernel
theorem dX5_valueOf_2 : decode cX5_valueOf 2 = .ok (.invokevirtual 20, 3) := by decide +kernel
theorem dX5_valueOf_5 : decode cX5_valueOf 5 = .ok (.istore_n 3, 1) := by decide +kernel
theorem dX5_valueOf_6 : decode cX5_valueOf 6 = .ok (.aload_n 0, 1) := by decide +kernel
theorem dX5_valueOf_7 : decode cX5_valueOf 7 = .ok (.iload_n 1, 1) := by decide +kernel
theorem dX5_valueOf_8 : decode cX5_valueOf 8 = .ok (.iload_n 3, 1) := by decide +kernel
theorem dX5_valueOf_9 : decode cX5_valueOf 9 = .ok (.invokevirtual 24, 3) := by decide +kernel
theorem dX5_valueOf_12 : decode cX5_valueOf 12 = .ok (.ifCond .eq 12, 3) := by decide +kernel
theorem dX5_valueOf_15 : decode cX5_valueOf 15 = .ok (.aload_n 0, 1) := by decide +kernel
theorem dX5_valueOf_16 : decode cX5_valueOf 16 = .ok (.getfield 13, 3) := by decide +kernel
theorem dX5_valueOf_19 : decode cX5_valueOf 19 = .ok (.iload_n 3, 1) := by decide +kernel
theorem dX5_valueOf_20 : decode cX5_valueOf 20 = .ok (.iaload, 1) := by decide +kernel
theorem dX5_valueOf_21 : decode cX5_valueOf 21 = .ok (.goto 4, 3) := by decide +kernel
theorem dX5_valueOf_24 : decode cX5_valueOf 24 = .ok (.iload_n 2, 1) := by decide +kernel
theorem dX5_valueOf_25 : decode cX5_valueOf 25 = .ok (.ireturn, 1) := by decide +kernel
theorem dX5_raise_0 : decode cX5_raise 0 = .ok (.aload_n 0, 1) := by decide +kernel
theorem dX5_raise_1 : decode cX5_raise 1 = .ok (.iload_n 1, 1) := by decide +kernel
theorem dX5_raise_2 : decode cX5_raise 2 = .ok (.aload_n 0, 1) := by decide +kernel
theorem dX5_raise_3 : decode cX5_raise 3 = .ok (.iload_n 1, 1) := by decide +kernel
theorem dX5_raise_4 : decode cX5_raise 4 = .ok (.iconst 0, 1) := by decide +kernel
theorem dX5_raise_5 : decode cX5_raise 5 = .ok (.invokevirtual 28, 3) := by decide +kernel
theorem dX5_raise_8 : decode cX5_raise 8 = .ok (.iconst 1, 1) := by decide +kernel
theorem dX5_raise_9 : decode cX5_raise 9 = .ok (.iadd, 1) := by decide +kernel
theorem dX5_raise_10 : decode cX5_raise 10 = .ok (.invokevirtual 32, 3) := by decide +kernel
theorem dX5_raise_13 : decode cX5_raise 13 = .ok (.pop, 1) := by decide +kernel
theorem dX5_raise_14 : decode cX5_raise 14 = .ok (.return_, 1) := by decide +kernel
theorem dX5_write_0 : decode cX5_write 0 = .ok (.aload_n 0, 1) := by decide +kernel
theorem dX5_write_1 : decode cX5_write 1 = .ok (.iload_n 1, 1) := by decide +kernel
theorem dX5_write_2 : decode cX5_write 2 = .ok (.invokevirtual 20, 3) := by decide +kernel
theorem dX5_write_5 : decode cX5_write 5 = .ok (.istore_n 3, 1) := by decide +kernel
theorem dX5_write_6 : decode cX5_write 6 = .ok (.aload_n 0, 1) := by decide +kernel
theorem dX5_write_7 : decode cX5_write 7 = .ok (.iload_n 1, 1) := by decide +kernel
theorem dX5_write_8 : decode cX5_write 8 = .ok (.iload_n 3, 1) := by decide +kernel
theorem dX5_write_9 : decode cX5_write 9 = .ok (.invokevirtual 24, 3) := by decide +kernel
theorem dX5_write_12 : decode cX5_write 12 = .ok (.ifCond .ne 76, 3) := by decide +kernel
theorem dX5_write_15 : decode cX5_write 15 = .ok (.aload_n 0, 1) := by decide +kernel
theorem dX5_write_16 : decode cX5_write 16 = .ok (.getfield 16, 3) := by decide +kernel
theorem dX5_write_19 : decode cX5_write 19 = .ok (.aload_n 0, 1) := by decide +kernel
theorem dX5_write_20 : decode cX5_write 20 = .ok (.getfield 7, 3) := by decide +kernel
theorem dX5_write_23 : decode cX5_write 23 = .ok (.arraylength, 1) := by decide +kernel
theorem dX5_write_24 : decode cX5_write 24 = .ok (.if_icmp .lt 5, 3) := by decide +kernel
theorem dX5_write_27 : decode cX5_write 27 = .ok (.iconst 0, 1) := by decide +kernel
theorem dX5_write_28 : decode cX5_write 28 = .ok (.ireturn, 1) := by decide +kernel
theorem dX5_write_29 : decode cX5_write 29 = .ok (.aload_n 0, 1) := by decide +kernel
theorem dX5_write_30 : decode cX5_write 30 = .ok (.getfield 7, 3) := by decide +kernel
theorem dX5_write_33 : decode cX5_write 33 = .ok (.iload_n 3, 1) := by decide +kernel
theorem dX5_write_34 : decode cX5_write 34 = .ok (.aload_n 0, 1) := by decide +kernel
theorem dX5_write_35 : decode cX5_write 35 = .ok (.getfield 7, 3) := by decide +kernel
theorem dX5_write_38 : decode cX5_write 38 = .ok (.iload_n 3, 1) := by decide +kernel
theorem dX5_write_39 : decode cX5_write 39 = .ok (.iconst 1, 1) := by decide +kernel
theorem dX5_write_40 : decode cX5_write 40 = .ok (.iadd, 1) := by decide +kernel
theorem dX5_write_41 : decode cX5_write 41 = .ok (.aload_n 0, 1) := by decide +kernel
theorem dX5_write_42 : decode cX5_write 42 = .ok (.getfield 16, 3) := by decide +kernel
theorem dX5_write_45 : decode cX5_write 45 = .ok (.iload_n 3, 1) := by decide +kernel
theorem dX5_write_46 : decode cX5_write 46 = .ok (.isub, 1) := by decide +kernel
theorem dX5_write_47 : decode cX5_write 47 = .ok (.invokestatic 35, 3) := by decide +kernel
theorem dX5_write_50 : decode cX5_write 50 = .ok (.aload_n 0, 1) := by decide +kernel
theorem dX5_write_51 : decode cX5_write 51 = .ok (.getfield 13, 3) := by decide +kernel
theorem dX5_write_54 : decode cX5_write 54 = .ok (.iload_n 3, 1) := by decide +kernel
theorem dX5_write_55 : decode cX5_write 55 = .ok (.aload_n 0, 1) := by decide +kernel
theorem dX5_write_56 : decode cX5_write 56 = .ok (.getfield 13, 3) := by decide +kernel
theorem dX5_write_59 : decode cX5_write 59 = .ok (.iload_n 3, 1) := by decide +kernel
theorem dX5_write_60 : decode cX5_write 60 = .ok (.iconst 1, 1) := by decide +kernel
theorem dX5_write_61 : decode cX5_write 61 = .ok (.iadd, 1) := by decide +kernel
theorem dX5_write_62 : decode cX5_write 62 = .ok (.aload_n 0, 1) := by decide +kernel
theorem dX5_write_63 : decode cX5_write 63 = .ok (.getfield 16, 3) := by decide +kernel
theorem dX5_write_66 : decode cX5_write 66 = .ok (.iload_n 3, 1) := by decide +kernel
theorem dX5_write_67 : decode cX5_write 67 = .ok (.isub, 1) := by decide +kernel
theorem dX5_write_68 : decode cX5_write 68 = .ok (.invokestatic 35, 3) := by decide +kernel
theorem dX5_write_71 : decode cX5_write 71 = .ok (.aload_n 0, 1) := by decide +kernel
theorem dX5_write_72 : decode cX5_write 72 = .ok (.getfield 7, 3) := by decide +kernel
theorem dX5_write_75 : decode cX5_write 75 = .ok (.iload_n 3, 1) := by decide +kernel
theorem dX5_write_76 : decode cX5_write 76 = .ok (.iload_n 1, 1) := by decide +kernel
theorem dX5_write_77 : decode cX5_write 77 = .ok (.iastore, 1) := by decide +kernel
theorem dX5_write_78 : decode cX5_write 78 = .ok (.aload_n 0, 1) := by decide +kernel
theorem dX5_write_79 : decode cX5_write 79 = .ok (.dup, 1) := by decide +kernel
theorem dX5_write_80 : decode cX5_write 80 = .ok (.getfield 16, 3) := by decide +kernel
theorem dX5_write_83 : decode cX5_write 83 = .ok (.iconst 1, 1) := by decide +kernel
theorem dX5_write_84 : decode cX5_write 84 = .ok (.iadd, 1) := by decide +kernel
theorem dX5_write_85 : decode cX5_write 85 = .ok (.putfield 16, 3) := by decide +kernel
theorem dX5_write_88 : decode cX5_write 88 = .ok (.aload_n 0, 1) := by decide +kernel
theorem dX5_write_89 : decode cX5_write 89 = .ok (.getfield 13, 3) := by decide +kernel
theorem dX5_write_92 : decode cX5_write 92 = .ok (.iload_n 3, 1) := by decide +kernel
theorem dX5_write_93 : decode cX5_write 93 = .ok (.iload_n 2, 1) := by decide +kernel
theorem dX5_write_94 : decode cX5_write 94 = .ok (.iastore, 1) := by decide +kernel
theorem dX5_write_95 : decode cX5_write 95 = .ok (.iconst 1, 1) := by decide +kernel
theorem dX5_write_96 : decode cX5_write 96 = .ok (.ireturn, 1) := by decide +kernel
theorem dX5_isAt_0 : decode cX5_isAt 0 = .ok (.iload_n 2, 1) := by decide +kernel
theorem dX5_isAt_1 : decode cX5_isAt 1 = .ok (.aload_n 0, 1) := by decide +kernel
theorem dX5_isAt_2 : decode cX5_isAt 2 = .ok (.getfield 16, 3) := by decide +kernel
theorem dX5_isAt_5 : decode cX5_isAt 5 = .ok (.if_icmp .ge 17, 3) := by decide +kernel
theorem dX5_isAt_8 : decode cX5_isAt 8 = .ok (.aload_n 0, 1) := by decide +kernel
theorem dX5_isAt_9 : decode cX5_isAt 9 = .ok (.getfield 7, 3) := by decide +kernel
theorem dX5_isAt_12 : decode cX5_isAt 12 = .ok (.iload_n 2, 1) := by decide +kernel
theorem dX5_isAt_13 : decode cX5_isAt 13 = .ok (.iaload, 1) := by decide +kernel
theorem dX5_isAt_14 : decode cX5_isAt 14 = .ok (.iload_n 1, 1) := by decide +kernel
theorem dX5_isAt_15 : decode cX5_isAt 15 = .ok (.if_icmp .ne 7, 3) := by decide +kernel
theorem dX5_isAt_18 : decode cX5_isAt 18 = .ok (.iconst 1, 1) := by decide +kernel
theorem dX5_isAt_19 : decode cX5_isAt 19 = .ok (.goto 4, 3) := by decide +kernel
theorem dX5_isAt_22 : decode cX5_isAt 22 = .ok (.iconst 0, 1) := by decide +kernel
theorem dX5_isAt_23 : decode cX5_isAt 23 = .ok (.ireturn, 1) := by decide +kernel
theorem dX5_placeOf_0 : decode cX5_placeOf 0 = .ok (.iconst 0, 1) := by decide +kernel
theorem dX5_placeOf_1 : decode cX5_placeOf 1 = .ok (.istore_n 2, 1) := by decide +kernel
theorem dX5_placeOf_2 : decode cX5_placeOf 2 = .ok (.aload_n 0, 1) := by decide +kernel
theorem dX5_placeOf_3 : decode cX5_placeOf 3 = .ok (.getfield 16, 3) := by decide +kernel
theorem dX5_placeOf_6 : decode cX5_placeOf 6 = .ok (.istore_n 3, 1) := by decide +kernel
theorem dX5_placeOf_7 : decode cX5_placeOf 7 = .ok (.iload_n 2, 1) := by decide +kernel
theorem dX5_placeOf_8 : decode cX5_placeOf 8 = .ok (.iload_n 3, 1) := by decide +kernel
theorem dX5_placeOf_9 : decode cX5_placeOf 9 = .ok (.if_icmp .ge 35, 3) := by decide +kernel
theorem dX5_placeOf_12 : decode cX5_placeOf 12 = .ok (.iload_n 2, 1) := by decide +kernel
theorem dX5_placeOf_13 : decode cX5_placeOf 13 = .ok (.iload_n 3, 1) := by decide +kernel
theorem dX5_placeOf_14 : decode cX5_placeOf 14 = .ok (.iadd, 1) := by decide +kernel
theorem dX5_placeOf_15 : decode cX5_placeOf 15 = .ok (.iconst 1, 1) := by decide +kernel
theorem dX5_placeOf_16 : decode cX5_placeOf 16 = .ok (.iushr, 1) := by decide +kernel
theorem dX5_placeOf_17 : decode cX5_placeOf 17 = .ok (.istore 4, 2) := by decide +kernel
theorem dX5_placeOf_19 : decode cX5_placeOf 19 = .ok (.aload_n 0, 1) := by decide +kernel
theorem dX5_placeOf_20 : decode cX5_placeOf 20 = .ok (.getfield 7, 3) := by decide +kernel
theorem dX5_placeOf_23 : decode cX5_placeOf 23 = .ok (.iload 4, 2) := by decide +kernel
theorem dX5_placeOf_25 : decode cX5_placeOf 25 = .ok (.iaload, 1) := by decide +kernel
theorem dX5_placeOf_26 : decode cX5_placeOf 26 = .ok (.iload_n 1, 1) := by decide +kernel
theorem dX5_placeOf_27 : decode cX5_placeOf 27 = .ok (.if_icmp .ge 11, 3) := by decide +kernel
theorem dX5_placeOf_30 : decode cX5_placeOf 30 = .ok (.iload 4, 2) := by decide +kernel
theorem dX5_placeOf_32 : decode cX5_placeOf 32 = .ok (.iconst 1, 1) := by decide +kernel
theorem dX5_placeOf_33 : decode cX5_placeOf 33 = .ok (.iadd, 1) := by decide +kernel
theorem dX5_placeOf_34 : decode cX5_placeOf 34 = .ok (.istore_n 2, 1) := by decide +kernel
theorem dX5_placeOf_35 : decode cX5_placeOf 35 = .ok (.goto 6, 3) := by decide +kernel
theorem dX5_placeOf_38 : decode cX5_placeOf 38 = .ok (.iload 4, 2) := by decide +kernel
theorem dX5_placeOf_40 : decode cX5_placeOf 40 = .ok (.istore_n 3, 1) := by decide +kernel
theorem dX5_placeOf_41 : decode cX5_placeOf 41 = .ok (.goto (-34), 3) := by decide +kernel
theorem dX5_placeOf_44 : decode cX5_placeOf 44 = .ok (.iload_n 2, 1) := by decide +kernel
theorem dX5_placeOf_45 : decode cX5_placeOf 45 = .ok (.ireturn, 1) := by decide +kernel
theorem dX6_init_0 : decode cX6_init 0 = .ok (.aload_n 0, 1) := by decide +kernel
theorem dX6_init_1 : decode cX6_init 1 = .ok (.invokespecial 3, 3) := by decide +kernel
theorem dX6_init_4 : decode cX6_init 4 = .ok (.aload_n 0, 1) := by decide +kernel
theorem dX6_init_5 : decode cX6_init 5 = .ok (.bipush 80, 2) := by decide +kernel
theorem dX6_init_7 : decode cX6_init 7 = .ok (.newarray .int, 2) := by decide +kernel
theorem dX6_init_9 : decode cX6_init 9 = .ok (.putfield 11, 3) := by decide +kernel
theorem dX6_init_12 : decode cX6_init 12 = .ok (.aload_n 0, 1) := by decide +kernel
theorem dX6_init_13 : decode cX6_init 13 = .ok (.bipush 30, 2) := by decide +kernel
theorem dX6_init_15 : decode cX6_init 15 = .ok (.newarray .int, 2) := by decide +kernel
theorem dX6_init_17 : decode cX6_init 17 = .ok (.putfield 15, 3) := by decide +kernel
theorem dX6_init_20 : decode cX6_init 20 = .ok (.return_, 1) := by decide +kernel
theorem dX6_hasRoomFor_0 : decode cX6_hasRoomFor 0 = .ok (.aload_n 0, 1) := by decide +kernel
theorem dX6_hasRoomFor_1 : decode cX6_hasRoomFor 1 = .ok (.getfield 18, 3) := by decide +kernel
theorem dX6_hasRoomFor_4 : decode cX6_hasRoomFor 4 = .ok (.iload_n 1, 1) := by decide +kernel
theorem dX6_hasRoomFor_5 : decode cX6_hasRoomFor 5 = .ok (.iadd, 1) := by decide +kernel
theorem dX6_hasRoomFor_6 : decode cX6_hasRoomFor 6 = .ok (.bipush 80, 2) := by decide +kernel
theorem dX6_hasRoomFor_8 : decode cX6_hasRoomFor 8 = .ok (.if_icmp .gt 7, 3) := by decide +kernel
theorem dX6_hasRoomFor_11 : decode cX6_hasRoomFor 11 = .ok (.iconst 1, 1) := by decide +kernel
theorem dX6_hasRoomFor_12 : decode cX6_hasRoomFor 12 = .ok (.goto 4, 3) := by decide +kernel
theorem dX6_hasRoomFor_15 : decode cX6_hasRoomFor 15 = .ok (.iconst 0, 1) := by decide +kernel
theorem dX6_hasRoomFor_16 : decode cX6_hasRoomFor 16 = .ok (.ireturn, 1) := by decide +kernel
theorem dX6_append_0 : decode cX6_append 0 = .ok (.bipush 24, 2) := by decide +kernel
theorem dX6_append_2 : decode cX6_append 2 = .ok (.istore_n 2, 1) := by decide +kernel
theorem dX6_append_3 : decode cX6_append 3 = .ok (.iload_n 2, 1) := by decide +kernel
theorem dX6_append_4 : decode cX6_append 4 = .ok (.ifCond .lt 44, 3) := by decide +kernel
theorem dX6_append_7 : decode cX6_append 7 = .ok (.aload_n 0, 1) := by decide +kernel
theorem dX6_append_8 : decode cX6_append 8 = .ok (.getfield 18, 3) := by decide +kernel
theorem dX6_append_11 : decode cX6_append 11 = .ok (.bipush 80, 2) := by decide +kernel
theorem dX6_append_13 : decode cX6_append 13 = .ok (.if_icmp .ge 35, 3) := by decide +kernel
theorem dX6_append_16 : decode cX6_append 16 = .ok (.aload_n 0, 1) := by decide +kernel
theorem dX6_append_17 : decode cX6_append 17 = .ok (.getfield 11, 3) := by decide +kernel
theorem dX6_append_20 : decode cX6_append 20 = .ok (.aload_n 0, 1) := by decide +kernel
theorem dX6_append_21 : decode cX6_append 21 = .ok (.getfield 18, 3) := by decide +kernel
theorem dX6_append_24 : decode cX6_append 24 = .ok (.iload_n 1, 1) := by decide +kernel
theorem dX6_append_25 : decode cX6_append 25 = .ok (.iload_n 2, 1) := by decide +kernel
theorem dX6_append_26 : decode cX6_append 26 = .ok (.iushr, 1) := by decide +kernel
theorem dX6_append_27 : decode cX6_append 27 = .ok (.sipush 255, 3) := by decide +kernel
theorem dX6_append_30 : decode cX6_append 30 = .ok (.iand, 1) := by decide +kernel
theorem dX6_append_31 : decode cX6_append 31 = .ok (.iastore, 1) := by decide +kernel
theorem dX6_append_32 : decode cX6_append 32 = .ok (.aload_n 0, 1) := by decide +kernel
theorem dX6_append_33 : decode cX6_append 33 = .ok (.dup, 1) := by decide +kernel
theorem dX6_append_34 : decode cX6_append 34 = .ok (.getfield 18, 3) := by decide +kernel
theorem dX6_append_37 : decode cX6_append 37 = .ok (.iconst 1, 1) := by decide +kernel
theorem dX6_append_38 : decode cX6_append 38 = .ok (.iadd, 1) := by decide +kernel
theorem dX6_append_39 : decode cX6_append 39 = .ok (.putfield 18, 3) := by decide +kernel
theorem dX6_append_42 : decode cX6_append 42 = .ok (.iinc 2 (-8), 3) := by decide +kernel
theorem dX6_append_45 : decode cX6_append 45 = .ok (.goto (-42), 3) := by decide +kernel
theorem dX6_append_48 : decode cX6_append 48 = .ok (.return_, 1) := by decide +kernel
theorem dX6_cut_0 : decode cX6_cut 0 = .ok (.iload_n 1, 1) := by decide +kernel
theorem dX6_cut_1 : decode cX6_cut 1 = .ok (.ifCond .lt 11, 3) := by decide +kernel
theorem dX6_cut_4 : decode cX6_cut 4 = .ok (.iload_n 1, 1) := by decide +kernel
theorem dX6_cut_5 : decode cX6_cut 5 = .ok (.aload_n 0, 1) := by decide +kernel
theorem dX6_cut_6 : decode cX6_cut 6 = .ok (.getfield 18, 3) := by decide +kernel
theorem dX6_cut_9 : decode cX6_cut 9 = .ok (.if_icmp .le 5, 3) := by decide +kernel
theorem dX6_cut_12 : decode cX6_cut 12 = .ok (.iconst 0, 1) := by decide +kernel
theorem dX6_cut_13 : decode cX6_cut 13 = .ok (.ireturn, 1) := by decide +kernel
theorem dX6_cut_14 : decode cX6_cut 14 = .ok (.aload_n 0, 1) := by decide +kernel
theorem dX6_cut_15 : decode cX6_cut 15 = .ok (.iload_n 1, 1) := by decide +kernel
theorem dX6_cut_16 : decode cX6_cut 16 = .ok (.putfield 18, 3) := by decide +kernel
theorem dX6_cut_19 : decode cX6_cut 19 = .ok (.iconst 1, 1) := by decide +kernel
theorem dX6_cut_20 : decode cX6_cut 20 = .ok (.ireturn, 1) := by decide +kernel
theorem dX6_findNumbers_0 : decode cX6_findNumbers 0 = .ok (.iconst 0, 1) := by decide +kernel
theorem dX6_findNumbers_1 : decode cX6_findNumbers 1 = .ok (.istore_n 2, 1) := by decide +kernel
theorem dX6_findNumbers_2 : decode cX6_findNumbers 2 = .ok (.iconst 0, 1) := by decide +kernel
theorem dX6_findNumbers_3 : decode cX6_findNumbers 3 = .ok (.istore_n 3, 1) := by decide +kernel
theorem dX6_findNumbers_4 : decode cX6_findNumbers 4 = .ok (.iload_n 3, 1) := by decide +kernel
theorem dX6_findNumbers_5 : decode cX6_findNumbers 5 = .ok (.iload_n 1, 1) := by decide +kernel
theorem dX6_findNumbers_6 : decode cX6_findNumbers 6 = .ok (.iadd, 1) := by decide +kernel
theorem dX6_findNumbers_7 : decode cX6_findNumbers 7 = .ok (.aload_n 0, 1) := by decide +kernel
theorem dX6_findNumbers_8 : decode cX6_findNumbers 8 = .ok (.getfield 18, 3) := by decide +kernel
theorem dX6_findNumbers_11 : decode cX6_findNumbers 11 = .ok (.if_icmp .gt 53, 3) := by decide +kernel
theorem dX6_findNumbers_14 : decode cX6_findNumbers 14 = .ok (.aload_n 0, 1) := by decide +kernel
theorem dX6_findNumbers_15 : decode cX6_findNumbers 15 = .ok (.iload_n 3, 1) := by decide +kernel
theorem dX6_findNumbers_16 : decode cX6_findNumbers 16 = .ok (.iload_n 1, 1) := by decide +kernel
theorem dX6_findNumbers_17 : decode cX6_findNumbers 17 = .ok (.invokevirtual 22, 3) := by decide +kernel
theorem dX6_findNumbers_20 : decode cX6_findNumbers 20 = .ok (.istore 4, 2) := by decide +kernel
theorem dX6_findNumbers_22 : decode cX6_findNumbers 22 = .ok (.iload 4, 2) := by decide +kernel
theorem dX6_findNumbers_24 : decode cX6_findNumbers 24 = .ok (.bipush 8, 2) := by decide +kernel
theorem dX6_findNumbers_26 : decode cX6_findNumbers 26 = .ok (.if_icmp .ge 32, 3) := by decide +kernel
theorem dX6_findNumbers_29 : decode cX6_findNumbers 29 = .ok (.iload_n 2, 1) := by decide +kernel
theorem dX6_findNumbers_30 : decode cX6_findNumbers 30 = .ok (.bipush 30, 2) := by decide +kernel
theorem dX6_findNumbers_32 : decode cX6_findNumbers 32 = .ok (.if_icmp .lt 5, 3) := by decide +kernel
theorem dX6_findNumbers_35 : decode cX6_findNumbers 35 = .ok (.iconst (-1), 1) := by decide +kernel
theorem dX6_findNumbers_36 : decode cX6_findNumbers 36 = .ok (.ireturn, 1) := by decide +kernel
theorem dX6_findNumbers_37 : decode cX6_findNumbers 37 = .ok (.aload_n 0, 1) := by decide +kernel
theorem dX6_findNumbers_38 : decode cX6_findNumbers 38 = .ok (.getfield 15, 3) := by decide +kernel
theorem dX6_findNumbers_41 : decode cX6_findNumbers 41 = .ok (.iload_n 2, 1) := by decide +kernel
theorem dX6_findNumbers_42 : decode cX6_findNumbers 42 = .ok (.bipush 8, 2) := by decide +kernel
theorem dX6_findNumbers_44 : decode cX6_findNumbers 44 = .ok (.aload_n 0, 1) := by decide +kernel
theorem dX6_findNumbers_45 : decode cX6_findNumbers 45 = .ok (.iload_n 3, 1) := by decide +kernel
theorem dX6_findNumbers_46 : decode cX6_findNumbers 46 = .ok (.iload_n 1, 1) := by decide +kernel
theorem dX6_findNumbers_47 : decode cX6_findNumbers 47 = .ok (.invokevirtual 26, 3) := by decide +kernel
theorem dX6_findNumbers_50 : decode cX6_findNumbers 50 = .ok (.imul, 1) := by decide +kernel
theorem dX6_findNumbers_51 : decode cX6_findNumbers 51 = .ok (.iload 4, 2) := by decide +kernel
theorem dX6_findNumbers_53 : decode cX6_findNumbers 53 = .ok (.iadd, 1) := by decide +kernel
theorem dX6_findNumbers_54 : decode cX6_findNumbers 54 = .ok (.iastore, 1) := by decide +kernel
theorem dX6_findNumbers_55 : decode cX6_findNumbers 55 = .ok (.iinc 2 1, 3) := by decide +kernel
theorem dX6_findNumbers_58 : decode cX6_findNumbers 58 = .ok (.iinc 3 1, 3) := by decide +kernel
theorem dX6_findNumbers_61 : decode cX6_findNumbers 61 = .ok (.goto (-57), 3) := by decide +kernel
theorem dX6_findNumbers_64 : decode cX6_findNumbers 64 = .ok (.iload_n 2, 1) := by decide +kernel
theorem dX6_findNumbers_65 : decode cX6_findNumbers 65 = .ok (.ireturn, 1) := by decide +kernel
theorem dX6_countLikeOnesAhead_0 : decode cX6_countLikeOnesAhead 0 = .ok (.aload_n 0, 1) := by decide +kernel
theorem dX6_countLikeOnesAhead_1 : decode cX6_countLikeOnesAhead 1 = .ok (.iload_n 1, 1) := by decide +kernel
theorem dX6_countLikeOnesAhead_2 : decode cX6_countLikeOnesAhead 2 = .ok (.iload_n 2, 1) := by decide +kernel
theorem dX6_countLikeOnesAhead_3 : decode cX6_countLikeOnesAhead 3 = .ok (.invokevirtual 26, 3) := by decide +kernel
theorem dX6_countLikeOnesAhead_6 : decode cX6_countLikeOnesAhead 6 = .ok (.istore_n 3, 1) := by decide +kernel
theorem dX6_countLikeOnesAhead_7 : decode cX6_countLikeOnesAhead 7 = .ok (.iconst 0, 1) := by decide +kernel
theorem dX6_countLikeOnesAhead_8 : decode cX6_countLikeOnesAhead 8 = .ok (.istore 4, 2) := by decide +kernel
theorem dX6_countLikeOnesAhead_10 : decode cX6_countLikeOnesAhead 10 = .ok (.iconst 0, 1) := by decide +kernel
theorem dX6_countLikeOnesAhead_11 : decode cX6_countLikeOnesAhead 11 = .ok (.istore 5, 2) := by decide +kernel
theorem dX6_countLikeOnesAhead_13 : decode cX6_countLikeOnesAhead 13 = .ok (.iload 5, 2) := by decide +kernel
theorem dX6_countLikeOnesAhead_15 : decode cX6_countLikeOnesAhead 15 = .ok (.iload_n 1, 1) := by decide +kernel
theorem dX6_countLikeOnesAhead_16 : decode cX6_countLikeOnesAhead 16 = .ok (.if_icmp .ge 23, 3) := by decide +kernel
theorem dX6_countLikeOnesAhead_19 : decode cX6_countLikeOnesAhead 19 = .ok (.aload_n 0, 1) := by decide +kernel
theorem dX6_countLikeOnesAhead_20 : decode cX6_countLikeOnesAhead 20 = .ok (.iload 5, 2) := by decide +kernel
theorem dX6_countLikeOnesAhead_22 : decode cX6_countLikeOnesAhead 22 = .ok (.iload_n 2, 1) := by decide +kernel
theorem dX6_countLikeOnesAhead_23 : decode cX6_countLikeOnesAhead 23 = .ok (.invokevirtual 26, 3) := by decide +kernel
theorem dX6_countLikeOnesAhead_26 : decode cX6_countLikeOnesAhead 26 = .ok (.iload_n 3, 1) := by decide +kernel
theorem dX6_countLikeOnesAhead_27 : decode cX6_countLikeOnesAhead 27 = .ok (.if_icmp .ne 6, 3) := by decide +kernel
theorem dX6_countLikeOnesAhead_30 : decode cX6_countLikeOnesAhead 30 = .ok (.iinc 4 1, 3) := by decide +kernel
theorem dX6_countLikeOnesAhead_33 : decode cX6_countLikeOnesAhead 33 = .ok (.iinc 5 1, 3) := by decide +kernel
theorem dX6_countLikeOnesAhead_36 : decode cX6_countLikeOnesAhead 36 = .ok (.goto (-23), 3) := by decide +kernel
theorem dX6_countLikeOnesAhead_39 : decode cX6_countLikeOnesAhead 39 = .ok (.iload 4, 2) := by decide +kernel
theorem dX6_countLikeOnesAhead_41 : decode cX6_countLikeOnesAhead 41 = .ok (.ireturn, 1) := by decide +kernel
theorem dX6_pieceAt_0 : decode cX6_pieceAt 0 = .ok (.iconst 0, 1) := by decide +kernel
theorem dX6_pieceAt_1 : decode cX6_pieceAt 1 = .ok (.istore_n 3, 1) := by decide +kernel
theorem dX6_pieceAt_2 : decode cX6_pieceAt 2 = .ok (.iload_n 1, 1) := by decide +kernel
theorem dX6_pieceAt_3 : decode cX6_pieceAt 3 = .ok (.istore 4, 2) := by decide +kernel
theorem dX6_pieceAt_5 : decode cX6_pieceAt 5 = .ok (.iload 4, 2) := by decide +kernel
theorem dX6_pieceAt_7 : decode cX6_pieceAt 7 = .ok (.iload_n 1, 1) := by decide +kernel
theorem dX6_pieceAt_8 : decode cX6_pieceAt 8 = .ok (.iload_n 2, 1) := by decide +kernel
theorem dX6_pieceAt_9 : decode cX6_pieceAt 9 = .ok (.iadd, 1) := by decide +kernel
theorem dX6_pieceAt_10 : decode cX6_pieceAt 10 = .ok (.if_icmp .ge 31, 3) := by decide +kernel
theorem dX6_pieceAt_13 : decode cX6_pieceAt 13 = .ok (.iload 4, 2) := by decide +kernel
theorem dX6_pieceAt_15 : decode cX6_pieceAt 15 = .ok (.aload_n 0, 1) := by decide +kernel
theorem dX6_pieceAt_16 : decode cX6_pieceAt 16 = .ok (.getfield 18, 3) := by decide +kernel
theorem dX6_pieceAt_19 : decode cX6_pieceAt 19 = .ok (.if_icmp .ge 22, 3) := by decide +kernel
theorem dX6_pieceAt_22 : decode cX6_pieceAt 22 = .ok (.iload_n 3, 1) := by decide +kernel
theorem dX6_pieceAt_23 : decode cX6_pieceAt 23 = .ok (.bipush 8, 2) := by decide +kernel
theorem dX6_pieceAt_25 : decode cX6_pieceAt 25 = .ok (.ishl, 1) := by decide +kernel
theorem dX6_pieceAt_26 : decode cX6_pieceAt 26 = .ok (.aload_n 0, 1) := by decide +kernel
theorem dX6_pieceAt_27 : decode cX6_pieceAt 27 = .ok (.getfield 11, 3) := by decide +kernel
theorem dX6_pieceAt_30 : decode cX6_pieceAt 30 = .ok (.iload 4, 2) := by decide +kernel
theorem dX6_pieceAt_32 : decode cX6_pieceAt 32 = .ok (.iaload, 1) := by decide +kernel
theorem dX6_pieceAt_33 : decode cX6_pieceAt 33 = .ok (.ior, 1) := by decide +kernel
theorem dX6_pieceAt_34 : decode cX6_pieceAt 34 = .ok (.istore_n 3, 1) := by decide +kernel
theorem dX6_pieceAt_35 : decode cX6_pieceAt 35 = .ok (.iinc 4 1, 3) := by decide +kernel
theorem dX6_pieceAt_38 : decode cX6_pieceAt 38 = .ok (.goto (-33), 3) := by decide +kernel
theorem dX6_pieceAt_41 : decode cX6_pieceAt 41 = .ok (.iload_n 3, 1) := by decide +kernel
theorem dX6_pieceAt_42 : decode cX6_pieceAt 42 = .ok (.ireturn, 1) := by decide +kernel
theorem dX7_init_0 : decode cX7_init 0 = .ok (.aload_n 0, 1) := by decide +kernel
theorem dX7_init_1 : decode cX7_init 1 = .ok (.invokespecial 3, 3) := by decide +kernel
theorem dX7_init_4 : decode cX7_init 4 = .ok (.aload_n 0, 1) := by decide +kernel
theorem dX7_init_5 : decode cX7_init 5 = .ok (.bipush 60, 2) := by decide +kernel
theorem dX7_init_7 : decode cX7_init 7 = .ok (.anewarray 9, 3) := by decide +kernel
theorem dX7_init_10 : decode cX7_init 10 = .ok (.putfield 11, 3) := by decide +kernel
theorem dX7_init_13 : decode cX7_init 13 = .ok (.aload_n 0, 1) := by decide +kernel
theorem dX7_init_14 : decode cX7_init 14 = .ok (.new 15, 3) := by decide +kernel
theorem dX7_init_17 : decode cX7_init 17 = .ok (.dup, 1) := by decide +kernel
theorem dX7_init_18 : decode cX7_init 18 = .ok (.sipush 1800, 3) := by decide +kernel
theorem dX7_init_21 : decode cX7_init 21 = .ok (.invokespecial 17, 3) := by decide +kernel
theorem dX7_init_24 : decode cX7_init 24 = .ok (.putfield 20, 3) := by decide +kernel
theorem dX7_init_27 : decode cX7_init 27 = .ok (.aload_n 0, 1) := by decide +kernel
theorem dX7_init_28 : decode cX7_init 28 = .ok (.new 15, 3) := by decide +kernel
theorem dX7_init_31 : decode cX7_init 31 = .ok (.dup, 1) := by decide +kernel
theorem dX7_init_32 : decode cX7_init 32 = .ok (.sipush 200, 3) := by decide +kernel
theorem dX7_init_35 : decode cX7_init 35 = .ok (.invokespecial 17, 3) := by decide +kernel
theorem dX7_init_38 : decode cX7_init 38 = .ok (.putfield 24, 3) := by decide +kernel
theorem dX7_init_41 : decode cX7_init 41 = .ok (.aload_n 0, 1) := by decide +kernel
theorem dX7_init_42 : decode cX7_init 42 = .ok (.new 27, 3) := by decide +kernel
theorem dX7_init_45 : decode cX7_init 45 = .ok (.dup, 1) := by decide +kernel
theorem dX7_init_46 : decode cX7_init 46 = .ok (.invokespecial 29, 3) := by decide +kernel
theorem dX7_init_49 : decode cX7_init 49 = .ok (.putfield 30, 3) := by decide +kernel
theorem dX7_init_52 : decode cX7_init 52 = .ok (.aload_n 0, 1) := by decide +kernel
theorem dX7_init_53 : decode cX7_init 53 = .ok (.new 34, 3) := by decide +kernel
theorem dX7_init_56 : decode cX7_init 56 = .ok (.dup, 1) := by decide +kernel
theorem dX7_init_57 : decode cX7_init 57 = .ok (.invokespecial 36, 3) := by decide +kernel
theorem dX7_init_60 : decode cX7_init 60 = .ok (.putfield 37, 3) := by decide +kernel
theorem dX7_init_63 : decode cX7_init 63 = .ok (.aload_n 0, 1) := by decide +kernel
theorem dX7_init_64 : decode cX7_init 64 = .ok (.new 41, 3) := by decide +kernel
theorem dX7_init_67 : decode cX7_init 67 = .ok (.dup, 1) := by decide +kernel
theorem dX7_init_68 : decode cX7_init 68 = .ok (.invokespecial 43, 3) := by decide +kernel
theorem dX7_init_71 : decode cX7_init 71 = .ok (.putfield 44, 3) := by decide +kernel
theorem dX7_init_74 : decode cX7_init 74 = .ok (.aload_n 0, 1) := by decide +kernel
theorem dX7_init_75 : decode cX7_init 75 = .ok (.bipush 60, 2) := by decide +kernel
theorem dX7_init_77 : decode cX7_init 77 = .ok (.newarray .int, 2) := by decide +kernel
theorem dX7_init_79 : decode cX7_init 79 = .ok (.putfield 48, 3) := by decide +kernel
theorem dX7_init_82 : decode cX7_init 82 = .ok (.aload_n 0, 1) := by decide +kernel
theorem dX7_init_83 : decode cX7_init 83 = .ok (.iconst 5, 1) := by decide +kernel
theorem dX7_init_84 : decode cX7_init 84 = .ok (.newarray .int, 2) := by decide +kernel
theorem dX7_init_86 : decode cX7_init 86 = .ok (.putfield 52, 3) := by decide +kernel
theorem dX7_init_89 : decode cX7_init 89 = .ok (.aload_n 0, 1) := by decide +kernel
theorem dX7_init_90 : decode cX7_init 90 = .ok (.new 55, 3) := by decide +kernel
theorem dX7_init_93 : decode cX7_init 93 = .ok (.dup, 1) := by decide +kernel
theorem dX7_init_94 : decode cX7_init 94 = .ok (.invokespecial 57, 3) := by decide +kernel
theorem dX7_init_97 : decode cX7_init 97 = .ok (.putfield 58, 3) := by decide +kernel
theorem dX7_init_100 : decode cX7_init 100 = .ok (.aload_n 0, 1) := by decide +kernel
theorem dX7_init_101 : decode cX7_init 101 = .ok (.new 62, 3) := by decide +kernel
theorem dX7_init_104 : decode cX7_init 104 = .ok (.dup, 1) := by decide +kernel
theorem dX7_init_105 : decode cX7_init 105 = .ok (.invokespecial 64, 3) := by decide +kernel
theorem dX7_init_108 : decode cX7_init 108 = .ok (.putfield 65, 3) := by decide +kernel
theorem dX7_init_111 : decode cX7_init 111 = .ok (.return_, 1) := by decide +kernel
theorem dX7_record_0 : decode cX7_record 0 = .ok (.aload_n 0, 1) := by decide +kernel
theorem dX7_record_1 : decode cX7_record 1 = .ok (.getfield 69, 3) := by decide +kernel
theorem dX7_record_4 : decode cX7_record 4 = .ok (.bipush 60, 2) := by decide +kernel
theorem dX7_record_6 : decode cX7_record 6 = .ok (.if_icmp .lt 5, 3) := by decide +kernel
theorem dX7_record_9 : decode cX7_record 9 = .ok (.iconst (-1), 1) := by decide +kernel
theorem dX7_record_10 : decode cX7_record 10 = .ok (.ireturn, 1) := by decide +kernel
theorem dX7_record_11 : decode cX7_record 11 = .ok (.aload_n 0, 1) := by decide +kernel
theorem dX7_record_12 : decode cX7_record 12 = .ok (.getfield 11, 3) := by decide +kernel
theorem dX7_record_15 : decode cX7_record 15 = .ok (.aload_n 0, 1) := by decide +kernel
theorem dX7_record_16 : decode cX7_record 16 = .ok (.getfield 69, 3) := by decide +kernel
theorem dX7_record_19 : decode cX7_record 19 = .ok (.new 9, 3) := by decide +kernel
theorem dX7_record_22 : decode cX7_record 22 = .ok (.dup, 1) := by decide +kernel
theorem dX7_record_23 : decode cX7_record 23 = .ok (.invokespecial 73, 3) := by decide +kernel
theorem dX7_record_26 : decode cX7_record 26 = .ok (.aastore, 1) := by decide +kernel
theorem dX7_record_27 : decode cX7_record 27 = .ok (.aload_n 0, 1) := by decide +kernel
theorem dX7_record_28 : decode cX7_record 28 = .ok (.dup, 1) := by decide +kernel
theorem dX7_record_29 : decode cX7_record 29 = .ok (.getfield 69, 3) := by decide +kernel
theorem dX7_record_32 : decode cX7_record 32 = .ok (.iconst 1, 1) := by decide +kernel
theorem dX7_record_33 : decode cX7_record 33 = .ok (.iadd, 1) := by decide +kernel
theorem dX7_record_34 : decode cX7_record 34 = .ok (.putfield 69, 3) := by decide +kernel
theorem dX7_record_37 : decode cX7_record 37 = .ok (.aload_n 0, 1) := by decide +kernel
theorem dX7_record_38 : decode cX7_record 38 = .ok (.getfield 69, 3) := by decide +kernel
theorem dX7_record_41 : decode cX7_record 41 = .ok (.iconst 1, 1) := by decide +kernel
theorem dX7_record_42 : decode cX7_record 42 = .ok (.isub, 1) := by decide +kernel
theorem dX7_record_43 : decode cX7_record 43 = .ok (.ireturn, 1) := by decide +kernel
theorem dX7_drop_0 : decode cX7_drop 0 = .ok (.aload_n 0, 1) := by decide +kernel
theorem dX7_drop_1 : decode cX7_drop 1 = .ok (.iload_n 1, 1) := by decide +kernel
end
section
theorem dX7_drop_2 : decode cX7_drop 2 = .ok (.invokevirtual 74, 3) := by decide +kernel
theorem dX7_drop_5 : decode cX7_drop 5 = .ok (.ifnonnull 5, 3) := by decide +kernel
theorem dX7_drop_8 : decode cX7_drop 8 = .ok (.iconst 0, 1) := by decide +kernel
theorem dX7_drop_9 : decode cX7_drop 9 = .ok (.ireturn, 1) := by decide +kernel
theorem dX7_drop_10 : decode cX7_drop 10 = .ok (.aload_n 0, 1) := by decide +kernel
theorem dX7_drop_11 : decode cX7_drop 11 = .ok (.getfield 11, 3) := by decide +kernel
theorem dX7_drop_14 : decode cX7_drop 14 = .ok (.iload_n 1, 1) := by decide +kernel
theorem dX7_drop_15 : decode cX7_drop 15 = .ok (.aconst_null, 1) := by decide +kernel
theorem dX7_drop_16 : decode cX7_drop 16 = .ok (.aastore, 1) := by decide +kernel
theorem dX7_drop_17 : decode cX7_drop 17 = .ok (.aload_n 0, 1) := by decide +kernel
theorem dX7_drop_18 : decode cX7_drop 18 = .ok (.getfield 65, 3) := by decide +kernel
theorem dX7_drop_21 : decode cX7_drop 21 = .ok (.iload_n 1, 1) := by decide +kernel
theorem dX7_drop_22 : decode cX7_drop 22 = .ok (.invokevirtual 78, 3) := by decide +kernel
theorem dX7_drop_25 : decode cX7_drop 25 = .ok (.iconst 1, 1) := by decide +kernel
theorem dX7_drop_26 : decode cX7_drop 26 = .ok (.ireturn, 1) := by decide +kernel
theorem dX7_put_0 : decode cX7_put 0 = .ok (.aload_n 0, 1) := by decide +kernel
theorem dX7_put_1 : decode cX7_put 1 = .ok (.iload_n 1, 1) := by decide +kernel
theorem dX7_put_2 : decode cX7_put 2 = .ok (.invokevirtual 74, 3) := by decide +kernel
theorem dX7_put_5 : decode cX7_put 5 = .ok (.astore_n 3, 1) := by decide +kernel
theorem dX7_put_6 : decode cX7_put 6 = .ok (.aload_n 3, 1) := by decide +kernel
theorem dX7_put_7 : decode cX7_put 7 = .ok (.ifnull 30, 3) := by decide +kernel
theorem dX7_put_10 : decode cX7_put 10 = .ok (.iload_n 2, 1) := by decide +kernel
theorem dX7_put_11 : decode cX7_put 11 = .ok (.invokestatic 81, 3) := by decide +kernel
theorem dX7_put_14 : decode cX7_put 14 = .ok (.ifCond .eq 23, 3) := by decide +kernel
theorem dX7_put_17 : decode cX7_put 17 = .ok (.aload_n 3, 1) := by decide +kernel
theorem dX7_put_18 : decode cX7_put 18 = .ok (.iload_n 2, 1) := by decide +kernel
theorem dX7_put_19 : decode cX7_put 19 = .ok (.aload_n 0, 1) := by decide +kernel
theorem dX7_put_20 : decode cX7_put 20 = .ok (.getfield 20, 3) := by decide +kernel
theorem dX7_put_23 : decode cX7_put 23 = .ok (.invokestatic 85, 3) := by decide +kernel
theorem dX7_put_26 : decode cX7_put 26 = .ok (.aload_n 0, 1) := by decide +kernel
theorem dX7_put_27 : decode cX7_put 27 = .ok (.iload_n 2, 1) := by decide +kernel
theorem dX7_put_28 : decode cX7_put 28 = .ok (.invokevirtual 89, 3) := by decide +kernel
theorem dX7_put_31 : decode cX7_put 31 = .ok (.invokevirtual 93, 3) := by decide +kernel
theorem dX7_put_34 : decode cX7_put 34 = .ok (.ifCond .ne 5, 3) := by decide +kernel
theorem dX7_put_37 : decode cX7_put 37 = .ok (.iconst 0, 1) := by decide +kernel
theorem dX7_put_38 : decode cX7_put 38 = .ok (.ireturn, 1) := by decide +kernel
theorem dX7_put_39 : decode cX7_put 39 = .ok (.aload_n 0, 1) := by decide +kernel
theorem dX7_put_40 : decode cX7_put 40 = .ok (.getfield 65, 3) := by decide +kernel
theorem dX7_put_43 : decode cX7_put 43 = .ok (.iload_n 1, 1) := by decide +kernel
theorem dX7_put_44 : decode cX7_put 44 = .ok (.invokevirtual 78, 3) := by decide +kernel
theorem dX7_put_47 : decode cX7_put 47 = .ok (.iconst 1, 1) := by decide +kernel
theorem dX7_put_48 : decode cX7_put 48 = .ok (.ireturn, 1) := by decide +kernel
theorem dX7_take_0 : decode cX7_take 0 = .ok (.aload_n 0, 1) := by decide +kernel
theorem dX7_take_1 : decode cX7_take 1 = .ok (.iload_n 1, 1) := by decide +kernel
theorem dX7_take_2 : decode cX7_take 2 = .ok (.invokevirtual 74, 3) := by decide +kernel
theorem dX7_take_5 : decode cX7_take 5 = .ok (.astore_n 3, 1) := by decide +kernel
theorem dX7_take_6 : decode cX7_take 6 = .ok (.aload_n 3, 1) := by decide +kernel
theorem dX7_take_7 : decode cX7_take 7 = .ok (.ifnull 25, 3) := by decide +kernel
theorem dX7_take_10 : decode cX7_take 10 = .ok (.iload_n 2, 1) := by decide +kernel
theorem dX7_take_11 : decode cX7_take 11 = .ok (.invokestatic 81, 3) := by decide +kernel
theorem dX7_take_14 : decode cX7_take 14 = .ok (.ifCond .eq 18, 3) := by decide +kernel
theorem dX7_take_17 : decode cX7_take 17 = .ok (.aload_n 3, 1) := by decide +kernel
theorem dX7_take_18 : decode cX7_take 18 = .ok (.iload_n 2, 1) := by decide +kernel
theorem dX7_take_19 : decode cX7_take 19 = .ok (.aload_n 0, 1) := by decide +kernel
theorem dX7_take_20 : decode cX7_take 20 = .ok (.getfield 20, 3) := by decide +kernel
theorem dX7_take_23 : decode cX7_take 23 = .ok (.invokestatic 85, 3) := by decide +kernel
theorem dX7_take_26 : decode cX7_take 26 = .ok (.invokevirtual 97, 3) := by decide +kernel
theorem dX7_take_29 : decode cX7_take 29 = .ok (.ifCond .ne 5, 3) := by decide +kernel
theorem dX7_take_32 : decode cX7_take 32 = .ok (.iconst 0, 1) := by decide +kernel
theorem dX7_take_33 : decode cX7_take 33 = .ok (.ireturn, 1) := by decide +kernel
theorem dX7_take_34 : decode cX7_take 34 = .ok (.aload_n 0, 1) := by decide +kernel
theorem dX7_take_35 : decode cX7_take 35 = .ok (.getfield 65, 3) := by decide +kernel
theorem dX7_take_38 : decode cX7_take 38 = .ok (.iload_n 1, 1) := by decide +kernel
theorem dX7_take_39 : decode cX7_take 39 = .ok (.invokevirtual 78, 3) := by decide +kernel
theorem dX7_take_42 : decode cX7_take 42 = .ok (.iconst 1, 1) := by decide +kernel
theorem dX7_take_43 : decode cX7_take 43 = .ok (.ireturn, 1) := by decide +kernel
theorem dX7_weight_0 : decode cX7_weight 0 = .ok (.iload_n 1, 1) := by decide +kernel
theorem dX7_weight_1 : decode cX7_weight 1 = .ok (.invokestatic 81, 3) := by decide +kernel
theorem dX7_weight_4 : decode cX7_weight 4 = .ok (.ifCond .eq 26, 3) := by decide +kernel
theorem dX7_weight_7 : decode cX7_weight 7 = .ok (.iload_n 2, 1) := by decide +kernel
theorem dX7_weight_8 : decode cX7_weight 8 = .ok (.iconst 1, 1) := by decide +kernel
theorem dX7_weight_9 : decode cX7_weight 9 = .ok (.if_icmp .lt 21, 3) := by decide +kernel
theorem dX7_weight_12 : decode cX7_weight 12 = .ok (.iload_n 2, 1) := by decide +kernel
theorem dX7_weight_13 : decode cX7_weight 13 = .ok (.bipush 100, 2) := by decide +kernel
theorem dX7_weight_15 : decode cX7_weight 15 = .ok (.if_icmp .gt 15, 3) := by decide +kernel
theorem dX7_weight_18 : decode cX7_weight 18 = .ok (.aload_n 0, 1) := by decide +kernel
theorem dX7_weight_19 : decode cX7_weight 19 = .ok (.getfield 24, 3) := by decide +kernel
theorem dX7_weight_22 : decode cX7_weight 22 = .ok (.iload_n 1, 1) := by decide +kernel
theorem dX7_weight_23 : decode cX7_weight 23 = .ok (.iload_n 2, 1) := by decide +kernel
theorem dX7_weight_24 : decode cX7_weight 24 = .ok (.invokevirtual 100, 3) := by decide +kernel
theorem dX7_weight_27 : decode cX7_weight 27 = .ok (.ifCond .ne 5, 3) := by decide +kernel
theorem dX7_weight_30 : decode cX7_weight 30 = .ok (.iconst 0, 1) := by decide +kernel
theorem dX7_weight_31 : decode cX7_weight 31 = .ok (.ireturn, 1) := by decide +kernel
theorem dX7_weight_32 : decode cX7_weight 32 = .ok (.aload_n 0, 1) := by decide +kernel
theorem dX7_weight_33 : decode cX7_weight 33 = .ok (.invokevirtual 103, 3) := by decide +kernel
theorem dX7_weight_36 : decode cX7_weight 36 = .ok (.iconst 1, 1) := by decide +kernel
theorem dX7_weight_37 : decode cX7_weight 37 = .ok (.ireturn, 1) := by decide +kernel
theorem dX7_feed_0 : decode cX7_feed 0 = .ok (.aload_n 0, 1) := by decide +kernel
theorem dX7_feed_1 : decode cX7_feed 1 = .ok (.getfield 37, 3) := by decide +kernel
theorem dX7_feed_4 : decode cX7_feed 4 = .ok (.bipush 20, 2) := by decide +kernel
theorem dX7_feed_6 : decode cX7_feed 6 = .ok (.invokevirtual 106, 3) := by decide +kernel
theorem dX7_feed_9 : decode cX7_feed 9 = .ok (.ifCond .ne 5, 3) := by decide +kernel
theorem dX7_feed_12 : decode cX7_feed 12 = .ok (.iconst (-1), 1) := by decide +kernel
theorem dX7_feed_13 : decode cX7_feed 13 = .ok (.ireturn, 1) := by decide +kernel
theorem dX7_feed_14 : decode cX7_feed 14 = .ok (.aload_n 0, 1) := by decide +kernel
theorem dX7_feed_15 : decode cX7_feed 15 = .ok (.getfield 37, 3) := by decide +kernel
theorem dX7_feed_18 : decode cX7_feed 18 = .ok (.iload_n 1, 1) := by decide +kernel
theorem dX7_feed_19 : decode cX7_feed 19 = .ok (.invokevirtual 109, 3) := by decide +kernel
theorem dX7_feed_22 : decode cX7_feed 22 = .ok (.aload_n 0, 1) := by decide +kernel
theorem dX7_feed_23 : decode cX7_feed 23 = .ok (.getfield 37, 3) := by decide +kernel
theorem dX7_feed_26 : decode cX7_feed 26 = .ok (.iload_n 2, 1) := by decide +kernel
theorem dX7_feed_27 : decode cX7_feed 27 = .ok (.invokevirtual 109, 3) := by decide +kernel
theorem dX7_feed_30 : decode cX7_feed 30 = .ok (.aload_n 0, 1) := by decide +kernel
theorem dX7_feed_31 : decode cX7_feed 31 = .ok (.getfield 37, 3) := by decide +kernel
theorem dX7_feed_34 : decode cX7_feed 34 = .ok (.iload_n 3, 1) := by decide +kernel
theorem dX7_feed_35 : decode cX7_feed 35 = .ok (.invokevirtual 109, 3) := by decide +kernel
theorem dX7_feed_38 : decode cX7_feed 38 = .ok (.aload_n 0, 1) := by decide +kernel
theorem dX7_feed_39 : decode cX7_feed 39 = .ok (.getfield 37, 3) := by decide +kernel
theorem dX7_feed_42 : decode cX7_feed 42 = .ok (.iload 4, 2) := by decide +kernel
theorem dX7_feed_44 : decode cX7_feed 44 = .ok (.invokevirtual 109, 3) := by decide +kernel
theorem dX7_feed_47 : decode cX7_feed 47 = .ok (.aload_n 0, 1) := by decide +kernel
theorem dX7_feed_48 : decode cX7_feed 48 = .ok (.getfield 37, 3) := by decide +kernel
theorem dX7_feed_51 : decode cX7_feed 51 = .ok (.iload 5, 2) := by decide +kernel
theorem dX7_feed_53 : decode cX7_feed 53 = .ok (.invokevirtual 109, 3) := by decide +kernel
theorem dX7_feed_56 : decode cX7_feed 56 = .ok (.aload_n 0, 1) := by decide +kernel
theorem dX7_feed_57 : decode cX7_feed 57 = .ok (.getfield 37, 3) := by decide +kernel
theorem dX7_feed_60 : decode cX7_feed 60 = .ok (.getfield 112, 3) := by decide +kernel
theorem dX7_feed_63 : decode cX7_feed 63 = .ok (.ireturn, 1) := by decide +kernel
theorem dX7_end_0 : decode cX7_end 0 = .ok (.aload_n 0, 1) := by decide +kernel
theorem dX7_end_1 : decode cX7_end 1 = .ok (.getfield 37, 3) := by decide +kernel
theorem dX7_end_4 : decode cX7_end 4 = .ok (.iload_n 1, 1) := by decide +kernel
theorem dX7_end_5 : decode cX7_end 5 = .ok (.invokevirtual 115, 3) := by decide +kernel
theorem dX7_end_8 : decode cX7_end 8 = .ok (.ifCond .eq 7, 3) := by decide +kernel
theorem dX7_end_11 : decode cX7_end 11 = .ok (.iload_n 1, 1) := by decide +kernel
theorem dX7_end_12 : decode cX7_end 12 = .ok (.goto 4, 3) := by decide +kernel
theorem dX7_end_15 : decode cX7_end 15 = .ok (.iconst (-1), 1) := by decide +kernel
theorem dX7_end_16 : decode cX7_end 16 = .ok (.ireturn, 1) := by decide +kernel
theorem dX7_text_0 : decode cX7_text 0 = .ok (.aload_n 0, 1) := by decide +kernel
theorem dX7_text_1 : decode cX7_text 1 = .ok (.iload_n 1, 1) := by decide +kernel
theorem dX7_text_2 : decode cX7_text 2 = .ok (.invokevirtual 74, 3) := by decide +kernel
theorem dX7_text_5 : decode cX7_text 5 = .ok (.astore_n 3, 1) := by decide +kernel
theorem dX7_text_6 : decode cX7_text 6 = .ok (.aload_n 3, 1) := by decide +kernel
theorem dX7_text_7 : decode cX7_text 7 = .ok (.ifnull 13, 3) := by decide +kernel
theorem dX7_text_10 : decode cX7_text 10 = .ok (.iload_n 2, 1) := by decide +kernel
theorem dX7_text_11 : decode cX7_text 11 = .ok (.iconst 1, 1) := by decide +kernel
theorem dX7_text_12 : decode cX7_text 12 = .ok (.if_icmp .lt 8, 3) := by decide +kernel
theorem dX7_text_15 : decode cX7_text 15 = .ok (.iload_n 2, 1) := by decide +kernel
theorem dX7_text_16 : decode cX7_text 16 = .ok (.iconst 2, 1) := by decide +kernel
theorem dX7_text_17 : decode cX7_text 17 = .ok (.if_icmp .le 5, 3) := by decide +kernel
theorem dX7_text_20 : decode cX7_text 20 = .ok (.iconst (-1), 1) := by decide +kernel
theorem dX7_text_21 : decode cX7_text 21 = .ok (.ireturn, 1) := by decide +kernel
theorem dX7_text_22 : decode cX7_text 22 = .ok (.aload_n 0, 1) := by decide +kernel
theorem dX7_text_23 : decode cX7_text 23 = .ok (.getfield 37, 3) := by decide +kernel
theorem dX7_text_26 : decode cX7_text 26 = .ok (.iload_n 2, 1) := by decide +kernel
theorem dX7_text_27 : decode cX7_text 27 = .ok (.invokevirtual 118, 3) := by decide +kernel
theorem dX7_text_30 : decode cX7_text 30 = .ok (.istore 4, 2) := by decide +kernel
theorem dX7_text_32 : decode cX7_text 32 = .ok (.iload 4, 2) := by decide +kernel
theorem dX7_text_34 : decode cX7_text 34 = .ok (.iconst (-1), 1) := by decide +kernel
theorem dX7_text_35 : decode cX7_text 35 = .ok (.if_icmp .ne 5, 3) := by decide +kernel
theorem dX7_text_38 : decode cX7_text 38 = .ok (.iconst (-1), 1) := by decide +kernel
theorem dX7_text_39 : decode cX7_text 39 = .ok (.ireturn, 1) := by decide +kernel
theorem dX7_text_40 : decode cX7_text 40 = .ok (.aload_n 3, 1) := by decide +kernel
theorem dX7_text_41 : decode cX7_text 41 = .ok (.invokevirtual 121, 3) := by decide +kernel
theorem dX7_text_44 : decode cX7_text 44 = .ok (.iconst 0, 1) := by decide +kernel
theorem dX7_text_45 : decode cX7_text 45 = .ok (.istore 5, 2) := by decide +kernel
theorem dX7_text_47 : decode cX7_text 47 = .ok (.iload 5, 2) := by decide +kernel
theorem dX7_text_49 : decode cX7_text 49 = .ok (.iload 4, 2) := by decide +kernel
theorem dX7_text_51 : decode cX7_text 51 = .ok (.if_icmp .ge 41, 3) := by decide +kernel
theorem dX7_text_54 : decode cX7_text 54 = .ok (.aload_n 0, 1) := by decide +kernel
theorem dX7_text_55 : decode cX7_text 55 = .ok (.getfield 37, 3) := by decide +kernel
theorem dX7_text_58 : decode cX7_text 58 = .ok (.getfield 124, 3) := by decide +kernel
theorem dX7_text_61 : decode cX7_text 61 = .ok (.iload 5, 2) := by decide +kernel
theorem dX7_text_63 : decode cX7_text 63 = .ok (.iaload, 1) := by decide +kernel
theorem dX7_text_64 : decode cX7_text 64 = .ok (.istore 6, 2) := by decide +kernel
theorem dX7_text_66 : decode cX7_text 66 = .ok (.aload_n 3, 1) := by decide +kernel
theorem dX7_text_67 : decode cX7_text 67 = .ok (.iload 6, 2) := by decide +kernel
theorem dX7_text_69 : decode cX7_text 69 = .ok (.aload_n 0, 1) := by decide +kernel
theorem dX7_text_70 : decode cX7_text 70 = .ok (.getfield 20, 3) := by decide +kernel
theorem dX7_text_73 : decode cX7_text 73 = .ok (.invokestatic 85, 3) := by decide +kernel
theorem dX7_text_76 : decode cX7_text 76 = .ok (.aload_n 0, 1) := by decide +kernel
theorem dX7_text_77 : decode cX7_text 77 = .ok (.iload 6, 2) := by decide +kernel
theorem dX7_text_79 : decode cX7_text 79 = .ok (.invokevirtual 89, 3) := by decide +kernel
theorem dX7_text_82 : decode cX7_text 82 = .ok (.invokevirtual 93, 3) := by decide +kernel
theorem dX7_text_85 : decode cX7_text 85 = .ok (.pop, 1) := by decide +kernel
theorem dX7_text_86 : decode cX7_text 86 = .ok (.iinc 5 1, 3) := by decide +kernel
theorem dX7_text_89 : decode cX7_text 89 = .ok (.goto (-42), 3) := by decide +kernel
theorem dX7_text_92 : decode cX7_text 92 = .ok (.aload_n 0, 1) := by decide +kernel
theorem dX7_text_93 : decode cX7_text 93 = .ok (.getfield 37, 3) := by decide +kernel
theorem dX7_text_96 : decode cX7_text 96 = .ok (.iconst 0, 1) := by decide +kernel
theorem dX7_text_97 : decode cX7_text 97 = .ok (.invokevirtual 115, 3) := by decide +kernel
theorem dX7_text_100 : decode cX7_text 100 = .ok (.pop, 1) := by decide +kernel
theorem dX7_text_101 : decode cX7_text 101 = .ok (.aload_n 0, 1) := by decide +kernel
theorem dX7_text_102 : decode cX7_text 102 = .ok (.getfield 65, 3) := by decide +kernel
theorem dX7_text_105 : decode cX7_text 105 = .ok (.iload_n 1, 1) := by decide +kernel
theorem dX7_text_106 : decode cX7_text 106 = .ok (.invokevirtual 78, 3) := by decide +kernel
theorem dX7_text_109 : decode cX7_text 109 = .ok (.iload 4, 2) := by decide +kernel
theorem dX7_text_111 : decode cX7_text 111 = .ok (.ireturn, 1) := by decide +kernel
theorem dX7_measure_0 : decode cX7_measure 0 = .ok (.aload_n 0, 1) := by decide +kernel
theorem dX7_measure_1 : decode cX7_measure 1 = .ok (.getfield 30, 3) := by decide +kernel
theorem dX7_measure_4 : decode cX7_measure 4 = .ok (.iload_n 1, 1) := by decide +kernel
theorem dX7_measure_5 : decode cX7_measure 5 = .ok (.iload_n 2, 1) := by decide +kernel
theorem dX7_measure_6 : decode cX7_measure 6 = .ok (.iload_n 3, 1) := by decide +kernel
theorem dX7_measure_7 : decode cX7_measure 7 = .ok (.invokevirtual 127, 3) := by decide +kernel
theorem dX7_measure_10 : decode cX7_measure 10 = .ok (.ifCond .ne 5, 3) := by decide +kernel
theorem dX7_measure_13 : decode cX7_measure 13 = .ok (.iconst 0, 1) := by decide +kernel
theorem dX7_measure_14 : decode cX7_measure 14 = .ok (.ireturn, 1) := by decide +kernel
theorem dX7_measure_15 : decode cX7_measure 15 = .ok (.aload_n 0, 1) := by decide +kernel
theorem dX7_measure_16 : decode cX7_measure 16 = .ok (.invokevirtual 103, 3) := by decide +kernel
theorem dX7_measure_19 : decode cX7_measure 19 = .ok (.iconst 1, 1) := by decide +kernel
theorem dX7_measure_20 : decode cX7_measure 20 = .ok (.ireturn, 1) := by decide +kernel
theorem dX7_order_0 : decode cX7_order 0 = .ok (.aload_n 0, 1) := by decide +kernel
theorem dX7_order_1 : decode cX7_order 1 = .ok (.getfield 20, 3) := by decide +kernel
theorem dX7_order_4 : decode cX7_order 4 = .ok (.invokevirtual 131, 3) := by decide +kernel
theorem dX7_order_7 : decode cX7_order 7 = .ok (.iconst 0, 1) := by decide +kernel
theorem dX7_order_8 : decode cX7_order 8 = .ok (.istore_n 1, 1) := by decide +kernel
theorem dX7_order_9 : decode cX7_order 9 = .ok (.iload_n 1, 1) := by decide +kernel
theorem dX7_order_10 : decode cX7_order 10 = .ok (.aload_n 0, 1) := by decide +kernel
theorem dX7_order_11 : decode cX7_order 11 = .ok (.getfield 69, 3) := by decide +kernel
theorem dX7_order_14 : decode cX7_order 14 = .ok (.if_icmp .ge 48, 3) := by decide +kernel
theorem dX7_order_17 : decode cX7_order 17 = .ok (.aload_n 0, 1) := by decide +kernel
theorem dX7_order_18 : decode cX7_order 18 = .ok (.getfield 11, 3) := by decide +kernel
theorem dX7_order_21 : decode cX7_order 21 = .ok (.iload_n 1, 1) := by decide +kernel
theorem dX7_order_22 : decode cX7_order 22 = .ok (.aaload, 1) := by decide +kernel
theorem dX7_order_23 : decode cX7_order 23 = .ok (.astore_n 2, 1) := by decide +kernel
theorem dX7_order_24 : decode cX7_order 24 = .ok (.iconst 0, 1) := by decide +kernel
theorem dX7_order_25 : decode cX7_order 25 = .ok (.istore_n 3, 1) := by decide +kernel
theorem dX7_order_26 : decode cX7_order 26 = .ok (.aload_n 2, 1) := by decide +kernel
theorem dX7_order_27 : decode cX7_order 27 = .ok (.ifnull 29, 3) := by decide +kernel
theorem dX7_order_30 : decode cX7_order 30 = .ok (.iload_n 3, 1) := by decide +kernel
theorem dX7_order_31 : decode cX7_order 31 = .ok (.aload_n 2, 1) := by decide +kernel
theorem dX7_order_32 : decode cX7_order 32 = .ok (.getfield 132, 3) := by decide +kernel
theorem dX7_order_35 : decode cX7_order 35 = .ok (.if_icmp .ge 21, 3) := by decide +kernel
theorem dX7_order_38 : decode cX7_order 38 = .ok (.aload_n 0, 1) := by decide +kernel
theorem dX7_order_39 : decode cX7_order 39 = .ok (.getfield 20, 3) := by decide +kernel
theorem dX7_order_42 : decode cX7_order 42 = .ok (.aload_n 2, 1) := by decide +kernel
theorem dX7_order_43 : decode cX7_order 43 = .ok (.iload_n 3, 1) := by decide +kernel
theorem dX7_order_44 : decode cX7_order 44 = .ok (.invokevirtual 135, 3) := by decide +kernel
theorem dX7_order_47 : decode cX7_order 47 = .ok (.invokevirtual 138, 3) := by decide +kernel
theorem dX7_order_50 : decode cX7_order 50 = .ok (.iinc 3 1, 3) := by decide +kernel
theorem dX7_order_53 : decode cX7_order 53 = .ok (.goto (-27), 3) := by decide +kernel
theorem dX7_order_56 : decode cX7_order 56 = .ok (.iinc 1 1, 3) := by decide +kernel
theorem dX7_order_59 : decode cX7_order 59 = .ok (.goto (-50), 3) := by decide +kernel
theorem dX7_order_62 : decode cX7_order 62 = .ok (.iconst 0, 1) := by decide +kernel
theorem dX7_order_63 : decode cX7_order 63 = .ok (.istore_n 1, 1) := by decide +kernel
theorem dX7_order_64 : decode cX7_order 64 = .ok (.iload_n 1, 1) := by decide +kernel
theorem dX7_order_65 : decode cX7_order 65 = .ok (.aload_n 0, 1) := by decide +kernel
theorem dX7_order_66 : decode cX7_order 66 = .ok (.getfield 69, 3) := by decide +kernel
theorem dX7_order_69 : decode cX7_order 69 = .ok (.if_icmp .ge 31, 3) := by decide +kernel
theorem dX7_order_72 : decode cX7_order 72 = .ok (.aload_n 0, 1) := by decide +kernel
theorem dX7_order_73 : decode cX7_order 73 = .ok (.getfield 11, 3) := by decide +kernel
theorem dX7_order_76 : decode cX7_order 76 = .ok (.iload_n 1, 1) := by decide +kernel
theorem dX7_order_77 : decode cX7_order 77 = .ok (.aaload, 1) := by decide +kernel
theorem dX7_order_78 : decode cX7_order 78 = .ok (.ifnull 16, 3) := by decide +kernel
theorem dX7_order_81 : decode cX7_order 81 = .ok (.aload_n 0, 1) := by decide +kernel
theorem dX7_order_82 : decode cX7_order 82 = .ok (.getfield 11, 3) := by decide +kernel
theorem dX7_order_85 : decode cX7_order 85 = .ok (.iload_n 1, 1) := by decide +kernel
theorem dX7_order_86 : decode cX7_order 86 = .ok (.aaload, 1) := by decide +kernel
theorem dX7_order_87 : decode cX7_order 87 = .ok (.aload_n 0, 1) := by decide +kernel
theorem dX7_order_88 : decode cX7_order 88 = .ok (.getfield 20, 3) := by decide +kernel
theorem dX7_order_91 : decode cX7_order 91 = .ok (.invokevirtual 141, 3) := by decide +kernel
theorem dX7_order_94 : decode cX7_order 94 = .ok (.iinc 1 1, 3) := by decide +kernel
theorem dX7_order_97 : decode cX7_order 97 = .ok (.goto (-33), 3) := by decide +kernel
theorem dX7_order_100 : decode cX7_order 100 = .ok (.aload_n 0, 1) := by decide +kernel
theorem dX7_order_101 : decode cX7_order 101 = .ok (.getfield 20, 3) := by decide +kernel
theorem dX7_order_104 : decode cX7_order 104 = .ok (.getfield 145, 3) := by decide +kernel
theorem dX7_order_107 : decode cX7_order 107 = .ok (.ireturn, 1) := by decide +kernel
theorem dX7_frequency_0 : decode cX7_frequency 0 = .ok (.aload_n 0, 1) := by decide +kernel
theorem dX7_frequency_1 : decode cX7_frequency 1 = .ok (.getfield 20, 3) := by decide +kernel
theorem dX7_frequency_4 : decode cX7_frequency 4 = .ok (.iload_n 1, 1) := by decide +kernel
theorem dX7_frequency_5 : decode cX7_frequency 5 = .ok (.iconst 0, 1) := by decide +kernel
theorem dX7_frequency_6 : decode cX7_frequency 6 = .ok (.invokevirtual 146, 3) := by decide +kernel
theorem dX7_frequency_9 : decode cX7_frequency 9 = .ok (.ireturn, 1) := by decide +kernel
theorem dX7_about_0 : decode cX7_about 0 = .ok (.aload_n 0, 1) := by decide +kernel
theorem dX7_about_1 : decode cX7_about 1 = .ok (.iload_n 1, 1) := by decide +kernel
theorem dX7_about_2 : decode cX7_about 2 = .ok (.invokevirtual 74, 3) := by decide +kernel
theorem dX7_about_5 : decode cX7_about 5 = .ok (.astore_n 3, 1) := by decide +kernel
theorem dX7_about_6 : decode cX7_about 6 = .ok (.aload_n 3, 1) := by decide +kernel
theorem dX7_about_7 : decode cX7_about 7 = .ok (.ifnonnull 5, 3) := by decide +kernel
theorem dX7_about_10 : decode cX7_about 10 = .ok (.iconst (-1), 1) := by decide +kernel
theorem dX7_about_11 : decode cX7_about 11 = .ok (.ireturn, 1) := by decide +kernel
theorem dX7_about_12 : decode cX7_about 12 = .ok (.iload_n 2, 1) := by decide +kernel
theorem dX7_about_13 : decode cX7_about 13 = .ok (.tableswitch 93 0 5 #[39, 44, 49, 63, 69, 81], 39) := by decide +kernel
theorem dX7_about_52 : decode cX7_about 52 = .ok (.aload_n 3, 1) := by decide +kernel
theorem dX7_about_53 : decode cX7_about 53 = .ok (.getfield 132, 3) := by decide +kernel
theorem dX7_about_56 : decode cX7_about 56 = .ok (.ireturn, 1) := by decide +kernel
theorem dX7_about_57 : decode cX7_about 57 = .ok (.aload_n 3, 1) := by decide +kernel
theorem dX7_about_58 : decode cX7_about 58 = .ok (.getfield 150, 3) := by decide +kernel
theorem dX7_about_61 : decode cX7_about 61 = .ok (.ireturn, 1) := by decide +kernel
theorem dX7_about_62 : decode cX7_about 62 = .ok (.aload_n 0, 1) := by decide +kernel
theorem dX7_about_63 : decode cX7_about 63 = .ok (.getfield 30, 3) := by decide +kernel
theorem dX7_about_66 : decode cX7_about 66 = .ok (.aload_n 3, 1) := by decide +kernel
theorem dX7_about_67 : decode cX7_about 67 = .ok (.getfield 150, 3) := by decide +kernel
theorem dX7_about_70 : decode cX7_about 70 = .ok (.i2l, 1) := by decide +kernel
theorem dX7_about_71 : decode cX7_about 71 = .ok (.invokevirtual 153, 3) := by decide +kernel
theorem dX7_about_74 : decode cX7_about 74 = .ok (.l2i, 1) := by decide +kernel
theorem dX7_about_75 : decode cX7_about 75 = .ok (.ireturn, 1) := by decide +kernel
theorem dX7_about_76 : decode cX7_about 76 = .ok (.aload_n 0, 1) := by decide +kernel
theorem dX7_about_77 : decode cX7_about 77 = .ok (.aload_n 3, 1) := by decide +kernel
theorem dX7_about_78 : decode cX7_about 78 = .ok (.invokevirtual 157, 3) := by decide +kernel
theorem dX7_about_81 : decode cX7_about 81 = .ok (.ireturn, 1) := by decide +kernel
theorem dX7_about_82 : decode cX7_about 82 = .ok (.aload_n 0, 1) := by decide +kernel
theorem dX7_about_83 : decode cX7_about 83 = .ok (.invokevirtual 161, 3) := by decide +kernel
theorem dX7_about_86 : decode cX7_about 86 = .ok (.iload_n 1, 1) := by decide +kernel
theorem dX7_about_87 : decode cX7_about 87 = .ok (.invokevirtual 165, 3) := by decide +kernel
theorem dX7_about_90 : decode cX7_about 90 = .ok (.invokestatic 169, 3) := by decide +kernel
theorem dX7_about_93 : decode cX7_about 93 = .ok (.ireturn, 1) := by decide +kernel
theorem dX7_about_94 : decode cX7_about 94 = .ok (.aload_n 0, 1) := by decide +kernel
theorem dX7_about_95 : decode cX7_about 95 = .ok (.invokevirtual 161, 3) := by decide +kernel
theorem dX7_about_98 : decode cX7_about 98 = .ok (.iload_n 1, 1) := by decide +kernel
theorem dX7_about_99 : decode cX7_about 99 = .ok (.invokevirtual 165, 3) := by decide +kernel
theorem dX7_about_102 : decode cX7_about 102 = .ok (.invokestatic 173, 3) := by decide +kernel
theorem dX7_about_105 : decode cX7_about 105 = .ok (.ireturn, 1) := by decide +kernel
theorem dX7_about_106 : decode cX7_about 106 = .ok (.iconst (-1), 1) := by decide +kernel
theorem dX7_about_107 : decode cX7_about 107 = .ok (.ireturn, 1) := by decide +kernel
theorem dX7_at_0 : decode cX7_at 0 = .ok (.aload_n 0, 1) := by decide +kernel
theorem dX7_at_1 : decode cX7_at 1 = .ok (.iload_n 1, 1) := by decide +kernel
theorem dX7_at_2 : decode cX7_at 2 = .ok (.invokevirtual 74, 3) := by decide +kernel
theorem dX7_at_5 : decode cX7_at 5 = .ok (.astore_n 3, 1) := by decide +kernel
theorem dX7_at_6 : decode cX7_at 6 = .ok (.aload_n 3, 1) := by decide +kernel
theorem dX7_at_7 : decode cX7_at 7 = .ok (.ifnonnull 7, 3) := by decide +kernel
theorem dX7_at_10 : decode cX7_at 10 = .ok (.iconst (-1), 1) := by decide +kernel
theorem dX7_at_11 : decode cX7_at 11 = .ok (.goto 8, 3) := by decide +kernel
theorem dX7_at_14 : decode cX7_at 14 = .ok (.aload_n 3, 1) := by decide +kernel
theorem dX7_at_15 : decode cX7_at 15 = .ok (.iload_n 2, 1) := by decide +kernel
theorem dX7_at_16 : decode cX7_at 16 = .ok (.invokevirtual 135, 3) := by decide +kernel
theorem dX7_at_19 : decode cX7_at 19 = .ok (.ireturn, 1) := by decide +kernel
theorem dX7_like_0 : decode cX7_like 0 = .ok (.aload_n 0, 1) := by decide +kernel
theorem dX7_like_1 : decode cX7_like 1 = .ok (.iload_n 1, 1) := by decide +kernel
theorem dX7_like_2 : decode cX7_like 2 = .ok (.invokevirtual 74, 3) := by decide +kernel
theorem dX7_like_5 : decode cX7_like 5 = .ok (.astore 4, 2) := by decide +kernel
theorem dX7_like_7 : decode cX7_like 7 = .ok (.aload_n 0, 1) := by decide +kernel
theorem dX7_like_8 : decode cX7_like 8 = .ok (.iload_n 2, 1) := by decide +kernel
theorem dX7_like_9 : decode cX7_like 9 = .ok (.invokevirtual 74, 3) := by decide +kernel
theorem dX7_like_12 : decode cX7_like 12 = .ok (.astore 5, 2) := by decide +kernel
theorem dX7_like_14 : decode cX7_like 14 = .ok (.aload 4, 2) := by decide +kernel
theorem dX7_like_16 : decode cX7_like 16 = .ok (.ifnull 13, 3) := by decide +kernel
theorem dX7_like_19 : decode cX7_like 19 = .ok (.aload 5, 2) := by decide +kernel
theorem dX7_like_21 : decode cX7_like 21 = .ok (.ifnull 8, 3) := by decide +kernel
theorem dX7_like_24 : decode cX7_like 24 = .ok (.iload_n 1, 1) := by decide +kernel
theorem dX7_like_25 : decode cX7_like 25 = .ok (.iload_n 2, 1) := by decide +kernel
theorem dX7_like_26 : decode cX7_like 26 = .ok (.if_icmp .ne 7, 3) := by decide +kernel
theorem dX7_like_29 : decode cX7_like 29 = .ok (.ldc2_w 178, 3) := by decide +kernel
theorem dX7_like_32 : decode cX7_like 32 = .ok (.lreturn, 1) := by decide +kernel
theorem dX7_like_33 : decode cX7_like 33 = .ok (.aload_n 0, 1) := by decide +kernel
theorem dX7_like_34 : decode cX7_like 34 = .ok (.getfield 44, 3) := by decide +kernel
theorem dX7_like_37 : decode cX7_like 37 = .ok (.aload 4, 2) := by decide +kernel
theorem dX7_like_39 : decode cX7_like 39 = .ok (.iconst 0, 1) := by decide +kernel
theorem dX7_like_40 : decode cX7_like 40 = .ok (.aload 5, 2) := by decide +kernel
theorem dX7_like_42 : decode cX7_like 42 = .ok (.iconst 0, 1) := by decide +kernel
theorem dX7_like_43 : decode cX7_like 43 = .ok (.invokevirtual 180, 3) := by decide +kernel
theorem dX7_like_46 : decode cX7_like 46 = .ok (.aload_n 0, 1) := by decide +kernel
theorem dX7_like_47 : decode cX7_like 47 = .ok (.getfield 44, 3) := by decide +kernel
theorem dX7_like_50 : decode cX7_like 50 = .ok (.getfield 184, 3) := by decide +kernel
theorem dX7_like_53 : decode cX7_like 53 = .ok (.i2l, 1) := by decide +kernel
theorem dX7_like_54 : decode cX7_like 54 = .ok (.lstore 6, 2) := by decide +kernel
theorem dX7_like_56 : decode cX7_like 56 = .ok (.aload_n 0, 1) := by decide +kernel
theorem dX7_like_57 : decode cX7_like 57 = .ok (.getfield 30, 3) := by decide +kernel
theorem dX7_like_60 : decode cX7_like 60 = .ok (.lload 6, 2) := by decide +kernel
theorem dX7_like_62 : decode cX7_like 62 = .ok (.aload 4, 2) := by decide +kernel
theorem dX7_like_64 : decode cX7_like 64 = .ok (.getfield 150, 3) := by decide +kernel
theorem dX7_like_67 : decode cX7_like 67 = .ok (.i2l, 1) := by decide +kernel
theorem dX7_like_68 : decode cX7_like 68 = .ok (.aload 5, 2) := by decide +kernel
theorem dX7_like_70 : decode cX7_like 70 = .ok (.getfield 150, 3) := by decide +kernel
theorem dX7_like_73 : decode cX7_like 73 = .ok (.i2l, 1) := by decide +kernel
theorem dX7_like_74 : decode cX7_like 74 = .ok (.invokevirtual 187, 3) := by decide +kernel
theorem dX7_like_77 : decode cX7_like 77 = .ok (.lstore 8, 2) := by decide +kernel
theorem dX7_like_79 : decode cX7_like 79 = .ok (.aload_n 0, 1) := by decide +kernel
theorem dX7_like_80 : decode cX7_like 80 = .ok (.getfield 30, 3) := by decide +kernel
theorem dX7_like_83 : decode cX7_like 83 = .ok (.lload 6, 2) := by decide +kernel
theorem dX7_like_85 : decode cX7_like 85 = .ok (.aload 4, 2) := by decide +kernel
theorem dX7_like_87 : decode cX7_like 87 = .ok (.getfield 150, 3) := by decide +kernel
theorem dX7_like_90 : decode cX7_like 90 = .ok (.i2l, 1) := by decide +kernel
theorem dX7_like_91 : decode cX7_like 91 = .ok (.aload 5, 2) := by decide +kernel
theorem dX7_like_93 : decode cX7_like 93 = .ok (.getfield 150, 3) := by decide +kernel
theorem dX7_like_96 : decode cX7_like 96 = .ok (.i2l, 1) := by decide +kernel
theorem dX7_like_97 : decode cX7_like 97 = .ok (.invokevirtual 191, 3) := by decide +kernel
theorem dX7_like_100 : decode cX7_like 100 = .ok (.lstore 10, 2) := by decide +kernel
theorem dX7_like_102 : decode cX7_like 102 = .ok (.iload_n 3, 1) := by decide +kernel
theorem dX7_like_103 : decode cX7_like 103 = .ok (.tableswitch 106 0 4 #[33, 36, 56, 66, 76], 33) := by decide +kernel
theorem dX7_like_136 : decode cX7_like 136 = .ok (.lload 6, 2) := by decide +kernel
theorem dX7_like_138 : decode cX7_like 138 = .ok (.lreturn, 1) := by decide +kernel
theorem dX7_like_139 : decode cX7_like 139 = .ok (.aload_n 0, 1) := by decide +kernel
theorem dX7_like_140 : decode cX7_like 140 = .ok (.getfield 30, 3) := by decide +kernel
theorem dX7_like_143 : decode cX7_like 143 = .ok (.aload 4, 2) := by decide +kernel
theorem dX7_like_145 : decode cX7_like 145 = .ok (.getfield 150, 3) := by decide +kernel
theorem dX7_like_148 : decode cX7_like 148 = .ok (.i2l, 1) := by decide +kernel
theorem dX7_like_149 : decode cX7_like 149 = .ok (.aload 5, 2) := by decide +kernel
theorem dX7_like_151 : decode cX7_like 151 = .ok (.getfield 150, 3) := by decide +kernel
theorem dX7_like_154 : decode cX7_like 154 = .ok (.i2l, 1) := by decide +kernel
theorem dX7_like_155 : decode cX7_like 155 = .ok (.invokevirtual 194, 3) := by decide +kernel
theorem dX7_like_158 : decode cX7_like 158 = .ok (.lreturn, 1) := by decide +kernel
theorem dX7_like_159 : decode cX7_like 159 = .ok (.lload 8, 2) := by decide +kernel
theorem dX7_like_161 : decode cX7_like 161 = .ok (.lload 8, 2) := by decide +kernel
theorem dX7_like_163 : decode cX7_like 163 = .ok (.lload 10, 2) := by decide +kernel
theorem dX7_like_165 : decode cX7_like 165 = .ok (.invokestatic 198, 3) := by decide +kernel
theorem dX7_like_168 : decode cX7_like 168 = .ok (.lreturn, 1) := by decide +kernel
theorem dX7_like_169 : decode cX7_like 169 = .ok (.lload 10, 2) := by decide +kernel
theorem dX7_like_171 : decode cX7_like 171 = .ok (.lload 8, 2) := by decide +kernel
theorem dX7_like_173 : decode cX7_like 173 = .ok (.lload 10, 2) := by decide +kernel
theorem dX7_like_175 : decode cX7_like 175 = .ok (.invokestatic 198, 3) := by decide +kernel
theorem dX7_like_178 : decode cX7_like 178 = .ok (.lreturn, 1) := by decide +kernel
theorem dX7_like_179 : decode cX7_like 179 = .ok (.aload_n 0, 1) := by decide +kernel
theorem dX7_like_180 : decode cX7_like 180 = .ok (.getfield 30, 3) := by decide +kernel
theorem dX7_like_183 : decode cX7_like 183 = .ok (.lload 6, 2) := by decide +kernel
theorem dX7_like_185 : decode cX7_like 185 = .ok (.aload 4, 2) := by decide +kernel
theorem dX7_like_187 : decode cX7_like 187 = .ok (.getfield 150, 3) := by decide +kernel
theorem dX7_like_190 : decode cX7_like 190 = .ok (.i2l, 1) := by decide +kernel
theorem dX7_like_191 : decode cX7_like 191 = .ok (.aload 5, 2) := by decide +kernel
theorem dX7_like_193 : decode cX7_like 193 = .ok (.getfield 150, 3) := by decide +kernel
theorem dX7_like_196 : decode cX7_like 196 = .ok (.i2l, 1) := by decide +kernel
theorem dX7_like_197 : decode cX7_like 197 = .ok (.invokevirtual 201, 3) := by decide +kernel
theorem dX7_like_200 : decode cX7_like 200 = .ok (.ifCond .eq 7, 3) := by decide +kernel
theorem dX7_like_203 : decode cX7_like 203 = .ok (.lconst 1, 1) := by decide +kernel
theorem dX7_like_204 : decode cX7_like 204 = .ok (.goto 4, 3) := by decide +kernel
theorem dX7_like_207 : decode cX7_like 207 = .ok (.lconst 0, 1) := by decide +kernel
theorem dX7_like_208 : decode cX7_like 208 = .ok (.lreturn, 1) := by decide +kernel
theorem dX7_like_209 : decode cX7_like 209 = .ok (.ldc2_w 178, 3) := by decide +kernel
theorem dX7_like_212 : decode cX7_like 212 = .ok (.lreturn, 1) := by decide +kernel
theorem dX7_why_0 : decode cX7_why 0 = .ok (.aload_n 0, 1) := by decide +kernel
theorem dX7_why_1 : decode cX7_why 1 = .ok (.iload_n 1, 1) := by decide +kernel
theorem dX7_why_2 : decode cX7_why 2 = .ok (.invokevirtual 74, 3) := by decide +kernel
theorem dX7_why_5 : decode cX7_why 5 = .ok (.astore_n 3, 1) := by decide +kernel
theorem dX7_why_6 : decode cX7_why 6 = .ok (.aload_n 0, 1) := by decide +kernel
theorem dX7_why_7 : decode cX7_why 7 = .ok (.iload_n 2, 1) := by decide +kernel
theorem dX7_why_8 : decode cX7_why 8 = .ok (.invokevirtual 74, 3) := by decide +kernel
theorem dX7_why_11 : decode cX7_why 11 = .ok (.astore 4, 2) := by decide +kernel
theorem dX7_why_13 : decode cX7_why 13 = .ok (.aload_n 3, 1) := by decide +kernel
theorem dX7_why_14 : decode cX7_why 14 = .ok (.ifnull 13, 3) := by decide +kernel
theorem dX7_why_17 : decode cX7_why 17 = .ok (.aload 4, 2) := by decide +kernel
theorem dX7_why_19 : decode cX7_why 19 = .ok (.ifnull 8, 3) := by decide +kernel
theorem dX7_why_22 : decode cX7_why 22 = .ok (.iload_n 1, 1) := by decide +kernel
theorem dX7_why_23 : decode cX7_why 23 = .ok (.iload_n 2, 1) := by decide +kernel
theorem dX7_why_24 : decode cX7_why 24 = .ok (.if_icmp .ne 5, 3) := by decide +kernel
theorem dX7_why_27 : decode cX7_why 27 = .ok (.iconst (-1), 1) := by decide +kernel
theorem dX7_why_28 : decode cX7_why 28 = .ok (.ireturn, 1) := by decide +kernel
theorem dX7_why_29 : decode cX7_why 29 = .ok (.aload_n 0, 1) := by decide +kernel
theorem dX7_why_30 : decode cX7_why 30 = .ok (.aload_n 3, 1) := by decide +kernel
theorem dX7_why_31 : decode cX7_why 31 = .ok (.aload_n 0, 1) := by decide +kernel
theorem dX7_why_32 : decode cX7_why 32 = .ok (.aload_n 3, 1) := by decide +kernel
theorem dX7_why_33 : decode cX7_why 33 = .ok (.invokevirtual 157, 3) := by decide +kernel
theorem dX7_why_36 : decode cX7_why 36 = .ok (.aload 4, 2) := by decide +kernel
theorem dX7_why_38 : decode cX7_why 38 = .ok (.aload_n 0, 1) := by decide +kernel
theorem dX7_why_39 : decode cX7_why 39 = .ok (.aload 4, 2) := by decide +kernel
theorem dX7_why_41 : decode cX7_why 41 = .ok (.invokevirtual 157, 3) := by decide +kernel
theorem dX7_why_44 : decode cX7_why 44 = .ok (.invokevirtual 205, 3) := by decide +kernel
theorem dX7_why_47 : decode cX7_why 47 = .ok (.ireturn, 1) := by decide +kernel
theorem dX7_pairs_0 : decode cX7_pairs 0 = .ok (.aload_n 0, 1) := by decide +kernel
theorem dX7_pairs_1 : decode cX7_pairs 1 = .ok (.invokevirtual 209, 3) := by decide +kernel
theorem dX7_pairs_4 : decode cX7_pairs 4 = .ok (.iconst 0, 1) := by decide +kernel
theorem dX7_pairs_5 : decode cX7_pairs 5 = .ok (.istore_n 1, 1) := by decide +kernel
theorem dX7_pairs_6 : decode cX7_pairs 6 = .ok (.iload_n 1, 1) := by decide +kernel
theorem dX7_pairs_7 : decode cX7_pairs 7 = .ok (.aload_n 0, 1) := by decide +kernel
theorem dX7_pairs_8 : decode cX7_pairs 8 = .ok (.getfield 69, 3) := by decide +kernel
theorem dX7_pairs_11 : decode cX7_pairs 11 = .ok (.if_icmp .ge 51, 3) := by decide +kernel
theorem dX7_pairs_14 : decode cX7_pairs 14 = .ok (.iload_n 1, 1) := by decide +kernel
theorem dX7_pairs_15 : decode cX7_pairs 15 = .ok (.iconst 1, 1) := by decide +kernel
theorem dX7_pairs_16 : decode cX7_pairs 16 = .ok (.iadd, 1) := by decide +kernel
theorem dX7_pairs_17 : decode cX7_pairs 17 = .ok (.istore_n 2, 1) := by decide +kernel
theorem dX7_pairs_18 : decode cX7_pairs 18 = .ok (.iload_n 2, 1) := by decide +kernel
theorem dX7_pairs_19 : decode cX7_pairs 19 = .ok (.aload_n 0, 1) := by decide +kernel
theorem dX7_pairs_20 : decode cX7_pairs 20 = .ok (.getfield 69, 3) := by decide +kernel
theorem dX7_pairs_23 : decode cX7_pairs 23 = .ok (.if_icmp .ge 33, 3) := by decide +kernel
theorem dX7_pairs_26 : decode cX7_pairs 26 = .ok (.aload_n 0, 1) := by decide +kernel
theorem dX7_pairs_27 : decode cX7_pairs 27 = .ok (.getfield 11, 3) := by decide +kernel
theorem dX7_pairs_30 : decode cX7_pairs 30 = .ok (.iload_n 1, 1) := by decide +kernel
theorem dX7_pairs_31 : decode cX7_pairs 31 = .ok (.aaload, 1) := by decide +kernel
theorem dX7_pairs_32 : decode cX7_pairs 32 = .ok (.ifnull 18, 3) := by decide +kernel
theorem dX7_pairs_35 : decode cX7_pairs 35 = .ok (.aload_n 0, 1) := by decide +kernel
theorem dX7_pairs_36 : decode cX7_pairs 36 = .ok (.getfield 11, 3) := by decide +kernel
theorem dX7_pairs_39 : decode cX7_pairs 39 = .ok (.iload_n 2, 1) := by decide +kernel
theorem dX7_pairs_40 : decode cX7_pairs 40 = .ok (.aaload, 1) := by decide +kernel
theorem dX7_pairs_41 : decode cX7_pairs 41 = .ok (.ifnull 9, 3) := by decide +kernel
theorem dX7_pairs_44 : decode cX7_pairs 44 = .ok (.aload_n 0, 1) := by decide +kernel
theorem dX7_pairs_45 : decode cX7_pairs 45 = .ok (.iload_n 1, 1) := by decide +kernel
theorem dX7_pairs_46 : decode cX7_pairs 46 = .ok (.iload_n 2, 1) := by decide +kernel
theorem dX7_pairs_47 : decode cX7_pairs 47 = .ok (.invokevirtual 212, 3) := by decide +kernel
theorem dX7_pairs_50 : decode cX7_pairs 50 = .ok (.iinc 2 1, 3) := by decide +kernel
theorem dX7_pairs_53 : decode cX7_pairs 53 = .ok (.goto (-35), 3) := by decide +kernel
theorem dX7_pairs_56 : decode cX7_pairs 56 = .ok (.iinc 1 1, 3) := by decide +kernel
theorem dX7_pairs_59 : decode cX7_pairs 59 = .ok (.goto (-53), 3) := by decide +kernel
theorem dX7_pairs_62 : decode cX7_pairs 62 = .ok (.aload_n 0, 1) := by decide +kernel
theorem dX7_pairs_63 : decode cX7_pairs 63 = .ok (.getfield 52, 3) := by decide +kernel
theorem dX7_pairs_66 : decode cX7_pairs 66 = .ok (.iconst 0, 1) := by decide +kernel
theorem dX7_pairs_67 : decode cX7_pairs 67 = .ok (.iaload, 1) := by decide +kernel
theorem dX7_pairs_68 : decode cX7_pairs 68 = .ok (.ireturn, 1) := by decide +kernel
theorem dX7_pair_0 : decode cX7_pair 0 = .ok (.iload_n 1, 1) := by decide +kernel
theorem dX7_pair_1 : decode cX7_pair 1 = .ok (.ifCond .lt 23, 3) := by decide +kernel
theorem dX7_pair_4 : decode cX7_pair 4 = .ok (.iload_n 1, 1) := by decide +kernel
theorem dX7_pair_5 : decode cX7_pair 5 = .ok (.aload_n 0, 1) := by decide +kernel
theorem dX7_pair_6 : decode cX7_pair 6 = .ok (.getfield 58, 3) := by decide +kernel
theorem dX7_pair_9 : decode cX7_pair 9 = .ok (.getfield 216, 3) := by decide +kernel
theorem dX7_pair_12 : decode cX7_pair 12 = .ok (.if_icmp .ge 12, 3) := by decide +kernel
theorem dX7_pair_15 : decode cX7_pair 15 = .ok (.iload_n 2, 1) := by decide +kernel
theorem dX7_pair_16 : decode cX7_pair 16 = .ok (.ifCond .lt 8, 3) := by decide +kernel
theorem dX7_pair_19 : decode cX7_pair 19 = .ok (.iload_n 2, 1) := by decide +kernel
theorem dX7_pair_20 : decode cX7_pair 20 = .ok (.iconst 2, 1) := by decide +kernel
theorem dX7_pair_21 : decode cX7_pair 21 = .ok (.if_icmp .le 13, 3) := by decide +kernel
theorem dX7_pair_24 : decode cX7_pair 24 = .ok (.new 217, 3) := by decide +kernel
theorem dX7_pair_27 : decode cX7_pair 27 = .ok (.dup, 1) := by decide +kernel
theorem dX7_pair_28 : decode cX7_pair 28 = .ok (.ldc 219, 2) := by decide +kernel
theorem dX7_pair_30 : decode cX7_pair 30 = .ok (.invokespecial 221, 3) := by decide +kernel
theorem dX7_pair_33 : decode cX7_pair 33 = .ok (.athrow, 1) := by decide +kernel
theorem dX7_pair_34 : decode cX7_pair 34 = .ok (.iload_n 2, 1) := by decide +kernel
theorem dX7_pair_35 : decode cX7_pair 35 = .ok (.iconst 2, 1) := by decide +kernel
theorem dX7_pair_36 : decode cX7_pair 36 = .ok (.if_icmp .ne 13, 3) := by decide +kernel
theorem dX7_pair_39 : decode cX7_pair 39 = .ok (.aload_n 0, 1) := by decide +kernel
theorem dX7_pair_40 : decode cX7_pair 40 = .ok (.getfield 58, 3) := by decide +kernel
theorem dX7_pair_43 : decode cX7_pair 43 = .ok (.getfield 224, 3) := by decide +kernel
theorem dX7_pair_46 : decode cX7_pair 46 = .ok (.iload_n 1, 1) := by decide +kernel
theorem dX7_pair_47 : decode cX7_pair 47 = .ok (.iaload, 1) := by decide +kernel
theorem dX7_pair_48 : decode cX7_pair 48 = .ok (.ireturn, 1) := by decide +kernel
theorem dX7_pair_49 : decode cX7_pair 49 = .ok (.iload_n 2, 1) := by decide +kernel
theorem dX7_pair_50 : decode cX7_pair 50 = .ok (.ifCond .ne 15, 3) := by decide +kernel
theorem dX7_pair_53 : decode cX7_pair 53 = .ok (.aload_n 0, 1) := by decide +kernel
theorem dX7_pair_54 : decode cX7_pair 54 = .ok (.getfield 58, 3) := by decide +kernel
theorem dX7_pair_57 : decode cX7_pair 57 = .ok (.getfield 226, 3) := by decide +kernel
theorem dX7_pair_60 : decode cX7_pair 60 = .ok (.iload_n 1, 1) := by decide +kernel
theorem dX7_pair_61 : decode cX7_pair 61 = .ok (.iaload, 1) := by decide +kernel
theorem dX7_pair_62 : decode cX7_pair 62 = .ok (.goto 12, 3) := by decide +kernel
theorem dX7_pair_65 : decode cX7_pair 65 = .ok (.aload_n 0, 1) := by decide +kernel
theorem dX7_pair_66 : decode cX7_pair 66 = .ok (.getfield 58, 3) := by decide +kernel
theorem dX7_pair_69 : decode cX7_pair 69 = .ok (.getfield 229, 3) := by decide +kernel
theorem dX7_pair_72 : decode cX7_pair 72 = .ok (.iload_n 1, 1) := by decide +kernel
theorem dX7_pair_73 : decode cX7_pair 73 = .ok (.iaload, 1) := by decide +kernel
theorem dX7_pair_74 : decode cX7_pair 74 = .ok (.ireturn, 1) := by decide +kernel
theorem dX7_top_0 : decode cX7_top 0 = .ok (.iload_n 1, 1) := by decide +kernel
theorem dX7_top_1 : decode cX7_top 1 = .ok (.iconst 1, 1) := by decide +kernel
theorem dX7_top_2 : decode cX7_top 2 = .ok (.if_icmp .lt 9, 3) := by decide +kernel
theorem dX7_top_5 : decode cX7_top 5 = .ok (.iload_n 1, 1) := by decide +kernel
theorem dX7_top_6 : decode cX7_top 6 = .ok (.bipush 100, 2) := by decide +kernel
theorem dX7_top_8 : decode cX7_top 8 = .ok (.if_icmp .le 5, 3) := by decide +kernel
theorem dX7_top_11 : decode cX7_top 11 = .ok (.iconst (-1), 1) := by decide +kernel
theorem dX7_top_12 : decode cX7_top 12 = .ok (.ireturn, 1) := by decide +kernel
theorem dX7_top_13 : decode cX7_top 13 = .ok (.aload_n 0, 1) := by decide +kernel
theorem dX7_top_14 : decode cX7_top 14 = .ok (.getfield 58, 3) := by decide +kernel
theorem dX7_top_17 : decode cX7_top 17 = .ok (.invokevirtual 232, 3) := by decide +kernel
theorem dX7_top_20 : decode cX7_top 20 = .ok (.iconst 0, 1) := by decide +kernel
theorem dX7_top_21 : decode cX7_top 21 = .ok (.istore_n 2, 1) := by decide +kernel
theorem dX7_top_22 : decode cX7_top 22 = .ok (.iload_n 2, 1) := by decide +kernel
theorem dX7_top_23 : decode cX7_top 23 = .ok (.aload_n 0, 1) := by decide +kernel
theorem dX7_top_24 : decode cX7_top 24 = .ok (.getfield 69, 3) := by decide +kernel
theorem dX7_top_27 : decode cX7_top 27 = .ok (.if_icmp .ge 52, 3) := by decide +kernel
theorem dX7_top_30 : decode cX7_top 30 = .ok (.iload_n 2, 1) := by decide +kernel
theorem dX7_top_31 : decode cX7_top 31 = .ok (.iconst 1, 1) := by decide +kernel
theorem dX7_top_32 : decode cX7_top 32 = .ok (.iadd, 1) := by decide +kernel
theorem dX7_top_33 : decode cX7_top 33 = .ok (.istore_n 3, 1) := by decide +kernel
theorem dX7_top_34 : decode cX7_top 34 = .ok (.iload_n 3, 1) := by decide +kernel
theorem dX7_top_35 : decode cX7_top 35 = .ok (.aload_n 0, 1) := by decide +kernel
theorem dX7_top_36 : decode cX7_top 36 = .ok (.getfield 69, 3) := by decide +kernel
theorem dX7_top_39 : decode cX7_top 39 = .ok (.if_icmp .ge 34, 3) := by decide +kernel
theorem dX7_top_42 : decode cX7_top 42 = .ok (.aload_n 0, 1) := by decide +kernel
theorem dX7_top_43 : decode cX7_top 43 = .ok (.getfield 11, 3) := by decide +kernel
theorem dX7_top_46 : decode cX7_top 46 = .ok (.iload_n 2, 1) := by decide +kernel
theorem dX7_top_47 : decode cX7_top 47 = .ok (.aaload, 1) := by decide +kernel
theorem dX7_top_48 : decode cX7_top 48 = .ok (.ifnull 19, 3) := by decide +kernel
theorem dX7_top_51 : decode cX7_top 51 = .ok (.aload_n 0, 1) := by decide +kernel
theorem dX7_top_52 : decode cX7_top 52 = .ok (.getfield 11, 3) := by decide +kernel
theorem dX7_top_55 : decode cX7_top 55 = .ok (.iload_n 3, 1) := by decide +kernel
theorem dX7_top_56 : decode cX7_top 56 = .ok (.aaload, 1) := by decide +kernel
theorem dX7_top_57 : decode cX7_top 57 = .ok (.ifnull 10, 3) := by decide +kernel
theorem dX7_top_60 : decode cX7_top 60 = .ok (.aload_n 0, 1) := by decide +kernel
theorem dX7_top_61 : decode cX7_top 61 = .ok (.iload_n 2, 1) := by decide +kernel
theorem dX7_top_62 : decode cX7_top 62 = .ok (.iload_n 3, 1) := by decide +kernel
theorem dX7_top_63 : decode cX7_top 63 = .ok (.iload_n 1, 1) := by decide +kernel
theorem dX7_top_64 : decode cX7_top 64 = .ok (.invokevirtual 233, 3) := by decide +kernel
theorem dX7_top_67 : decode cX7_top 67 = .ok (.iinc 3 1, 3) := by decide +kernel
theorem dX7_top_70 : decode cX7_top 70 = .ok (.goto (-36), 3) := by decide +kernel
theorem dX7_top_73 : decode cX7_top 73 = .ok (.iinc 2 1, 3) := by decide +kernel
theorem dX7_top_76 : decode cX7_top 76 = .ok (.goto (-54), 3) := by decide +kernel
theorem dX7_top_79 : decode cX7_top 79 = .ok (.aload_n 0, 1) := by decide +kernel
theorem dX7_top_80 : decode cX7_top 80 = .ok (.getfield 58, 3) := by decide +kernel
theorem dX7_top_83 : decode cX7_top 83 = .ok (.getfield 216, 3) := by decide +kernel
theorem dX7_top_86 : decode cX7_top 86 = .ok (.ireturn, 1) := by decide +kernel
theorem dX7_core_0 : decode cX7_core 0 = .ok (.aload_n 0, 1) := by decide +kernel
theorem dX7_core_1 : decode cX7_core 1 = .ok (.iload_n 1, 1) := by decide +kernel
theorem dX7_core_2 : decode cX7_core 2 = .ok (.invokevirtual 74, 3) := by decide +kernel
theorem dX7_core_5 : decode cX7_core 5 = .ok (.ifnonnull 5, 3) := by decide +kernel
theorem dX7_core_8 : decode cX7_core 8 = .ok (.iconst (-1), 1) := by decide +kernel
theorem dX7_core_9 : decode cX7_core 9 = .ok (.ireturn, 1) := by decide +kernel
theorem dX7_core_10 : decode cX7_core 10 = .ok (.aload_n 0, 1) := by decide +kernel
theorem dX7_core_11 : decode cX7_core 11 = .ok (.invokevirtual 161, 3) := by decide +kernel
theorem dX7_core_14 : decode cX7_core 14 = .ok (.iload_n 1, 1) := by decide +kernel
theorem dX7_core_15 : decode cX7_core 15 = .ok (.invokevirtual 165, 3) := by decide +kernel
theorem dX7_core_18 : decode cX7_core 18 = .ok (.lstore_n 2, 1) := by decide +kernel
theorem dX7_core_19 : decode cX7_core 19 = .ok (.lload_n 2, 1) := by decide +kernel
theorem dX7_core_20 : decode cX7_core 20 = .ok (.invokestatic 173, 3) := by decide +kernel
theorem dX7_core_23 : decode cX7_core 23 = .ok (.bipush 20, 2) := by decide +kernel
theorem dX7_core_25 : decode cX7_core 25 = .ok (.if_icmp .le 6, 3) := by decide +kernel
theorem dX7_core_28 : decode cX7_core 28 = .ok (.bipush (-2), 2) := by decide +kernel
theorem dX7_core_30 : decode cX7_core 30 = .ok (.ireturn, 1) := by decide +kernel
theorem dX7_core_31 : decode cX7_core 31 = .ok (.aload_n 0, 1) := by decide +kernel
theorem dX7_core_32 : decode cX7_core 32 = .ok (.aload_n 0, 1) := by decide +kernel
theorem dX7_core_33 : decode cX7_core 33 = .ok (.getfield 65, 3) := by decide +kernel
theorem dX7_core_36 : decode cX7_core 36 = .ok (.lload_n 2, 1) := by decide +kernel
theorem dX7_core_37 : decode cX7_core 37 = .ok (.invokevirtual 237, 3) := by decide +kernel
theorem dX7_core_40 : decode cX7_core 40 = .ok (.putfield 240, 3) := by decide +kernel
theorem dX7_core_43 : decode cX7_core 43 = .ok (.aload_n 0, 1) := by decide +kernel
theorem dX7_core_44 : decode cX7_core 44 = .ok (.getfield 240, 3) := by decide +kernel
theorem dX7_core_47 : decode cX7_core 47 = .ok (.invokestatic 173, 3) := by decide +kernel
theorem dX7_core_50 : decode cX7_core 50 = .ok (.ireturn, 1) := by decide +kernel
theorem dX7_member_0 : decode cX7_member 0 = .ok (.iload_n 1, 1) := by decide +kernel
theorem dX7_member_1 : decode cX7_member 1 = .ok (.ifCond .lt 14, 3) := by decide +kernel
theorem dX7_member_4 : decode cX7_member 4 = .ok (.iload_n 1, 1) := by decide +kernel
theorem dX7_member_5 : decode cX7_member 5 = .ok (.aload_n 0, 1) := by decide +kernel
theorem dX7_member_6 : decode cX7_member 6 = .ok (.getfield 240, 3) := by decide +kernel
theorem dX7_member_9 : decode cX7_member 9 = .ok (.invokestatic 173, 3) := by decide +kernel
theorem dX7_member_12 : decode cX7_member 12 = .ok (.if_icmp .lt 5, 3) := by decide +kernel
theorem dX7_member_15 : decode cX7_member 15 = .ok (.iconst (-1), 1) := by decide +kernel
theorem dX7_member_16 : decode cX7_member 16 = .ok (.ireturn, 1) := by decide +kernel
theorem dX7_member_17 : decode cX7_member 17 = .ok (.aload_n 0, 1) := by decide +kernel
theorem dX7_member_18 : decode cX7_member 18 = .ok (.getfield 240, 3) := by decide +kernel
theorem dX7_member_21 : decode cX7_member 21 = .ok (.lstore_n 2, 1) := by decide +kernel
theorem dX7_member_22 : decode cX7_member 22 = .ok (.iconst 0, 1) := by decide +kernel
theorem dX7_member_23 : decode cX7_member 23 = .ok (.istore 4, 2) := by decide +kernel
theorem dX7_member_25 : decode cX7_member 25 = .ok (.iload 4, 2) := by decide +kernel
theorem dX7_member_27 : decode cX7_member 27 = .ok (.iload_n 1, 1) := by decide +kernel
theorem dX7_member_28 : decode cX7_member 28 = .ok (.if_icmp .ge 15, 3) := by decide +kernel
theorem dX7_member_31 : decode cX7_member 31 = .ok (.lload_n 2, 1) := by decide +kernel
theorem dX7_member_32 : decode cX7_member 32 = .ok (.lload_n 2, 1) := by decide +kernel
theorem dX7_member_33 : decode cX7_member 33 = .ok (.lconst 1, 1) := by decide +kernel
theorem dX7_member_34 : decode cX7_member 34 = .ok (.lsub, 1) := by decide +kernel
theorem dX7_member_35 : decode cX7_member 35 = .ok (.land, 1) := by decide +kernel
theorem dX7_member_36 : decode cX7_member 36 = .ok (.lstore_n 2, 1) := by decide +kernel
theorem dX7_member_37 : decode cX7_member 37 = .ok (.iinc 4 1, 3) := by decide +kernel
theorem dX7_member_40 : decode cX7_member 40 = .ok (.goto (-15), 3) := by decide +kernel
theorem dX7_member_43 : decode cX7_member 43 = .ok (.lload_n 2, 1) := by decide +kernel
theorem dX7_member_44 : decode cX7_member 44 = .ok (.invokestatic 169, 3) := by decide +kernel
theorem dX7_member_47 : decode cX7_member 47 = .ok (.ireturn, 1) := by decide +kernel
theorem dX7_chain_0 : decode cX7_chain 0 = .ok (.aload_n 0, 1) := by decide +kernel
theorem dX7_chain_1 : decode cX7_chain 1 = .ok (.iload_n 1, 1) := by decide +kernel
theorem dX7_chain_2 : decode cX7_chain 2 = .ok (.invokevirtual 74, 3) := by decide +kernel
theorem dX7_chain_5 : decode cX7_chain 5 = .ok (.ifnull 11, 3) := by decide +kernel
theorem dX7_chain_8 : decode cX7_chain 8 = .ok (.aload_n 0, 1) := by decide +kernel
theorem dX7_chain_9 : decode cX7_chain 9 = .ok (.iload_n 2, 1) := by decide +kernel
theorem dX7_chain_10 : decode cX7_chain 10 = .ok (.invokevirtual 74, 3) := by decide +kernel
theorem dX7_chain_13 : decode cX7_chain 13 = .ok (.ifnonnull 5, 3) := by decide +kernel
theorem dX7_chain_16 : decode cX7_chain 16 = .ok (.iconst (-1), 1) := by decide +kernel
theorem dX7_chain_17 : decode cX7_chain 17 = .ok (.ireturn, 1) := by decide +kernel
theorem dX7_chain_18 : decode cX7_chain 18 = .ok (.aload_n 0, 1) := by decide +kernel
theorem dX7_chain_19 : decode cX7_chain 19 = .ok (.invokevirtual 161, 3) := by decide +kernel
theorem dX7_chain_22 : decode cX7_chain 22 = .ok (.iload_n 1, 1) := by decide +kernel
theorem dX7_chain_23 : decode cX7_chain 23 = .ok (.iload_n 2, 1) := by decide +kernel
theorem dX7_chain_24 : decode cX7_chain 24 = .ok (.invokevirtual 244, 3) := by decide +kernel
theorem dX7_chain_27 : decode cX7_chain 27 = .ok (.ireturn, 1) := by decide +kernel
theorem dX7_next_0 : decode cX7_next 0 = .ok (.aload_n 0, 1) := by decide +kernel
theorem dX7_next_1 : decode cX7_next 1 = .ok (.iload_n 1, 1) := by decide +kernel
theorem dX7_next_2 : decode cX7_next 2 = .ok (.iload_n 2, 1) := by decide +kernel
theorem dX7_next_3 : decode cX7_next 3 = .ok (.invokevirtual 247, 3) := by decide +kernel
theorem dX7_next_6 : decode cX7_next 6 = .ok (.istore_n 3, 1) := by decide +kernel
theorem dX7_next_7 : decode cX7_next 7 = .ok (.iload_n 3, 1) := by decide +kernel
theorem dX7_next_8 : decode cX7_next 8 = .ok (.iconst 1, 1) := by decide +kernel
theorem dX7_next_9 : decode cX7_next 9 = .ok (.if_icmp .ge 7, 3) := by decide +kernel
theorem dX7_next_12 : decode cX7_next 12 = .ok (.iconst (-1), 1) := by decide +kernel
theorem dX7_next_13 : decode cX7_next 13 = .ok (.goto 13, 3) := by decide +kernel
theorem dX7_next_16 : decode cX7_next 16 = .ok (.aload_n 0, 1) := by decide +kernel
theorem dX7_next_17 : decode cX7_next 17 = .ok (.getfield 65, 3) := by decide +kernel
theorem dX7_next_20 : decode cX7_next 20 = .ok (.iload_n 1, 1) := by decide +kernel
theorem dX7_next_21 : decode cX7_next 21 = .ok (.iload_n 2, 1) := by decide +kernel
theorem dX7_next_22 : decode cX7_next 22 = .ok (.iload_n 3, 1) := by decide +kernel
theorem dX7_next_23 : decode cX7_next 23 = .ok (.invokevirtual 250, 3) := by decide +kernel
theorem dX7_next_26 : decode cX7_next 26 = .ok (.ireturn, 1) := by decide +kernel
theorem dX7_count_0 : decode cX7_count 0 = .ok (.iload_n 1, 1) := by decide +kernel
theorem dX7_count_1 : decode cX7_count 1 = .ok (.tableswitch 166 0 13 #[71, 76, 81, 88, 95, 102, 109, 116, 121, 126, 134, 142, 150, 158], 71) := by decide +kernel
theorem dX7_count_72 : decode cX7_count 72 = .ok (.aload_n 0, 1) := by decide +kernel
theorem dX7_count_73 : decode cX7_count 73 = .ok (.invokevirtual 254, 3) := by decide +kernel
theorem dX7_count_76 : decode cX7_count 76 = .ok (.ireturn, 1) := by decide +kernel
theorem dX7_count_77 : decode cX7_count 77 = .ok (.aload_n 0, 1) := by decide +kernel
theorem dX7_count_78 : decode cX7_count 78 = .ok (.invokevirtual 258, 3) := by decide +kernel
theorem dX7_count_81 : decode cX7_count 81 = .ok (.ireturn, 1) := by decide +kernel
theorem dX7_count_82 : decode cX7_count 82 = .ok (.aload_n 0, 1) := by decide +kernel
theorem dX7_count_83 : decode cX7_count 83 = .ok (.getfield 52, 3) := by decide +kernel
theorem dX7_count_86 : decode cX7_count 86 = .ok (.iconst 0, 1) := by decide +kernel
theorem dX7_count_87 : decode cX7_count 87 = .ok (.iaload, 1) := by decide +kernel
theorem dX7_count_88 : decode cX7_count 88 = .ok (.ireturn, 1) := by decide +kernel
theorem dX7_count_89 : decode cX7_count 89 = .ok (.aload_n 0, 1) := by decide +kernel
theorem dX7_count_90 : decode cX7_count 90 = .ok (.getfield 52, 3) := by decide +kernel
theorem dX7_count_93 : decode cX7_count 93 = .ok (.iconst 4, 1) := by decide +kernel
theorem dX7_count_94 : decode cX7_count 94 = .ok (.iaload, 1) := by decide +kernel
theorem dX7_count_95 : decode cX7_count 95 = .ok (.ireturn, 1) := by decide +kernel
theorem dX7_count_96 : decode cX7_count 96 = .ok (.aload_n 0, 1) := by decide +kernel
theorem dX7_count_97 : decode cX7_count 97 = .ok (.getfield 52, 3) := by decide +kernel
theorem dX7_count_100 : decode cX7_count 100 = .ok (.iconst 2, 1) := by decide +kernel
theorem dX7_count_101 : decode cX7_count 101 = .ok (.iaload, 1) := by decide +kernel
theorem dX7_count_102 : decode cX7_count 102 = .ok (.ireturn, 1) := by decide +kernel
theorem dX7_count_103 : decode cX7_count 103 = .ok (.aload_n 0, 1) := by decide +kernel
theorem dX7_count_104 : decode cX7_count 104 = .ok (.getfield 52, 3) := by decide +kernel
theorem dX7_count_107 : decode cX7_count 107 = .ok (.iconst 3, 1) := by decide +kernel
theorem dX7_count_108 : decode cX7_count 108 = .ok (.iaload, 1) := by decide +kernel
theorem dX7_count_109 : decode cX7_count 109 = .ok (.ireturn, 1) := by decide +kernel
theorem dX7_count_110 : decode cX7_count 110 = .ok (.aload_n 0, 1) := by decide +kernel
theorem dX7_count_111 : decode cX7_count 111 = .ok (.getfield 52, 3) := by decide +kernel
theorem dX7_count_114 : decode cX7_count 114 = .ok (.iconst 1, 1) := by decide +kernel
theorem dX7_count_115 : decode cX7_count 115 = .ok (.iaload, 1) := by decide +kernel
theorem dX7_count_116 : decode cX7_count 116 = .ok (.ireturn, 1) := by decide +kernel
theorem dX7_count_117 : decode cX7_count 117 = .ok (.aload_n 0, 1) := by decide +kernel
theorem dX7_count_118 : decode cX7_count 118 = .ok (.getfield 261, 3) := by decide +kernel
theorem dX7_count_121 : decode cX7_count 121 = .ok (.ireturn, 1) := by decide +kernel
theorem dX7_count_122 : decode cX7_count 122 = .ok (.aload_n 0, 1) := by decide +kernel
theorem dX7_count_123 : decode cX7_count 123 = .ok (.invokevirtual 264, 3) := by decide +kernel
theorem dX7_count_126 : decode cX7_count 126 = .ok (.ireturn, 1) := by decide +kernel
theorem dX7_count_127 : decode cX7_count 127 = .ok (.aload_n 0, 1) := by decide +kernel
theorem dX7_count_128 : decode cX7_count 128 = .ok (.getfield 30, 3) := by decide +kernel
theorem dX7_count_131 : decode cX7_count 131 = .ok (.getfield 267, 3) := by decide +kernel
theorem dX7_count_134 : decode cX7_count 134 = .ok (.ireturn, 1) := by decide +kernel
theorem dX7_count_135 : decode cX7_count 135 = .ok (.aload_n 0, 1) := by decide +kernel
theorem dX7_count_136 : decode cX7_count 136 = .ok (.getfield 30, 3) := by decide +kernel
theorem dX7_count_139 : decode cX7_count 139 = .ok (.getfield 270, 3) := by decide +kernel
theorem dX7_count_142 : decode cX7_count 142 = .ok (.ireturn, 1) := by decide +kernel
theorem dX7_count_143 : decode cX7_count 143 = .ok (.aload_n 0, 1) := by decide +kernel
theorem dX7_count_144 : decode cX7_count 144 = .ok (.getfield 30, 3) := by decide +kernel
theorem dX7_count_147 : decode cX7_count 147 = .ok (.getfield 273, 3) := by decide +kernel
theorem dX7_count_150 : decode cX7_count 150 = .ok (.ireturn, 1) := by decide +kernel
theorem dX7_count_151 : decode cX7_count 151 = .ok (.aload_n 0, 1) := by decide +kernel
theorem dX7_count_152 : decode cX7_count 152 = .ok (.getfield 37, 3) := by decide +kernel
theorem dX7_count_155 : decode cX7_count 155 = .ok (.getfield 112, 3) := by decide +kernel
theorem dX7_count_158 : decode cX7_count 158 = .ok (.ireturn, 1) := by decide +kernel
theorem dX7_count_159 : decode cX7_count 159 = .ok (.aload_n 0, 1) := by decide +kernel
theorem dX7_count_160 : decode cX7_count 160 = .ok (.getfield 58, 3) := by decide +kernel
theorem dX7_count_163 : decode cX7_count 163 = .ok (.getfield 216, 3) := by decide +kernel
theorem dX7_count_166 : decode cX7_count 166 = .ok (.ireturn, 1) := by decide +kernel
theorem dX7_count_167 : decode cX7_count 167 = .ok (.iconst (-1), 1) := by decide +kernel
theorem dX7_count_168 : decode cX7_count 168 = .ok (.ireturn, 1) := by decide +kernel
theorem dX7_isNumber_0 : decode cX7_isNumber 0 = .ok (.iload_n 0, 1) := by decide +kernel
theorem dX7_isNumber_1 : decode cX7_isNumber 1 = .ok (.ifCond .lt 14, 3) := by decide +kernel
theorem dX7_isNumber_4 : decode cX7_isNumber 4 = .ok (.iload_n 0, 1) := by decide +kernel
theorem dX7_isNumber_5 : decode cX7_isNumber 5 = .ok (.ldc_w 276, 3) := by decide +kernel
theorem dX7_isNumber_8 : decode cX7_isNumber 8 = .ok (.if_icmp .ge 7, 3) := by decide +kernel
theorem dX7_isNumber_11 : decode cX7_isNumber 11 = .ok (.iconst 1, 1) := by decide +kernel
theorem dX7_isNumber_12 : decode cX7_isNumber 12 = .ok (.goto 4, 3) := by decide +kernel
theorem dX7_isNumber_15 : decode cX7_isNumber 15 = .ok (.iconst 0, 1) := by decide +kernel
theorem dX7_isNumber_16 : decode cX7_isNumber 16 = .ok (.ireturn, 1) := by decide +kernel
theorem dX7_setOf_0 : decode cX7_setOf 0 = .ok (.iload_n 1, 1) := by decide +kernel
theorem dX7_setOf_1 : decode cX7_setOf 1 = .ok (.ifCond .lt 11, 3) := by decide +kernel
theorem dX7_setOf_4 : decode cX7_setOf 4 = .ok (.iload_n 1, 1) := by decide +kernel
theorem dX7_setOf_5 : decode cX7_setOf 5 = .ok (.aload_n 0, 1) := by decide +kernel
theorem dX7_setOf_6 : decode cX7_setOf 6 = .ok (.getfield 69, 3) := by decide +kernel
theorem dX7_setOf_9 : decode cX7_setOf 9 = .ok (.if_icmp .lt 7, 3) := by decide +kernel
theorem dX7_setOf_12 : decode cX7_setOf 12 = .ok (.aconst_null, 1) := by decide +kernel
theorem dX7_setOf_13 : decode cX7_setOf 13 = .ok (.goto 9, 3) := by decide +kernel
theorem dX7_setOf_16 : decode cX7_setOf 16 = .ok (.aload_n 0, 1) := by decide +kernel
theorem dX7_setOf_17 : decode cX7_setOf 17 = .ok (.getfield 11, 3) := by decide +kernel
theorem dX7_setOf_20 : decode cX7_setOf 20 = .ok (.iload_n 1, 1) := by decide +kernel
theorem dX7_setOf_21 : decode cX7_setOf 21 = .ok (.aaload, 1) := by decide +kernel
theorem dX7_setOf_22 : decode cX7_setOf 22 = .ok (.areturn, 1) := by decide +kernel
theorem dX7_weightOf_0 : decode cX7_weightOf 0 = .ok (.aload_n 0, 1) := by decide +kernel
theorem dX7_weightOf_1 : decode cX7_weightOf 1 = .ok (.getfield 30, 3) := by decide +kernel
theorem dX7_weightOf_4 : decode cX7_weightOf 4 = .ok (.getfield 267, 3) := by decide +kernel
theorem dX7_weightOf_7 : decode cX7_weightOf 7 = .ok (.iconst 5, 1) := by decide +kernel
theorem dX7_weightOf_8 : decode cX7_weightOf 8 = .ok (.if_icmp .ne 15, 3) := by decide +kernel
theorem dX7_weightOf_11 : decode cX7_weightOf 11 = .ok (.aload_n 0, 1) := by decide +kernel
theorem dX7_weightOf_12 : decode cX7_weightOf 12 = .ok (.getfield 24, 3) := by decide +kernel
theorem dX7_weightOf_15 : decode cX7_weightOf 15 = .ok (.iload_n 1, 1) := by decide +kernel
theorem dX7_weightOf_16 : decode cX7_weightOf 16 = .ok (.iconst 1, 1) := by decide +kernel
theorem dX7_weightOf_17 : decode cX7_weightOf 17 = .ok (.invokevirtual 146, 3) := by decide +kernel
theorem dX7_weightOf_20 : decode cX7_weightOf 20 = .ok (.goto 4, 3) := by decide +kernel
theorem dX7_weightOf_23 : decode cX7_weightOf 23 = .ok (.iconst 1, 1) := by decide +kernel
theorem dX7_weightOf_24 : decode cX7_weightOf 24 = .ok (.ireturn, 1) := by decide +kernel
theorem dX7_weighAll_0 : decode cX7_weighAll 0 = .ok (.iconst 0, 1) := by decide +kernel
theorem dX7_weighAll_1 : decode cX7_weighAll 1 = .ok (.istore_n 1, 1) := by decide +kernel
theorem dX7_weighAll_2 : decode cX7_weighAll 2 = .ok (.iload_n 1, 1) := by decide +kernel
theorem dX7_weighAll_3 : decode cX7_weighAll 3 = .ok (.aload_n 0, 1) := by decide +kernel
theorem dX7_weighAll_4 : decode cX7_weighAll 4 = .ok (.getfield 69, 3) := by decide +kernel
theorem dX7_weighAll_7 : decode cX7_weighAll 7 = .ok (.if_icmp .ge 58, 3) := by decide +kernel
theorem dX7_weighAll_10 : decode cX7_weighAll 10 = .ok (.aload_n 0, 1) := by decide +kernel
theorem dX7_weighAll_11 : decode cX7_weighAll 11 = .ok (.getfield 11, 3) := by decide +kernel
theorem dX7_weighAll_14 : decode cX7_weighAll 14 = .ok (.iload_n 1, 1) := by decide +kernel
theorem dX7_weighAll_15 : decode cX7_weighAll 15 = .ok (.aaload, 1) := by decide +kernel
theorem dX7_weighAll_16 : decode cX7_weighAll 16 = .ok (.astore_n 2, 1) := by decide +kernel
theorem dX7_weighAll_17 : decode cX7_weighAll 17 = .ok (.iconst 0, 1) := by decide +kernel
theorem dX7_weighAll_18 : decode cX7_weighAll 18 = .ok (.istore_n 3, 1) := by decide +kernel
theorem dX7_weighAll_19 : decode cX7_weighAll 19 = .ok (.aload_n 2, 1) := by decide +kernel
theorem dX7_weighAll_20 : decode cX7_weighAll 20 = .ok (.ifnull 31, 3) := by decide +kernel
theorem dX7_weighAll_23 : decode cX7_weighAll 23 = .ok (.iload_n 3, 1) := by decide +kernel
theorem dX7_weighAll_24 : decode cX7_weighAll 24 = .ok (.aload_n 2, 1) := by decide +kernel
theorem dX7_weighAll_25 : decode cX7_weighAll 25 = .ok (.getfield 132, 3) := by decide +kernel
theorem dX7_weighAll_28 : decode cX7_weighAll 28 = .ok (.if_icmp .ge 23, 3) := by decide +kernel
theorem dX7_weighAll_31 : decode cX7_weighAll 31 = .ok (.aload_n 2, 1) := by decide +kernel
theorem dX7_weighAll_32 : decode cX7_weighAll 32 = .ok (.iload_n 3, 1) := by decide +kernel
theorem dX7_weighAll_33 : decode cX7_weighAll 33 = .ok (.aload_n 0, 1) := by decide +kernel
theorem dX7_weighAll_34 : decode cX7_weighAll 34 = .ok (.aload_n 2, 1) := by decide +kernel
theorem dX7_weighAll_35 : decode cX7_weighAll 35 = .ok (.iload_n 3, 1) := by decide +kernel
theorem dX7_weighAll_36 : decode cX7_weighAll 36 = .ok (.invokevirtual 135, 3) := by decide +kernel
theorem dX7_weighAll_39 : decode cX7_weighAll 39 = .ok (.invokevirtual 89, 3) := by decide +kernel
theorem dX7_weighAll_42 : decode cX7_weighAll 42 = .ok (.invokevirtual 277, 3) := by decide +kernel
theorem dX7_weighAll_45 : decode cX7_weighAll 45 = .ok (.iinc 3 1, 3) := by decide +kernel
theorem dX7_weighAll_48 : decode cX7_weighAll 48 = .ok (.goto (-29), 3) := by decide +kernel
theorem dX7_weighAll_51 : decode cX7_weighAll 51 = .ok (.aload_n 0, 1) := by decide +kernel
theorem dX7_weighAll_52 : decode cX7_weighAll 52 = .ok (.getfield 65, 3) := by decide +kernel
theorem dX7_weighAll_55 : decode cX7_weighAll 55 = .ok (.iload_n 1, 1) := by decide +kernel
theorem dX7_weighAll_56 : decode cX7_weighAll 56 = .ok (.invokevirtual 78, 3) := by decide +kernel
theorem dX7_weighAll_59 : decode cX7_weighAll 59 = .ok (.iinc 1 1, 3) := by decide +kernel
theorem dX7_weighAll_62 : decode cX7_weighAll 62 = .ok (.goto (-60), 3) := by decide +kernel
theorem dX7_weighAll_65 : decode cX7_weighAll 65 = .ok (.return_, 1) := by decide +kernel
theorem dX7_beginningOf_0 : decode cX7_beginningOf 0 = .ok (.aload_n 1, 1) := by decide +kernel
theorem dX7_beginningOf_1 : decode cX7_beginningOf 1 = .ok (.aload_n 0, 1) := by decide +kernel
theorem dX7_beginningOf_2 : decode cX7_beginningOf 2 = .ok (.getfield 30, 3) := by decide +kernel
theorem dX7_beginningOf_5 : decode cX7_beginningOf 5 = .ok (.aload_n 1, 1) := by decide +kernel
theorem dX7_beginningOf_6 : decode cX7_beginningOf 6 = .ok (.getfield 150, 3) := by decide +kernel
theorem dX7_beginningOf_9 : decode cX7_beginningOf 9 = .ok (.i2l, 1) := by decide +kernel
theorem dX7_beginningOf_10 : decode cX7_beginningOf 10 = .ok (.invokevirtual 153, 3) := by decide +kernel
theorem dX7_beginningOf_13 : decode cX7_beginningOf 13 = .ok (.invokevirtual 280, 3) := by decide +kernel
theorem dX7_beginningOf_16 : decode cX7_beginningOf 16 = .ok (.ireturn, 1) := by decide +kernel
theorem dX7_fateOf_0 : decode cX7_fateOf 0 = .ok (.aload_n 0, 1) := by decide +kernel
theorem dX7_fateOf_1 : decode cX7_fateOf 1 = .ok (.getfield 44, 3) := by decide +kernel
theorem dX7_fateOf_4 : decode cX7_fateOf 4 = .ok (.aload_n 1, 1) := by decide +kernel
theorem dX7_fateOf_5 : decode cX7_fateOf 5 = .ok (.iload_n 2, 1) := by decide +kernel
theorem dX7_fateOf_6 : decode cX7_fateOf 6 = .ok (.aload_n 3, 1) := by decide +kernel
theorem dX7_fateOf_7 : decode cX7_fateOf 7 = .ok (.iload 4, 2) := by decide +kernel
theorem dX7_fateOf_9 : decode cX7_fateOf 9 = .ok (.invokevirtual 180, 3) := by decide +kernel
theorem dX7_fateOf_12 : decode cX7_fateOf 12 = .ok (.aload_n 0, 1) := by decide +kernel
end
section
theorem dX7_fateOf_13 : decode cX7_fateOf 13 = .ok (.getfield 44, 3) := by decide +kernel
theorem dX7_fateOf_16 : decode cX7_fateOf 16 = .ok (.getfield 283, 3) := by decide +kernel
theorem dX7_fateOf_19 : decode cX7_fateOf 19 = .ok (.ifCond .ne 5, 3) := by decide +kernel
theorem dX7_fateOf_22 : decode cX7_fateOf 22 = .ok (.iconst 1, 1) := by decide +kernel
theorem dX7_fateOf_23 : decode cX7_fateOf 23 = .ok (.ireturn, 1) := by decide +kernel
theorem dX7_fateOf_24 : decode cX7_fateOf 24 = .ok (.aload_n 0, 1) := by decide +kernel
theorem dX7_fateOf_25 : decode cX7_fateOf 25 = .ok (.getfield 30, 3) := by decide +kernel
theorem dX7_fateOf_28 : decode cX7_fateOf 28 = .ok (.aload_n 1, 1) := by decide +kernel
theorem dX7_fateOf_29 : decode cX7_fateOf 29 = .ok (.getfield 150, 3) := by decide +kernel
theorem dX7_fateOf_32 : decode cX7_fateOf 32 = .ok (.i2l, 1) := by decide +kernel
theorem dX7_fateOf_33 : decode cX7_fateOf 33 = .ok (.aload_n 3, 1) := by decide +kernel
theorem dX7_fateOf_34 : decode cX7_fateOf 34 = .ok (.getfield 150, 3) := by decide +kernel
theorem dX7_fateOf_37 : decode cX7_fateOf 37 = .ok (.i2l, 1) := by decide +kernel
theorem dX7_fateOf_38 : decode cX7_fateOf 38 = .ok (.invokevirtual 194, 3) := by decide +kernel
theorem dX7_fateOf_41 : decode cX7_fateOf 41 = .ok (.lstore 5, 2) := by decide +kernel
theorem dX7_fateOf_43 : decode cX7_fateOf 43 = .ok (.lload 5, 2) := by decide +kernel
theorem dX7_fateOf_45 : decode cX7_fateOf 45 = .ok (.aload_n 1, 1) := by decide +kernel
theorem dX7_fateOf_46 : decode cX7_fateOf 46 = .ok (.getfield 150, 3) := by decide +kernel
theorem dX7_fateOf_49 : decode cX7_fateOf 49 = .ok (.aload_n 3, 1) := by decide +kernel
theorem dX7_fateOf_50 : decode cX7_fateOf 50 = .ok (.getfield 150, 3) := by decide +kernel
theorem dX7_fateOf_53 : decode cX7_fateOf 53 = .ok (.invokestatic 286, 3) := by decide +kernel
theorem dX7_fateOf_56 : decode cX7_fateOf 56 = .ok (.i2l, 1) := by decide +kernel
theorem dX7_fateOf_57 : decode cX7_fateOf 57 = .ok (.lcmp, 1) := by decide +kernel
theorem dX7_fateOf_58 : decode cX7_fateOf 58 = .ok (.ifCond .le 5, 3) := by decide +kernel
theorem dX7_fateOf_61 : decode cX7_fateOf 61 = .ok (.iconst 2, 1) := by decide +kernel
theorem dX7_fateOf_62 : decode cX7_fateOf 62 = .ok (.ireturn, 1) := by decide +kernel
theorem dX7_fateOf_63 : decode cX7_fateOf 63 = .ok (.aload_n 0, 1) := by decide +kernel
theorem dX7_fateOf_64 : decode cX7_fateOf 64 = .ok (.getfield 44, 3) := by decide +kernel
theorem dX7_fateOf_67 : decode cX7_fateOf 67 = .ok (.getfield 291, 3) := by decide +kernel
theorem dX7_fateOf_70 : decode cX7_fateOf 70 = .ok (.i2l, 1) := by decide +kernel
theorem dX7_fateOf_71 : decode cX7_fateOf 71 = .ok (.lload 5, 2) := by decide +kernel
theorem dX7_fateOf_73 : decode cX7_fateOf 73 = .ok (.lcmp, 1) := by decide +kernel
theorem dX7_fateOf_74 : decode cX7_fateOf 74 = .ok (.ifCond .ge 5, 3) := by decide +kernel
theorem dX7_fateOf_77 : decode cX7_fateOf 77 = .ok (.iconst 3, 1) := by decide +kernel
theorem dX7_fateOf_78 : decode cX7_fateOf 78 = .ok (.ireturn, 1) := by decide +kernel
theorem dX7_fateOf_79 : decode cX7_fateOf 79 = .ok (.aload_n 0, 1) := by decide +kernel
theorem dX7_fateOf_80 : decode cX7_fateOf 80 = .ok (.getfield 30, 3) := by decide +kernel
theorem dX7_fateOf_83 : decode cX7_fateOf 83 = .ok (.aload_n 0, 1) := by decide +kernel
theorem dX7_fateOf_84 : decode cX7_fateOf 84 = .ok (.getfield 44, 3) := by decide +kernel
theorem dX7_fateOf_87 : decode cX7_fateOf 87 = .ok (.getfield 184, 3) := by decide +kernel
theorem dX7_fateOf_90 : decode cX7_fateOf 90 = .ok (.i2l, 1) := by decide +kernel
theorem dX7_fateOf_91 : decode cX7_fateOf 91 = .ok (.aload_n 1, 1) := by decide +kernel
theorem dX7_fateOf_92 : decode cX7_fateOf 92 = .ok (.getfield 150, 3) := by decide +kernel
theorem dX7_fateOf_95 : decode cX7_fateOf 95 = .ok (.i2l, 1) := by decide +kernel
theorem dX7_fateOf_96 : decode cX7_fateOf 96 = .ok (.aload_n 3, 1) := by decide +kernel
theorem dX7_fateOf_97 : decode cX7_fateOf 97 = .ok (.getfield 150, 3) := by decide +kernel
theorem dX7_fateOf_100 : decode cX7_fateOf 100 = .ok (.i2l, 1) := by decide +kernel
theorem dX7_fateOf_101 : decode cX7_fateOf 101 = .ok (.invokevirtual 201, 3) := by decide +kernel
theorem dX7_fateOf_104 : decode cX7_fateOf 104 = .ok (.ifCond .eq 7, 3) := by decide +kernel
theorem dX7_fateOf_107 : decode cX7_fateOf 107 = .ok (.iconst 0, 1) := by decide +kernel
theorem dX7_fateOf_108 : decode cX7_fateOf 108 = .ok (.goto 4, 3) := by decide +kernel
theorem dX7_fateOf_111 : decode cX7_fateOf 111 = .ok (.iconst 4, 1) := by decide +kernel
theorem dX7_fateOf_112 : decode cX7_fateOf 112 = .ok (.ireturn, 1) := by decide +kernel
theorem dX7_startSieve_0 : decode cX7_startSieve 0 = .ok (.aload_n 0, 1) := by decide +kernel
theorem dX7_startSieve_1 : decode cX7_startSieve 1 = .ok (.getfield 58, 3) := by decide +kernel
theorem dX7_startSieve_4 : decode cX7_startSieve 4 = .ok (.invokevirtual 232, 3) := by decide +kernel
theorem dX7_startSieve_7 : decode cX7_startSieve 7 = .ok (.aload_n 0, 1) := by decide +kernel
theorem dX7_startSieve_8 : decode cX7_startSieve 8 = .ok (.iconst 0, 1) := by decide +kernel
theorem dX7_startSieve_9 : decode cX7_startSieve 9 = .ok (.putfield 261, 3) := by decide +kernel
theorem dX7_startSieve_12 : decode cX7_startSieve 12 = .ok (.iconst 0, 1) := by decide +kernel
theorem dX7_startSieve_13 : decode cX7_startSieve 13 = .ok (.istore_n 1, 1) := by decide +kernel
theorem dX7_startSieve_14 : decode cX7_startSieve 14 = .ok (.iload_n 1, 1) := by decide +kernel
theorem dX7_startSieve_15 : decode cX7_startSieve 15 = .ok (.iconst 5, 1) := by decide +kernel
theorem dX7_startSieve_16 : decode cX7_startSieve 16 = .ok (.if_icmp .ge 16, 3) := by decide +kernel
theorem dX7_startSieve_19 : decode cX7_startSieve 19 = .ok (.aload_n 0, 1) := by decide +kernel
theorem dX7_startSieve_20 : decode cX7_startSieve 20 = .ok (.getfield 52, 3) := by decide +kernel
theorem dX7_startSieve_23 : decode cX7_startSieve 23 = .ok (.iload_n 1, 1) := by decide +kernel
theorem dX7_startSieve_24 : decode cX7_startSieve 24 = .ok (.iconst 0, 1) := by decide +kernel
theorem dX7_startSieve_25 : decode cX7_startSieve 25 = .ok (.iastore, 1) := by decide +kernel
theorem dX7_startSieve_26 : decode cX7_startSieve 26 = .ok (.iinc 1 1, 3) := by decide +kernel
theorem dX7_startSieve_29 : decode cX7_startSieve 29 = .ok (.goto (-15), 3) := by decide +kernel
theorem dX7_startSieve_32 : decode cX7_startSieve 32 = .ok (.iconst 0, 1) := by decide +kernel
theorem dX7_startSieve_33 : decode cX7_startSieve 33 = .ok (.istore_n 1, 1) := by decide +kernel
theorem dX7_startSieve_34 : decode cX7_startSieve 34 = .ok (.iload_n 1, 1) := by decide +kernel
theorem dX7_startSieve_35 : decode cX7_startSieve 35 = .ok (.aload_n 0, 1) := by decide +kernel
theorem dX7_startSieve_36 : decode cX7_startSieve 36 = .ok (.getfield 69, 3) := by decide +kernel
theorem dX7_startSieve_39 : decode cX7_startSieve 39 = .ok (.if_icmp .ge 38, 3) := by decide +kernel
theorem dX7_startSieve_42 : decode cX7_startSieve 42 = .ok (.aload_n 0, 1) := by decide +kernel
theorem dX7_startSieve_43 : decode cX7_startSieve 43 = .ok (.getfield 48, 3) := by decide +kernel
theorem dX7_startSieve_46 : decode cX7_startSieve 46 = .ok (.iload_n 1, 1) := by decide +kernel
theorem dX7_startSieve_47 : decode cX7_startSieve 47 = .ok (.aload_n 0, 1) := by decide +kernel
theorem dX7_startSieve_48 : decode cX7_startSieve 48 = .ok (.getfield 11, 3) := by decide +kernel
theorem dX7_startSieve_51 : decode cX7_startSieve 51 = .ok (.iload_n 1, 1) := by decide +kernel
theorem dX7_startSieve_52 : decode cX7_startSieve 52 = .ok (.aaload, 1) := by decide +kernel
theorem dX7_startSieve_53 : decode cX7_startSieve 53 = .ok (.ifnonnull 7, 3) := by decide +kernel
theorem dX7_startSieve_56 : decode cX7_startSieve 56 = .ok (.iconst 0, 1) := by decide +kernel
theorem dX7_startSieve_57 : decode cX7_startSieve 57 = .ok (.goto 13, 3) := by decide +kernel
theorem dX7_startSieve_60 : decode cX7_startSieve 60 = .ok (.aload_n 0, 1) := by decide +kernel
theorem dX7_startSieve_61 : decode cX7_startSieve 61 = .ok (.aload_n 0, 1) := by decide +kernel
theorem dX7_startSieve_62 : decode cX7_startSieve 62 = .ok (.getfield 11, 3) := by decide +kernel
theorem dX7_startSieve_65 : decode cX7_startSieve 65 = .ok (.iload_n 1, 1) := by decide +kernel
theorem dX7_startSieve_66 : decode cX7_startSieve 66 = .ok (.aaload, 1) := by decide +kernel
theorem dX7_startSieve_67 : decode cX7_startSieve 67 = .ok (.invokevirtual 157, 3) := by decide +kernel
theorem dX7_startSieve_70 : decode cX7_startSieve 70 = .ok (.iastore, 1) := by decide +kernel
theorem dX7_startSieve_71 : decode cX7_startSieve 71 = .ok (.iinc 1 1, 3) := by decide +kernel
theorem dX7_startSieve_74 : decode cX7_startSieve 74 = .ok (.goto (-40), 3) := by decide +kernel
theorem dX7_startSieve_77 : decode cX7_startSieve 77 = .ok (.return_, 1) := by decide +kernel
theorem dX7_sift_0 : decode cX7_sift 0 = .ok (.aload_n 0, 1) := by decide +kernel
theorem dX7_sift_1 : decode cX7_sift 1 = .ok (.aload_n 0, 1) := by decide +kernel
theorem dX7_sift_2 : decode cX7_sift 2 = .ok (.getfield 11, 3) := by decide +kernel
theorem dX7_sift_5 : decode cX7_sift 5 = .ok (.iload_n 1, 1) := by decide +kernel
theorem dX7_sift_6 : decode cX7_sift 6 = .ok (.aaload, 1) := by decide +kernel
theorem dX7_sift_7 : decode cX7_sift 7 = .ok (.aload_n 0, 1) := by decide +kernel
theorem dX7_sift_8 : decode cX7_sift 8 = .ok (.getfield 48, 3) := by decide +kernel
theorem dX7_sift_11 : decode cX7_sift 11 = .ok (.iload_n 1, 1) := by decide +kernel
theorem dX7_sift_12 : decode cX7_sift 12 = .ok (.iaload, 1) := by decide +kernel
theorem dX7_sift_13 : decode cX7_sift 13 = .ok (.aload_n 0, 1) := by decide +kernel
theorem dX7_sift_14 : decode cX7_sift 14 = .ok (.getfield 11, 3) := by decide +kernel
theorem dX7_sift_17 : decode cX7_sift 17 = .ok (.iload_n 2, 1) := by decide +kernel
theorem dX7_sift_18 : decode cX7_sift 18 = .ok (.aaload, 1) := by decide +kernel
theorem dX7_sift_19 : decode cX7_sift 19 = .ok (.aload_n 0, 1) := by decide +kernel
theorem dX7_sift_20 : decode cX7_sift 20 = .ok (.getfield 48, 3) := by decide +kernel
theorem dX7_sift_23 : decode cX7_sift 23 = .ok (.iload_n 2, 1) := by decide +kernel
theorem dX7_sift_24 : decode cX7_sift 24 = .ok (.iaload, 1) := by decide +kernel
theorem dX7_sift_25 : decode cX7_sift 25 = .ok (.invokevirtual 205, 3) := by decide +kernel
theorem dX7_sift_28 : decode cX7_sift 28 = .ok (.istore_n 3, 1) := by decide +kernel
theorem dX7_sift_29 : decode cX7_sift 29 = .ok (.aload_n 0, 1) := by decide +kernel
theorem dX7_sift_30 : decode cX7_sift 30 = .ok (.getfield 52, 3) := by decide +kernel
theorem dX7_sift_33 : decode cX7_sift 33 = .ok (.iload_n 3, 1) := by decide +kernel
theorem dX7_sift_34 : decode cX7_sift 34 = .ok (.dup2, 1) := by decide +kernel
theorem dX7_sift_35 : decode cX7_sift 35 = .ok (.iaload, 1) := by decide +kernel
theorem dX7_sift_36 : decode cX7_sift 36 = .ok (.iconst 1, 1) := by decide +kernel
theorem dX7_sift_37 : decode cX7_sift 37 = .ok (.iadd, 1) := by decide +kernel
theorem dX7_sift_38 : decode cX7_sift 38 = .ok (.iastore, 1) := by decide +kernel
theorem dX7_sift_39 : decode cX7_sift 39 = .ok (.aload_n 0, 1) := by decide +kernel
theorem dX7_sift_40 : decode cX7_sift 40 = .ok (.dup, 1) := by decide +kernel
theorem dX7_sift_41 : decode cX7_sift 41 = .ok (.getfield 261, 3) := by decide +kernel
theorem dX7_sift_44 : decode cX7_sift 44 = .ok (.aload_n 0, 1) := by decide +kernel
theorem dX7_sift_45 : decode cX7_sift 45 = .ok (.getfield 44, 3) := by decide +kernel
theorem dX7_sift_48 : decode cX7_sift 48 = .ok (.getfield 283, 3) := by decide +kernel
theorem dX7_sift_51 : decode cX7_sift 51 = .ok (.iadd, 1) := by decide +kernel
theorem dX7_sift_52 : decode cX7_sift 52 = .ok (.putfield 261, 3) := by decide +kernel
theorem dX7_sift_55 : decode cX7_sift 55 = .ok (.iload_n 3, 1) := by decide +kernel
theorem dX7_sift_56 : decode cX7_sift 56 = .ok (.ifCond .ne 19, 3) := by decide +kernel
theorem dX7_sift_59 : decode cX7_sift 59 = .ok (.aload_n 0, 1) := by decide +kernel
theorem dX7_sift_60 : decode cX7_sift 60 = .ok (.getfield 58, 3) := by decide +kernel
theorem dX7_sift_63 : decode cX7_sift 63 = .ok (.iload_n 1, 1) := by decide +kernel
theorem dX7_sift_64 : decode cX7_sift 64 = .ok (.iload_n 2, 1) := by decide +kernel
theorem dX7_sift_65 : decode cX7_sift 65 = .ok (.aload_n 0, 1) := by decide +kernel
theorem dX7_sift_66 : decode cX7_sift 66 = .ok (.getfield 44, 3) := by decide +kernel
theorem dX7_sift_69 : decode cX7_sift 69 = .ok (.getfield 184, 3) := by decide +kernel
theorem dX7_sift_72 : decode cX7_sift 72 = .ok (.invokevirtual 294, 3) := by decide +kernel
theorem dX7_sift_75 : decode cX7_sift 75 = .ok (.return_, 1) := by decide +kernel
theorem dX7_rank_0 : decode cX7_rank 0 = .ok (.aload_n 0, 1) := by decide +kernel
theorem dX7_rank_1 : decode cX7_rank 1 = .ok (.getfield 11, 3) := by decide +kernel
theorem dX7_rank_4 : decode cX7_rank 4 = .ok (.iload_n 1, 1) := by decide +kernel
theorem dX7_rank_5 : decode cX7_rank 5 = .ok (.aaload, 1) := by decide +kernel
theorem dX7_rank_6 : decode cX7_rank 6 = .ok (.astore 4, 2) := by decide +kernel
theorem dX7_rank_8 : decode cX7_rank 8 = .ok (.aload_n 0, 1) := by decide +kernel
theorem dX7_rank_9 : decode cX7_rank 9 = .ok (.getfield 11, 3) := by decide +kernel
theorem dX7_rank_12 : decode cX7_rank 12 = .ok (.iload_n 2, 1) := by decide +kernel
theorem dX7_rank_13 : decode cX7_rank 13 = .ok (.aaload, 1) := by decide +kernel
theorem dX7_rank_14 : decode cX7_rank 14 = .ok (.astore 5, 2) := by decide +kernel
theorem dX7_rank_16 : decode cX7_rank 16 = .ok (.aload_n 0, 1) := by decide +kernel
theorem dX7_rank_17 : decode cX7_rank 17 = .ok (.getfield 44, 3) := by decide +kernel
theorem dX7_rank_20 : decode cX7_rank 20 = .ok (.aload 4, 2) := by decide +kernel
theorem dX7_rank_22 : decode cX7_rank 22 = .ok (.iconst 0, 1) := by decide +kernel
theorem dX7_rank_23 : decode cX7_rank 23 = .ok (.aload 5, 2) := by decide +kernel
theorem dX7_rank_25 : decode cX7_rank 25 = .ok (.iconst 0, 1) := by decide +kernel
theorem dX7_rank_26 : decode cX7_rank 26 = .ok (.invokevirtual 180, 3) := by decide +kernel
theorem dX7_rank_29 : decode cX7_rank 29 = .ok (.aload_n 0, 1) := by decide +kernel
theorem dX7_rank_30 : decode cX7_rank 30 = .ok (.getfield 44, 3) := by decide +kernel
theorem dX7_rank_33 : decode cX7_rank 33 = .ok (.getfield 184, 3) := by decide +kernel
theorem dX7_rank_36 : decode cX7_rank 36 = .ok (.istore 6, 2) := by decide +kernel
theorem dX7_rank_38 : decode cX7_rank 38 = .ok (.iload 6, 2) := by decide +kernel
theorem dX7_rank_40 : decode cX7_rank 40 = .ok (.ifCond .le 106, 3) := by decide +kernel
theorem dX7_rank_43 : decode cX7_rank 43 = .ok (.aload_n 0, 1) := by decide +kernel
theorem dX7_rank_44 : decode cX7_rank 44 = .ok (.getfield 30, 3) := by decide +kernel
theorem dX7_rank_47 : decode cX7_rank 47 = .ok (.iload 6, 2) := by decide +kernel
theorem dX7_rank_49 : decode cX7_rank 49 = .ok (.i2l, 1) := by decide +kernel
theorem dX7_rank_50 : decode cX7_rank 50 = .ok (.aload 4, 2) := by decide +kernel
theorem dX7_rank_52 : decode cX7_rank 52 = .ok (.getfield 150, 3) := by decide +kernel
theorem dX7_rank_55 : decode cX7_rank 55 = .ok (.i2l, 1) := by decide +kernel
theorem dX7_rank_56 : decode cX7_rank 56 = .ok (.aload 5, 2) := by decide +kernel
theorem dX7_rank_58 : decode cX7_rank 58 = .ok (.getfield 150, 3) := by decide +kernel
theorem dX7_rank_61 : decode cX7_rank 61 = .ok (.i2l, 1) := by decide +kernel
theorem dX7_rank_62 : decode cX7_rank 62 = .ok (.invokevirtual 187, 3) := by decide +kernel
theorem dX7_rank_65 : decode cX7_rank 65 = .ok (.lstore 7, 2) := by decide +kernel
theorem dX7_rank_67 : decode cX7_rank 67 = .ok (.aload_n 0, 1) := by decide +kernel
theorem dX7_rank_68 : decode cX7_rank 68 = .ok (.getfield 30, 3) := by decide +kernel
theorem dX7_rank_71 : decode cX7_rank 71 = .ok (.iload 6, 2) := by decide +kernel
theorem dX7_rank_73 : decode cX7_rank 73 = .ok (.i2l, 1) := by decide +kernel
theorem dX7_rank_74 : decode cX7_rank 74 = .ok (.aload 4, 2) := by decide +kernel
theorem dX7_rank_76 : decode cX7_rank 76 = .ok (.getfield 150, 3) := by decide +kernel
theorem dX7_rank_79 : decode cX7_rank 79 = .ok (.i2l, 1) := by decide +kernel
theorem dX7_rank_80 : decode cX7_rank 80 = .ok (.aload 5, 2) := by decide +kernel
theorem dX7_rank_82 : decode cX7_rank 82 = .ok (.getfield 150, 3) := by decide +kernel
theorem dX7_rank_85 : decode cX7_rank 85 = .ok (.i2l, 1) := by decide +kernel
theorem dX7_rank_86 : decode cX7_rank 86 = .ok (.invokevirtual 191, 3) := by decide +kernel
theorem dX7_rank_89 : decode cX7_rank 89 = .ok (.lstore 9, 2) := by decide +kernel
theorem dX7_rank_91 : decode cX7_rank 91 = .ok (.aload_n 0, 1) := by decide +kernel
theorem dX7_rank_92 : decode cX7_rank 92 = .ok (.getfield 58, 3) := by decide +kernel
theorem dX7_rank_95 : decode cX7_rank 95 = .ok (.lload 7, 2) := by decide +kernel
theorem dX7_rank_97 : decode cX7_rank 97 = .ok (.lload 9, 2) := by decide +kernel
theorem dX7_rank_99 : decode cX7_rank 99 = .ok (.invokevirtual 296, 3) := by decide +kernel
theorem dX7_rank_102 : decode cX7_rank 102 = .ok (.istore 11, 2) := by decide +kernel
theorem dX7_rank_104 : decode cX7_rank 104 = .ok (.iload 11, 2) := by decide +kernel
theorem dX7_rank_106 : decode cX7_rank 106 = .ok (.iload_n 3, 1) := by decide +kernel
theorem dX7_rank_107 : decode cX7_rank 107 = .ok (.if_icmp .ge 39, 3) := by decide +kernel
theorem dX7_rank_110 : decode cX7_rank 110 = .ok (.aload_n 0, 1) := by decide +kernel
theorem dX7_rank_111 : decode cX7_rank 111 = .ok (.getfield 58, 3) := by decide +kernel
theorem dX7_rank_114 : decode cX7_rank 114 = .ok (.iload 11, 2) := by decide +kernel
theorem dX7_rank_116 : decode cX7_rank 116 = .ok (.iload_n 3, 1) := by decide +kernel
theorem dX7_rank_117 : decode cX7_rank 117 = .ok (.invokevirtual 300, 3) := by decide +kernel
theorem dX7_rank_120 : decode cX7_rank 120 = .ok (.aload_n 0, 1) := by decide +kernel
theorem dX7_rank_121 : decode cX7_rank 121 = .ok (.getfield 58, 3) := by decide +kernel
theorem dX7_rank_124 : decode cX7_rank 124 = .ok (.iload 11, 2) := by decide +kernel
theorem dX7_rank_126 : decode cX7_rank 126 = .ok (.iload_n 1, 1) := by decide +kernel
theorem dX7_rank_127 : decode cX7_rank 127 = .ok (.iload_n 2, 1) := by decide +kernel
theorem dX7_rank_128 : decode cX7_rank 128 = .ok (.iload 6, 2) := by decide +kernel
theorem dX7_rank_130 : decode cX7_rank 130 = .ok (.invokevirtual 303, 3) := by decide +kernel
theorem dX7_rank_133 : decode cX7_rank 133 = .ok (.aload_n 0, 1) := by decide +kernel
theorem dX7_rank_134 : decode cX7_rank 134 = .ok (.getfield 58, 3) := by decide +kernel
theorem dX7_rank_137 : decode cX7_rank 137 = .ok (.iload 11, 2) := by decide +kernel
theorem dX7_rank_139 : decode cX7_rank 139 = .ok (.lload 7, 2) := by decide +kernel
theorem dX7_rank_141 : decode cX7_rank 141 = .ok (.lload 9, 2) := by decide +kernel
theorem dX7_rank_143 : decode cX7_rank 143 = .ok (.invokevirtual 307, 3) := by decide +kernel
theorem dX7_rank_146 : decode cX7_rank 146 = .ok (.return_, 1) := by decide +kernel
theorem dX7_freshNet_0 : decode cX7_freshNet 0 = .ok (.iconst 0, 1) := by decide +kernel
theorem dX7_freshNet_1 : decode cX7_freshNet 1 = .ok (.istore_n 1, 1) := by decide +kernel
theorem dX7_freshNet_2 : decode cX7_freshNet 2 = .ok (.iload_n 1, 1) := by decide +kernel
theorem dX7_freshNet_3 : decode cX7_freshNet 3 = .ok (.aload_n 0, 1) := by decide +kernel
theorem dX7_freshNet_4 : decode cX7_freshNet 4 = .ok (.getfield 69, 3) := by decide +kernel
theorem dX7_freshNet_7 : decode cX7_freshNet 7 = .ok (.if_icmp .ge 75, 3) := by decide +kernel
theorem dX7_freshNet_10 : decode cX7_freshNet 10 = .ok (.aload_n 0, 1) := by decide +kernel
theorem dX7_freshNet_11 : decode cX7_freshNet 11 = .ok (.getfield 65, 3) := by decide +kernel
theorem dX7_freshNet_14 : decode cX7_freshNet 14 = .ok (.iload_n 1, 1) := by decide +kernel
theorem dX7_freshNet_15 : decode cX7_freshNet 15 = .ok (.invokevirtual 311, 3) := by decide +kernel
theorem dX7_freshNet_18 : decode cX7_freshNet 18 = .ok (.ifCond .eq 58, 3) := by decide +kernel
theorem dX7_freshNet_21 : decode cX7_freshNet 21 = .ok (.iconst 0, 1) := by decide +kernel
theorem dX7_freshNet_22 : decode cX7_freshNet 22 = .ok (.istore_n 2, 1) := by decide +kernel
theorem dX7_freshNet_23 : decode cX7_freshNet 23 = .ok (.iload_n 2, 1) := by decide +kernel
theorem dX7_freshNet_24 : decode cX7_freshNet 24 = .ok (.aload_n 0, 1) := by decide +kernel
theorem dX7_freshNet_25 : decode cX7_freshNet 25 = .ok (.getfield 69, 3) := by decide +kernel
theorem dX7_freshNet_28 : decode cX7_freshNet 28 = .ok (.if_icmp .ge 40, 3) := by decide +kernel
theorem dX7_freshNet_31 : decode cX7_freshNet 31 = .ok (.iload_n 2, 1) := by decide +kernel
theorem dX7_freshNet_32 : decode cX7_freshNet 32 = .ok (.iload_n 1, 1) := by decide +kernel
theorem dX7_freshNet_33 : decode cX7_freshNet 33 = .ok (.if_icmp .lt 14, 3) := by decide +kernel
theorem dX7_freshNet_36 : decode cX7_freshNet 36 = .ok (.aload_n 0, 1) := by decide +kernel
theorem dX7_freshNet_37 : decode cX7_freshNet 37 = .ok (.getfield 65, 3) := by decide +kernel
theorem dX7_freshNet_40 : decode cX7_freshNet 40 = .ok (.iload_n 2, 1) := by decide +kernel
theorem dX7_freshNet_41 : decode cX7_freshNet 41 = .ok (.invokevirtual 311, 3) := by decide +kernel
theorem dX7_freshNet_44 : decode cX7_freshNet 44 = .ok (.ifCond .ne 18, 3) := by decide +kernel
theorem dX7_freshNet_47 : decode cX7_freshNet 47 = .ok (.aload_n 0, 1) := by decide +kernel
theorem dX7_freshNet_48 : decode cX7_freshNet 48 = .ok (.getfield 65, 3) := by decide +kernel
theorem dX7_freshNet_51 : decode cX7_freshNet 51 = .ok (.iload_n 1, 1) := by decide +kernel
theorem dX7_freshNet_52 : decode cX7_freshNet 52 = .ok (.iload_n 2, 1) := by decide +kernel
theorem dX7_freshNet_53 : decode cX7_freshNet 53 = .ok (.aload_n 0, 1) := by decide +kernel
theorem dX7_freshNet_54 : decode cX7_freshNet 54 = .ok (.iload_n 1, 1) := by decide +kernel
theorem dX7_freshNet_55 : decode cX7_freshNet 55 = .ok (.iload_n 2, 1) := by decide +kernel
theorem dX7_freshNet_56 : decode cX7_freshNet 56 = .ok (.invokevirtual 314, 3) := by decide +kernel
theorem dX7_freshNet_59 : decode cX7_freshNet 59 = .ok (.invokevirtual 317, 3) := by decide +kernel
theorem dX7_freshNet_62 : decode cX7_freshNet 62 = .ok (.iinc 2 1, 3) := by decide +kernel
theorem dX7_freshNet_65 : decode cX7_freshNet 65 = .ok (.goto (-42), 3) := by decide +kernel
theorem dX7_freshNet_68 : decode cX7_freshNet 68 = .ok (.aload_n 0, 1) := by decide +kernel
theorem dX7_freshNet_69 : decode cX7_freshNet 69 = .ok (.getfield 65, 3) := by decide +kernel
theorem dX7_freshNet_72 : decode cX7_freshNet 72 = .ok (.iload_n 1, 1) := by decide +kernel
theorem dX7_freshNet_73 : decode cX7_freshNet 73 = .ok (.invokevirtual 321, 3) := by decide +kernel
theorem dX7_freshNet_76 : decode cX7_freshNet 76 = .ok (.iinc 1 1, 3) := by decide +kernel
theorem dX7_freshNet_79 : decode cX7_freshNet 79 = .ok (.goto (-77), 3) := by decide +kernel
theorem dX7_freshNet_82 : decode cX7_freshNet 82 = .ok (.aload_n 0, 1) := by decide +kernel
theorem dX7_freshNet_83 : decode cX7_freshNet 83 = .ok (.getfield 65, 3) := by decide +kernel
theorem dX7_freshNet_86 : decode cX7_freshNet 86 = .ok (.areturn, 1) := by decide +kernel
theorem dX7_arePair_0 : decode cX7_arePair 0 = .ok (.aload_n 0, 1) := by decide +kernel
theorem dX7_arePair_1 : decode cX7_arePair 1 = .ok (.getfield 11, 3) := by decide +kernel
theorem dX7_arePair_4 : decode cX7_arePair 4 = .ok (.iload_n 1, 1) := by decide +kernel
theorem dX7_arePair_5 : decode cX7_arePair 5 = .ok (.aaload, 1) := by decide +kernel
theorem dX7_arePair_6 : decode cX7_arePair 6 = .ok (.astore_n 3, 1) := by decide +kernel
theorem dX7_arePair_7 : decode cX7_arePair 7 = .ok (.aload_n 0, 1) := by decide +kernel
theorem dX7_arePair_8 : decode cX7_arePair 8 = .ok (.getfield 11, 3) := by decide +kernel
theorem dX7_arePair_11 : decode cX7_arePair 11 = .ok (.iload_n 2, 1) := by decide +kernel
theorem dX7_arePair_12 : decode cX7_arePair 12 = .ok (.aaload, 1) := by decide +kernel
theorem dX7_arePair_13 : decode cX7_arePair 13 = .ok (.astore 4, 2) := by decide +kernel
theorem dX7_arePair_15 : decode cX7_arePair 15 = .ok (.aload_n 3, 1) := by decide +kernel
theorem dX7_arePair_16 : decode cX7_arePair 16 = .ok (.ifnull 8, 3) := by decide +kernel
theorem dX7_arePair_19 : decode cX7_arePair 19 = .ok (.aload 4, 2) := by decide +kernel
theorem dX7_arePair_21 : decode cX7_arePair 21 = .ok (.ifnonnull 5, 3) := by decide +kernel
theorem dX7_arePair_24 : decode cX7_arePair 24 = .ok (.iconst 0, 1) := by decide +kernel
theorem dX7_arePair_25 : decode cX7_arePair 25 = .ok (.ireturn, 1) := by decide +kernel
theorem dX7_arePair_26 : decode cX7_arePair 26 = .ok (.aload_n 0, 1) := by decide +kernel
theorem dX7_arePair_27 : decode cX7_arePair 27 = .ok (.getfield 44, 3) := by decide +kernel
theorem dX7_arePair_30 : decode cX7_arePair 30 = .ok (.aload_n 3, 1) := by decide +kernel
theorem dX7_arePair_31 : decode cX7_arePair 31 = .ok (.iconst 0, 1) := by decide +kernel
theorem dX7_arePair_32 : decode cX7_arePair 32 = .ok (.aload 4, 2) := by decide +kernel
theorem dX7_arePair_34 : decode cX7_arePair 34 = .ok (.iconst 0, 1) := by decide +kernel
theorem dX7_arePair_35 : decode cX7_arePair 35 = .ok (.invokevirtual 180, 3) := by decide +kernel
theorem dX7_arePair_38 : decode cX7_arePair 38 = .ok (.aload_n 0, 1) := by decide +kernel
theorem dX7_arePair_39 : decode cX7_arePair 39 = .ok (.getfield 30, 3) := by decide +kernel
theorem dX7_arePair_42 : decode cX7_arePair 42 = .ok (.aload_n 0, 1) := by decide +kernel
theorem dX7_arePair_43 : decode cX7_arePair 43 = .ok (.getfield 44, 3) := by decide +kernel
theorem dX7_arePair_46 : decode cX7_arePair 46 = .ok (.getfield 184, 3) := by decide +kernel
theorem dX7_arePair_49 : decode cX7_arePair 49 = .ok (.i2l, 1) := by decide +kernel
theorem dX7_arePair_50 : decode cX7_arePair 50 = .ok (.aload_n 3, 1) := by decide +kernel
theorem dX7_arePair_51 : decode cX7_arePair 51 = .ok (.getfield 150, 3) := by decide +kernel
theorem dX7_arePair_54 : decode cX7_arePair 54 = .ok (.i2l, 1) := by decide +kernel
theorem dX7_arePair_55 : decode cX7_arePair 55 = .ok (.aload 4, 2) := by decide +kernel
theorem dX7_arePair_57 : decode cX7_arePair 57 = .ok (.getfield 150, 3) := by decide +kernel
theorem dX7_arePair_60 : decode cX7_arePair 60 = .ok (.i2l, 1) := by decide +kernel
theorem dX7_arePair_61 : decode cX7_arePair 61 = .ok (.invokevirtual 201, 3) := by decide +kernel
theorem dX7_arePair_64 : decode cX7_arePair 64 = .ok (.ireturn, 1) := by decide +kernel
theorem dX7_countRecords_0 : decode cX7_countRecords 0 = .ok (.iconst 0, 1) := by decide +kernel
theorem dX7_countRecords_1 : decode cX7_countRecords 1 = .ok (.istore_n 1, 1) := by decide +kernel
theorem dX7_countRecords_2 : decode cX7_countRecords 2 = .ok (.iconst 0, 1) := by decide +kernel
theorem dX7_countRecords_3 : decode cX7_countRecords 3 = .ok (.istore_n 2, 1) := by decide +kernel
theorem dX7_countRecords_4 : decode cX7_countRecords 4 = .ok (.iload_n 2, 1) := by decide +kernel
theorem dX7_countRecords_5 : decode cX7_countRecords 5 = .ok (.aload_n 0, 1) := by decide +kernel
theorem dX7_countRecords_6 : decode cX7_countRecords 6 = .ok (.getfield 69, 3) := by decide +kernel
theorem dX7_countRecords_9 : decode cX7_countRecords 9 = .ok (.if_icmp .ge 21, 3) := by decide +kernel
theorem dX7_countRecords_12 : decode cX7_countRecords 12 = .ok (.aload_n 0, 1) := by decide +kernel
theorem dX7_countRecords_13 : decode cX7_countRecords 13 = .ok (.getfield 11, 3) := by decide +kernel
theorem dX7_countRecords_16 : decode cX7_countRecords 16 = .ok (.iload_n 2, 1) := by decide +kernel
theorem dX7_countRecords_17 : decode cX7_countRecords 17 = .ok (.aaload, 1) := by decide +kernel
theorem dX7_countRecords_18 : decode cX7_countRecords 18 = .ok (.ifnull 6, 3) := by decide +kernel
theorem dX7_countRecords_21 : decode cX7_countRecords 21 = .ok (.iinc 1 1, 3) := by decide +kernel
theorem dX7_countRecords_24 : decode cX7_countRecords 24 = .ok (.iinc 2 1, 3) := by decide +kernel
theorem dX7_countRecords_27 : decode cX7_countRecords 27 = .ok (.goto (-23), 3) := by decide +kernel
theorem dX7_countRecords_30 : decode cX7_countRecords 30 = .ok (.iload_n 1, 1) := by decide +kernel
theorem dX7_countRecords_31 : decode cX7_countRecords 31 = .ok (.ireturn, 1) := by decide +kernel
theorem dX7_countNumbers_0 : decode cX7_countNumbers 0 = .ok (.iconst 0, 1) := by decide +kernel
theorem dX7_countNumbers_1 : decode cX7_countNumbers 1 = .ok (.istore_n 1, 1) := by decide +kernel
theorem dX7_countNumbers_2 : decode cX7_countNumbers 2 = .ok (.iconst 0, 1) := by decide +kernel
theorem dX7_countNumbers_3 : decode cX7_countNumbers 3 = .ok (.istore_n 2, 1) := by decide +kernel
theorem dX7_countNumbers_4 : decode cX7_countNumbers 4 = .ok (.iload_n 2, 1) := by decide +kernel
theorem dX7_countNumbers_5 : decode cX7_countNumbers 5 = .ok (.aload_n 0, 1) := by decide +kernel
theorem dX7_countNumbers_6 : decode cX7_countNumbers 6 = .ok (.getfield 69, 3) := by decide +kernel
theorem dX7_countNumbers_9 : decode cX7_countNumbers 9 = .ok (.if_icmp .ge 30, 3) := by decide +kernel
theorem dX7_countNumbers_12 : decode cX7_countNumbers 12 = .ok (.aload_n 0, 1) := by decide +kernel
theorem dX7_countNumbers_13 : decode cX7_countNumbers 13 = .ok (.getfield 11, 3) := by decide +kernel
theorem dX7_countNumbers_16 : decode cX7_countNumbers 16 = .ok (.iload_n 2, 1) := by decide +kernel
theorem dX7_countNumbers_17 : decode cX7_countNumbers 17 = .ok (.aaload, 1) := by decide +kernel
theorem dX7_countNumbers_18 : decode cX7_countNumbers 18 = .ok (.ifnull 15, 3) := by decide +kernel
theorem dX7_countNumbers_21 : decode cX7_countNumbers 21 = .ok (.iload_n 1, 1) := by decide +kernel
theorem dX7_countNumbers_22 : decode cX7_countNumbers 22 = .ok (.aload_n 0, 1) := by decide +kernel
theorem dX7_countNumbers_23 : decode cX7_countNumbers 23 = .ok (.getfield 11, 3) := by decide +kernel
theorem dX7_countNumbers_26 : decode cX7_countNumbers 26 = .ok (.iload_n 2, 1) := by decide +kernel
theorem dX7_countNumbers_27 : decode cX7_countNumbers 27 = .ok (.aaload, 1) := by decide +kernel
theorem dX7_countNumbers_28 : decode cX7_countNumbers 28 = .ok (.getfield 132, 3) := by decide +kernel
theorem dX7_countNumbers_31 : decode cX7_countNumbers 31 = .ok (.iadd, 1) := by decide +kernel
theorem dX7_countNumbers_32 : decode cX7_countNumbers 32 = .ok (.istore_n 1, 1) := by decide +kernel
theorem dX7_countNumbers_33 : decode cX7_countNumbers 33 = .ok (.iinc 2 1, 3) := by decide +kernel
theorem dX7_countNumbers_36 : decode cX7_countNumbers 36 = .ok (.goto (-32), 3) := by decide +kernel
theorem dX7_countNumbers_39 : decode cX7_countNumbers 39 = .ok (.iload_n 1, 1) := by decide +kernel
theorem dX7_countNumbers_40 : decode cX7_countNumbers 40 = .ok (.ireturn, 1) := by decide +kernel
theorem dX7_countFamilies_0 : decode cX7_countFamilies 0 = .ok (.aload_n 0, 1) := by decide +kernel
theorem dX7_countFamilies_1 : decode cX7_countFamilies 1 = .ok (.invokevirtual 161, 3) := by decide +kernel
theorem dX7_countFamilies_4 : decode cX7_countFamilies 4 = .ok (.pop, 1) := by decide +kernel
theorem dX7_countFamilies_5 : decode cX7_countFamilies 5 = .ok (.iconst 0, 1) := by decide +kernel
theorem dX7_countFamilies_6 : decode cX7_countFamilies 6 = .ok (.istore_n 1, 1) := by decide +kernel
theorem dX7_countFamilies_7 : decode cX7_countFamilies 7 = .ok (.lconst 0, 1) := by decide +kernel
theorem dX7_countFamilies_8 : decode cX7_countFamilies 8 = .ok (.lstore_n 2, 1) := by decide +kernel
theorem dX7_countFamilies_9 : decode cX7_countFamilies 9 = .ok (.iconst 0, 1) := by decide +kernel
theorem dX7_countFamilies_10 : decode cX7_countFamilies 10 = .ok (.istore 4, 2) := by decide +kernel
theorem dX7_countFamilies_12 : decode cX7_countFamilies 12 = .ok (.iload 4, 2) := by decide +kernel
theorem dX7_countFamilies_14 : decode cX7_countFamilies 14 = .ok (.aload_n 0, 1) := by decide +kernel
theorem dX7_countFamilies_15 : decode cX7_countFamilies 15 = .ok (.getfield 69, 3) := by decide +kernel
theorem dX7_countFamilies_18 : decode cX7_countFamilies 18 = .ok (.if_icmp .ge 45, 3) := by decide +kernel
theorem dX7_countFamilies_21 : decode cX7_countFamilies 21 = .ok (.aload_n 0, 1) := by decide +kernel
theorem dX7_countFamilies_22 : decode cX7_countFamilies 22 = .ok (.getfield 11, 3) := by decide +kernel
theorem dX7_countFamilies_25 : decode cX7_countFamilies 25 = .ok (.iload 4, 2) := by decide +kernel
theorem dX7_countFamilies_27 : decode cX7_countFamilies 27 = .ok (.aaload, 1) := by decide +kernel
theorem dX7_countFamilies_28 : decode cX7_countFamilies 28 = .ok (.ifnull 29, 3) := by decide +kernel
theorem dX7_countFamilies_31 : decode cX7_countFamilies 31 = .ok (.lload_n 2, 1) := by decide +kernel
theorem dX7_countFamilies_32 : decode cX7_countFamilies 32 = .ok (.lconst 1, 1) := by decide +kernel
theorem dX7_countFamilies_33 : decode cX7_countFamilies 33 = .ok (.iload 4, 2) := by decide +kernel
theorem dX7_countFamilies_35 : decode cX7_countFamilies 35 = .ok (.lshl, 1) := by decide +kernel
theorem dX7_countFamilies_36 : decode cX7_countFamilies 36 = .ok (.land, 1) := by decide +kernel
theorem dX7_countFamilies_37 : decode cX7_countFamilies 37 = .ok (.lconst 0, 1) := by decide +kernel
theorem dX7_countFamilies_38 : decode cX7_countFamilies 38 = .ok (.lcmp, 1) := by decide +kernel
theorem dX7_countFamilies_39 : decode cX7_countFamilies 39 = .ok (.ifCond .ne 18, 3) := by decide +kernel
theorem dX7_countFamilies_42 : decode cX7_countFamilies 42 = .ok (.iinc 1 1, 3) := by decide +kernel
theorem dX7_countFamilies_45 : decode cX7_countFamilies 45 = .ok (.lload_n 2, 1) := by decide +kernel
theorem dX7_countFamilies_46 : decode cX7_countFamilies 46 = .ok (.aload_n 0, 1) := by decide +kernel
theorem dX7_countFamilies_47 : decode cX7_countFamilies 47 = .ok (.getfield 65, 3) := by decide +kernel
theorem dX7_countFamilies_50 : decode cX7_countFamilies 50 = .ok (.iload 4, 2) := by decide +kernel
theorem dX7_countFamilies_52 : decode cX7_countFamilies 52 = .ok (.invokevirtual 165, 3) := by decide +kernel
theorem dX7_countFamilies_55 : decode cX7_countFamilies 55 = .ok (.lor, 1) := by decide +kernel
theorem dX7_countFamilies_56 : decode cX7_countFamilies 56 = .ok (.lstore_n 2, 1) := by decide +kernel
theorem dX7_countFamilies_57 : decode cX7_countFamilies 57 = .ok (.iinc 4 1, 3) := by decide +kernel
theorem dX7_countFamilies_60 : decode cX7_countFamilies 60 = .ok (.goto (-48), 3) := by decide +kernel
theorem dX7_countFamilies_63 : decode cX7_countFamilies 63 = .ok (.iload_n 1, 1) := by decide +kernel
theorem dX7_countFamilies_64 : decode cX7_countFamilies 64 = .ok (.ireturn, 1) := by decide +kernel
theorem dX8_init_0 : decode cX8_init 0 = .ok (.aload_n 0, 1) := by decide +kernel
theorem dX8_init_1 : decode cX8_init 1 = .ok (.invokespecial 1, 3) := by decide +kernel
theorem dX8_init_4 : decode cX8_init 4 = .ok (.aload_n 0, 1) := by decide +kernel
theorem dX8_init_5 : decode cX8_init 5 = .ok (.bipush 60, 2) := by decide +kernel
theorem dX8_init_7 : decode cX8_init 7 = .ok (.newarray .boolean, 2) := by decide +kernel
theorem dX8_init_9 : decode cX8_init 9 = .ok (.putfield 9, 3) := by decide +kernel
theorem dX8_init_12 : decode cX8_init 12 = .ok (.aload_n 0, 1) := by decide +kernel
theorem dX8_init_13 : decode cX8_init 13 = .ok (.bipush 60, 2) := by decide +kernel
theorem dX8_init_15 : decode cX8_init 15 = .ok (.newarray .int, 2) := by decide +kernel
theorem dX8_init_17 : decode cX8_init 17 = .ok (.putfield 13, 3) := by decide +kernel
theorem dX8_init_20 : decode cX8_init 20 = .ok (.aload_n 0, 1) := by decide +kernel
theorem dX8_init_21 : decode cX8_init 21 = .ok (.sipush 1800, 3) := by decide +kernel
theorem dX8_init_24 : decode cX8_init 24 = .ok (.newarray .int, 2) := by decide +kernel
theorem dX8_init_26 : decode cX8_init 26 = .ok (.putfield 17, 3) := by decide +kernel
theorem dX8_init_29 : decode cX8_init 29 = .ok (.aload_n 0, 1) := by decide +kernel
theorem dX8_init_30 : decode cX8_init 30 = .ok (.sipush 200, 3) := by decide +kernel
theorem dX8_init_33 : decode cX8_init 33 = .ok (.newarray .int, 2) := by decide +kernel
theorem dX8_init_35 : decode cX8_init 35 = .ok (.putfield 20, 3) := by decide +kernel
theorem dX8_init_38 : decode cX8_init 38 = .ok (.aload_n 0, 1) := by decide +kernel
theorem dX8_init_39 : decode cX8_init 39 = .ok (.sipush 200, 3) := by decide +kernel
theorem dX8_init_42 : decode cX8_init 42 = .ok (.newarray .int, 2) := by decide +kernel
theorem dX8_init_44 : decode cX8_init 44 = .ok (.putfield 23, 3) := by decide +kernel
theorem dX8_init_47 : decode cX8_init 47 = .ok (.aload_n 0, 1) := by decide +kernel
theorem dX8_init_48 : decode cX8_init 48 = .ok (.sipush 1800, 3) := by decide +kernel
theorem dX8_init_51 : decode cX8_init 51 = .ok (.newarray .int, 2) := by decide +kernel
theorem dX8_init_53 : decode cX8_init 53 = .ok (.putfield 26, 3) := by decide +kernel
theorem dX8_init_56 : decode cX8_init 56 = .ok (.aload_n 0, 1) := by decide +kernel
theorem dX8_init_57 : decode cX8_init 57 = .ok (.sipush 1800, 3) := by decide +kernel
theorem dX8_init_60 : decode cX8_init 60 = .ok (.newarray .int, 2) := by decide +kernel
theorem dX8_init_62 : decode cX8_init 62 = .ok (.putfield 29, 3) := by decide +kernel
theorem dX8_init_65 : decode cX8_init 65 = .ok (.aload_n 0, 1) := by decide +kernel
theorem dX8_init_66 : decode cX8_init 66 = .ok (.iconst 1, 1) := by decide +kernel
theorem dX8_init_67 : decode cX8_init 67 = .ok (.putfield 32, 3) := by decide +kernel
theorem dX8_init_70 : decode cX8_init 70 = .ok (.aload_n 0, 1) := by decide +kernel
theorem dX8_init_71 : decode cX8_init 71 = .ok (.iconst 1, 1) := by decide +kernel
theorem dX8_init_72 : decode cX8_init 72 = .ok (.putfield 36, 3) := by decide +kernel
theorem dX8_init_75 : decode cX8_init 75 = .ok (.aload_n 0, 1) := by decide +kernel
theorem dX8_init_76 : decode cX8_init 76 = .ok (.iconst 2, 1) := by decide +kernel
theorem dX8_init_77 : decode cX8_init 77 = .ok (.putfield 39, 3) := by decide +kernel
theorem dX8_init_80 : decode cX8_init 80 = .ok (.aload_n 0, 1) := by decide +kernel
theorem dX8_init_81 : decode cX8_init 81 = .ok (.bipush 30, 2) := by decide +kernel
theorem dX8_init_83 : decode cX8_init 83 = .ok (.newarray .int, 2) := by decide +kernel
theorem dX8_init_85 : decode cX8_init 85 = .ok (.putfield 42, 3) := by decide +kernel
theorem dX8_init_88 : decode cX8_init 88 = .ok (.aload_n 0, 1) := by decide +kernel
theorem dX8_init_89 : decode cX8_init 89 = .ok (.bipush 30, 2) := by decide +kernel
theorem dX8_init_91 : decode cX8_init 91 = .ok (.newarray .int, 2) := by decide +kernel
theorem dX8_init_93 : decode cX8_init 93 = .ok (.putfield 45, 3) := by decide +kernel
theorem dX8_init_96 : decode cX8_init 96 = .ok (.aload_n 0, 1) := by decide +kernel
theorem dX8_init_97 : decode cX8_init 97 = .ok (.bipush 80, 2) := by decide +kernel
theorem dX8_init_99 : decode cX8_init 99 = .ok (.newarray .int, 2) := by decide +kernel
theorem dX8_init_101 : decode cX8_init 101 = .ok (.putfield 48, 3) := by decide +kernel
theorem dX8_init_104 : decode cX8_init 104 = .ok (.aload_n 0, 1) := by decide +kernel
theorem dX8_init_105 : decode cX8_init 105 = .ok (.sipush 1800, 3) := by decide +kernel
theorem dX8_init_108 : decode cX8_init 108 = .ok (.newarray .int, 2) := by decide +kernel
theorem dX8_init_110 : decode cX8_init 110 = .ok (.putfield 51, 3) := by decide +kernel
theorem dX8_init_113 : decode cX8_init 113 = .ok (.aload_n 0, 1) := by decide +kernel
theorem dX8_init_114 : decode cX8_init 114 = .ok (.sipush 1800, 3) := by decide +kernel
theorem dX8_init_117 : decode cX8_init 117 = .ok (.newarray .int, 2) := by decide +kernel
theorem dX8_init_119 : decode cX8_init 119 = .ok (.putfield 54, 3) := by decide +kernel
theorem dX8_init_122 : decode cX8_init 122 = .ok (.aload_n 0, 1) := by decide +kernel
theorem dX8_init_123 : decode cX8_init 123 = .ok (.sipush 1800, 3) := by decide +kernel
theorem dX8_init_126 : decode cX8_init 126 = .ok (.newarray .int, 2) := by decide +kernel
theorem dX8_init_128 : decode cX8_init 128 = .ok (.putfield 57, 3) := by decide +kernel
theorem dX8_init_131 : decode cX8_init 131 = .ok (.aload_n 0, 1) := by decide +kernel
theorem dX8_init_132 : decode cX8_init 132 = .ok (.bipush 6, 2) := by decide +kernel
theorem dX8_init_134 : decode cX8_init 134 = .ok (.newarray .int, 2) := by decide +kernel
theorem dX8_init_136 : decode cX8_init 136 = .ok (.putfield 60, 3) := by decide +kernel
theorem dX8_init_139 : decode cX8_init 139 = .ok (.aload_n 0, 1) := by decide +kernel
theorem dX8_init_140 : decode cX8_init 140 = .ok (.bipush 60, 2) := by decide +kernel
theorem dX8_init_142 : decode cX8_init 142 = .ok (.newarray .int, 2) := by decide +kernel
theorem dX8_init_144 : decode cX8_init 144 = .ok (.putfield 63, 3) := by decide +kernel
theorem dX8_init_147 : decode cX8_init 147 = .ok (.aload_n 0, 1) := by decide +kernel
theorem dX8_init_148 : decode cX8_init 148 = .ok (.bipush 20, 2) := by decide +kernel
theorem dX8_init_150 : decode cX8_init 150 = .ok (.newarray .int, 2) := by decide +kernel
theorem dX8_init_152 : decode cX8_init 152 = .ok (.putfield 66, 3) := by decide +kernel
theorem dX8_init_155 : decode cX8_init 155 = .ok (.aload_n 0, 1) := by decide +kernel
theorem dX8_init_156 : decode cX8_init 156 = .ok (.bipush 20, 2) := by decide +kernel
theorem dX8_init_158 : decode cX8_init 158 = .ok (.newarray .int, 2) := by decide +kernel
theorem dX8_init_160 : decode cX8_init 160 = .ok (.putfield 69, 3) := by decide +kernel
theorem dX8_init_163 : decode cX8_init 163 = .ok (.aload_n 0, 1) := by decide +kernel
theorem dX8_init_164 : decode cX8_init 164 = .ok (.bipush 20, 2) := by decide +kernel
theorem dX8_init_166 : decode cX8_init 166 = .ok (.newarray .int, 2) := by decide +kernel
theorem dX8_init_168 : decode cX8_init 168 = .ok (.putfield 72, 3) := by decide +kernel
theorem dX8_init_171 : decode cX8_init 171 = .ok (.return_, 1) := by decide +kernel
theorem dX8_thrown_0 : decode cX8_thrown 0 = .ok (.aload_n 0, 1) := by decide +kernel
theorem dX8_thrown_1 : decode cX8_thrown 1 = .ok (.getfield 75, 3) := by decide +kernel
theorem dX8_thrown_4 : decode cX8_thrown 4 = .ok (.ireturn, 1) := by decide +kernel
theorem dX8_in_0 : decode cX8_in 0 = .ok (.iload_n 0, 1) := by decide +kernel
theorem dX8_in_1 : decode cX8_in 1 = .ok (.iload_n 1, 1) := by decide +kernel
theorem dX8_in_2 : decode cX8_in 2 = .ok (.if_icmp .lt 12, 3) := by decide +kernel
theorem dX8_in_5 : decode cX8_in 5 = .ok (.iload_n 0, 1) := by decide +kernel
theorem dX8_in_6 : decode cX8_in 6 = .ok (.iload_n 2, 1) := by decide +kernel
theorem dX8_in_7 : decode cX8_in 7 = .ok (.if_icmp .gt 7, 3) := by decide +kernel
theorem dX8_in_10 : decode cX8_in 10 = .ok (.iconst 1, 1) := by decide +kernel
theorem dX8_in_11 : decode cX8_in 11 = .ok (.goto 4, 3) := by decide +kernel
theorem dX8_in_14 : decode cX8_in 14 = .ok (.iconst 0, 1) := by decide +kernel
theorem dX8_in_15 : decode cX8_in 15 = .ok (.ireturn, 1) := by decide +kernel
theorem dX8_is_0 : decode cX8_is 0 = .ok (.iload_n 1, 1) := by decide +kernel
theorem dX8_is_1 : decode cX8_is 1 = .ok (.iconst 0, 1) := by decide +kernel
theorem dX8_is_2 : decode cX8_is 2 = .ok (.aload_n 0, 1) := by decide +kernel
theorem dX8_is_3 : decode cX8_is 3 = .ok (.getfield 78, 3) := by decide +kernel
theorem dX8_is_6 : decode cX8_is 6 = .ok (.iconst 1, 1) := by decide +kernel
theorem dX8_is_7 : decode cX8_is 7 = .ok (.isub, 1) := by decide +kernel
theorem dX8_is_8 : decode cX8_is 8 = .ok (.invokestatic 81, 3) := by decide +kernel
theorem dX8_is_11 : decode cX8_is 11 = .ok (.ifCond .eq 16, 3) := by decide +kernel
theorem dX8_is_14 : decode cX8_is 14 = .ok (.aload_n 0, 1) := by decide +kernel
theorem dX8_is_15 : decode cX8_is 15 = .ok (.getfield 9, 3) := by decide +kernel
theorem dX8_is_18 : decode cX8_is 18 = .ok (.iload_n 1, 1) := by decide +kernel
theorem dX8_is_19 : decode cX8_is 19 = .ok (.baload, 1) := by decide +kernel
theorem dX8_is_20 : decode cX8_is 20 = .ok (.ifCond .ne 7, 3) := by decide +kernel
theorem dX8_is_23 : decode cX8_is 23 = .ok (.iconst 1, 1) := by decide +kernel
theorem dX8_is_24 : decode cX8_is 24 = .ok (.goto 4, 3) := by decide +kernel
theorem dX8_is_27 : decode cX8_is 27 = .ok (.iconst 0, 1) := by decide +kernel
theorem dX8_is_28 : decode cX8_is 28 = .ok (.ireturn, 1) := by decide +kernel
theorem dX8_isTwo_0 : decode cX8_isTwo 0 = .ok (.aload_n 0, 1) := by decide +kernel
theorem dX8_isTwo_1 : decode cX8_isTwo 1 = .ok (.iload_n 1, 1) := by decide +kernel
theorem dX8_isTwo_2 : decode cX8_isTwo 2 = .ok (.invokevirtual 85, 3) := by decide +kernel
theorem dX8_isTwo_5 : decode cX8_isTwo 5 = .ok (.ifCond .eq 20, 3) := by decide +kernel
theorem dX8_isTwo_8 : decode cX8_isTwo 8 = .ok (.aload_n 0, 1) := by decide +kernel
theorem dX8_isTwo_9 : decode cX8_isTwo 9 = .ok (.iload_n 2, 1) := by decide +kernel
theorem dX8_isTwo_10 : decode cX8_isTwo 10 = .ok (.invokevirtual 85, 3) := by decide +kernel
theorem dX8_isTwo_13 : decode cX8_isTwo 13 = .ok (.ifCond .eq 12, 3) := by decide +kernel
theorem dX8_isTwo_16 : decode cX8_isTwo 16 = .ok (.iload_n 1, 1) := by decide +kernel
theorem dX8_isTwo_17 : decode cX8_isTwo 17 = .ok (.iload_n 2, 1) := by decide +kernel
theorem dX8_isTwo_18 : decode cX8_isTwo 18 = .ok (.if_icmp .eq 7, 3) := by decide +kernel
theorem dX8_isTwo_21 : decode cX8_isTwo 21 = .ok (.iconst 1, 1) := by decide +kernel
theorem dX8_isTwo_22 : decode cX8_isTwo 22 = .ok (.goto 4, 3) := by decide +kernel
theorem dX8_isTwo_25 : decode cX8_isTwo 25 = .ok (.iconst 0, 1) := by decide +kernel
theorem dX8_isTwo_26 : decode cX8_isTwo 26 = .ok (.ireturn, 1) := by decide +kernel
theorem dX8_isNumber_0 : decode cX8_isNumber 0 = .ok (.iload_n 0, 1) := by decide +kernel
theorem dX8_isNumber_1 : decode cX8_isNumber 1 = .ok (.iconst 0, 1) := by decide +kernel
theorem dX8_isNumber_2 : decode cX8_isNumber 2 = .ok (.ldc 89, 2) := by decide +kernel
theorem dX8_isNumber_4 : decode cX8_isNumber 4 = .ok (.invokestatic 81, 3) := by decide +kernel
theorem dX8_isNumber_7 : decode cX8_isNumber 7 = .ok (.ireturn, 1) := by decide +kernel
theorem dX8_place_0 : decode cX8_place 0 = .ok (.iconst 0, 1) := by decide +kernel
theorem dX8_place_1 : decode cX8_place 1 = .ok (.istore_n 3, 1) := by decide +kernel
theorem dX8_place_2 : decode cX8_place 2 = .ok (.iload_n 3, 1) := by decide +kernel
theorem dX8_place_3 : decode cX8_place 3 = .ok (.aload_n 0, 1) := by decide +kernel
theorem dX8_place_4 : decode cX8_place 4 = .ok (.getfield 13, 3) := by decide +kernel
theorem dX8_place_7 : decode cX8_place 7 = .ok (.iload_n 1, 1) := by decide +kernel
theorem dX8_place_8 : decode cX8_place 8 = .ok (.iaload, 1) := by decide +kernel
theorem dX8_place_9 : decode cX8_place 9 = .ok (.if_icmp .ge 26, 3) := by decide +kernel
theorem dX8_place_12 : decode cX8_place 12 = .ok (.aload_n 0, 1) := by decide +kernel
theorem dX8_place_13 : decode cX8_place 13 = .ok (.getfield 17, 3) := by decide +kernel
theorem dX8_place_16 : decode cX8_place 16 = .ok (.bipush 30, 2) := by decide +kernel
theorem dX8_place_18 : decode cX8_place 18 = .ok (.iload_n 1, 1) := by decide +kernel
theorem dX8_place_19 : decode cX8_place 19 = .ok (.imul, 1) := by decide +kernel
theorem dX8_place_20 : decode cX8_place 20 = .ok (.iload_n 3, 1) := by decide +kernel
theorem dX8_place_21 : decode cX8_place 21 = .ok (.iadd, 1) := by decide +kernel
theorem dX8_place_22 : decode cX8_place 22 = .ok (.iaload, 1) := by decide +kernel
theorem dX8_place_23 : decode cX8_place 23 = .ok (.iload_n 2, 1) := by decide +kernel
theorem dX8_place_24 : decode cX8_place 24 = .ok (.if_icmp .ne 5, 3) := by decide +kernel
theorem dX8_place_27 : decode cX8_place 27 = .ok (.iload_n 3, 1) := by decide +kernel
theorem dX8_place_28 : decode cX8_place 28 = .ok (.ireturn, 1) := by decide +kernel
theorem dX8_place_29 : decode cX8_place 29 = .ok (.iinc 3 1, 3) := by decide +kernel
theorem dX8_place_32 : decode cX8_place 32 = .ok (.goto (-30), 3) := by decide +kernel
theorem dX8_place_35 : decode cX8_place 35 = .ok (.iconst (-1), 1) := by decide +kernel
theorem dX8_place_36 : decode cX8_place 36 = .ok (.ireturn, 1) := by decide +kernel
theorem dX8_record_0 : decode cX8_record 0 = .ok (.aload_n 0, 1) := by decide +kernel
theorem dX8_record_1 : decode cX8_record 1 = .ok (.iconst 0, 1) := by decide +kernel
theorem dX8_record_2 : decode cX8_record 2 = .ok (.putfield 75, 3) := by decide +kernel
theorem dX8_record_5 : decode cX8_record 5 = .ok (.aload_n 0, 1) := by decide +kernel
theorem dX8_record_6 : decode cX8_record 6 = .ok (.getfield 78, 3) := by decide +kernel
theorem dX8_record_9 : decode cX8_record 9 = .ok (.bipush 60, 2) := by decide +kernel
theorem dX8_record_11 : decode cX8_record 11 = .ok (.if_icmp .ne 5, 3) := by decide +kernel
theorem dX8_record_14 : decode cX8_record 14 = .ok (.iconst (-1), 1) := by decide +kernel
theorem dX8_record_15 : decode cX8_record 15 = .ok (.ireturn, 1) := by decide +kernel
theorem dX8_record_16 : decode cX8_record 16 = .ok (.aload_n 0, 1) := by decide +kernel
theorem dX8_record_17 : decode cX8_record 17 = .ok (.dup, 1) := by decide +kernel
theorem dX8_record_18 : decode cX8_record 18 = .ok (.getfield 78, 3) := by decide +kernel
theorem dX8_record_21 : decode cX8_record 21 = .ok (.iconst 1, 1) := by decide +kernel
theorem dX8_record_22 : decode cX8_record 22 = .ok (.iadd, 1) := by decide +kernel
theorem dX8_record_23 : decode cX8_record 23 = .ok (.putfield 78, 3) := by decide +kernel
theorem dX8_record_26 : decode cX8_record 26 = .ok (.aload_n 0, 1) := by decide +kernel
theorem dX8_record_27 : decode cX8_record 27 = .ok (.getfield 78, 3) := by decide +kernel
theorem dX8_record_30 : decode cX8_record 30 = .ok (.iconst 1, 1) := by decide +kernel
theorem dX8_record_31 : decode cX8_record 31 = .ok (.isub, 1) := by decide +kernel
theorem dX8_record_32 : decode cX8_record 32 = .ok (.ireturn, 1) := by decide +kernel
theorem dX8_drop_0 : decode cX8_drop 0 = .ok (.aload_n 0, 1) := by decide +kernel
theorem dX8_drop_1 : decode cX8_drop 1 = .ok (.iconst 0, 1) := by decide +kernel
theorem dX8_drop_2 : decode cX8_drop 2 = .ok (.putfield 75, 3) := by decide +kernel
theorem dX8_drop_5 : decode cX8_drop 5 = .ok (.aload_n 0, 1) := by decide +kernel
theorem dX8_drop_6 : decode cX8_drop 6 = .ok (.iload_n 1, 1) := by decide +kernel
theorem dX8_drop_7 : decode cX8_drop 7 = .ok (.invokevirtual 85, 3) := by decide +kernel
theorem dX8_drop_10 : decode cX8_drop 10 = .ok (.ifCond .ne 5, 3) := by decide +kernel
theorem dX8_drop_13 : decode cX8_drop 13 = .ok (.iconst 0, 1) := by decide +kernel
theorem dX8_drop_14 : decode cX8_drop 14 = .ok (.ireturn, 1) := by decide +kernel
theorem dX8_drop_15 : decode cX8_drop 15 = .ok (.aload_n 0, 1) := by decide +kernel
theorem dX8_drop_16 : decode cX8_drop 16 = .ok (.getfield 9, 3) := by decide +kernel
theorem dX8_drop_19 : decode cX8_drop 19 = .ok (.iload_n 1, 1) := by decide +kernel
theorem dX8_drop_20 : decode cX8_drop 20 = .ok (.iconst 1, 1) := by decide +kernel
theorem dX8_drop_21 : decode cX8_drop 21 = .ok (.bastore, 1) := by decide +kernel
theorem dX8_drop_22 : decode cX8_drop 22 = .ok (.iconst 1, 1) := by decide +kernel
theorem dX8_drop_23 : decode cX8_drop 23 = .ok (.ireturn, 1) := by decide +kernel
theorem dX8_put_0 : decode cX8_put 0 = .ok (.aload_n 0, 1) := by decide +kernel
theorem dX8_put_1 : decode cX8_put 1 = .ok (.iconst 0, 1) := by decide +kernel
theorem dX8_put_2 : decode cX8_put 2 = .ok (.putfield 75, 3) := by decide +kernel
theorem dX8_put_5 : decode cX8_put 5 = .ok (.aload_n 0, 1) := by decide +kernel
theorem dX8_put_6 : decode cX8_put 6 = .ok (.iload_n 1, 1) := by decide +kernel
theorem dX8_put_7 : decode cX8_put 7 = .ok (.invokevirtual 85, 3) := by decide +kernel
theorem dX8_put_10 : decode cX8_put 10 = .ok (.ifCond .eq 31, 3) := by decide +kernel
theorem dX8_put_13 : decode cX8_put 13 = .ok (.iload_n 2, 1) := by decide +kernel
theorem dX8_put_14 : decode cX8_put 14 = .ok (.invokestatic 90, 3) := by decide +kernel
theorem dX8_put_17 : decode cX8_put 17 = .ok (.ifCond .eq 24, 3) := by decide +kernel
theorem dX8_put_20 : decode cX8_put 20 = .ok (.aload_n 0, 1) := by decide +kernel
theorem dX8_put_21 : decode cX8_put 21 = .ok (.iload_n 1, 1) := by decide +kernel
theorem dX8_put_22 : decode cX8_put 22 = .ok (.iload_n 2, 1) := by decide +kernel
theorem dX8_put_23 : decode cX8_put 23 = .ok (.invokevirtual 93, 3) := by decide +kernel
theorem dX8_put_26 : decode cX8_put 26 = .ok (.iconst (-1), 1) := by decide +kernel
theorem dX8_put_27 : decode cX8_put 27 = .ok (.if_icmp .ne 14, 3) := by decide +kernel
theorem dX8_put_30 : decode cX8_put 30 = .ok (.aload_n 0, 1) := by decide +kernel
theorem dX8_put_31 : decode cX8_put 31 = .ok (.getfield 13, 3) := by decide +kernel
theorem dX8_put_34 : decode cX8_put 34 = .ok (.iload_n 1, 1) := by decide +kernel
theorem dX8_put_35 : decode cX8_put 35 = .ok (.iaload, 1) := by decide +kernel
theorem dX8_put_36 : decode cX8_put 36 = .ok (.bipush 30, 2) := by decide +kernel
theorem dX8_put_38 : decode cX8_put 38 = .ok (.if_icmp .ne 5, 3) := by decide +kernel
theorem dX8_put_41 : decode cX8_put 41 = .ok (.iconst 0, 1) := by decide +kernel
theorem dX8_put_42 : decode cX8_put 42 = .ok (.ireturn, 1) := by decide +kernel
theorem dX8_put_43 : decode cX8_put 43 = .ok (.aload_n 0, 1) := by decide +kernel
theorem dX8_put_44 : decode cX8_put 44 = .ok (.getfield 17, 3) := by decide +kernel
theorem dX8_put_47 : decode cX8_put 47 = .ok (.bipush 30, 2) := by decide +kernel
theorem dX8_put_49 : decode cX8_put 49 = .ok (.iload_n 1, 1) := by decide +kernel
theorem dX8_put_50 : decode cX8_put 50 = .ok (.imul, 1) := by decide +kernel
theorem dX8_put_51 : decode cX8_put 51 = .ok (.aload_n 0, 1) := by decide +kernel
theorem dX8_put_52 : decode cX8_put 52 = .ok (.getfield 13, 3) := by decide +kernel
theorem dX8_put_55 : decode cX8_put 55 = .ok (.iload_n 1, 1) := by decide +kernel
theorem dX8_put_56 : decode cX8_put 56 = .ok (.iaload, 1) := by decide +kernel
theorem dX8_put_57 : decode cX8_put 57 = .ok (.iadd, 1) := by decide +kernel
theorem dX8_put_58 : decode cX8_put 58 = .ok (.iload_n 2, 1) := by decide +kernel
theorem dX8_put_59 : decode cX8_put 59 = .ok (.iastore, 1) := by decide +kernel
theorem dX8_put_60 : decode cX8_put 60 = .ok (.aload_n 0, 1) := by decide +kernel
theorem dX8_put_61 : decode cX8_put 61 = .ok (.getfield 13, 3) := by decide +kernel
theorem dX8_put_64 : decode cX8_put 64 = .ok (.iload_n 1, 1) := by decide +kernel
theorem dX8_put_65 : decode cX8_put 65 = .ok (.dup2, 1) := by decide +kernel
theorem dX8_put_66 : decode cX8_put 66 = .ok (.iaload, 1) := by decide +kernel
theorem dX8_put_67 : decode cX8_put 67 = .ok (.iconst 1, 1) := by decide +kernel
theorem dX8_put_68 : decode cX8_put 68 = .ok (.iadd, 1) := by decide +kernel
theorem dX8_put_69 : decode cX8_put 69 = .ok (.iastore, 1) := by decide +kernel
theorem dX8_put_70 : decode cX8_put 70 = .ok (.iconst 1, 1) := by decide +kernel
theorem dX8_put_71 : decode cX8_put 71 = .ok (.ireturn, 1) := by decide +kernel
theorem dX8_take_0 : decode cX8_take 0 = .ok (.aload_n 0, 1) := by decide +kernel
theorem dX8_take_1 : decode cX8_take 1 = .ok (.iconst 0, 1) := by decide +kernel
theorem dX8_take_2 : decode cX8_take 2 = .ok (.putfield 75, 3) := by decide +kernel
theorem dX8_take_5 : decode cX8_take 5 = .ok (.aload_n 0, 1) := by decide +kernel
theorem dX8_take_6 : decode cX8_take 6 = .ok (.iload_n 1, 1) := by decide +kernel
theorem dX8_take_7 : decode cX8_take 7 = .ok (.invokevirtual 85, 3) := by decide +kernel
theorem dX8_take_10 : decode cX8_take 10 = .ok (.ifCond .eq 13, 3) := by decide +kernel
theorem dX8_take_13 : decode cX8_take 13 = .ok (.aload_n 0, 1) := by decide +kernel
theorem dX8_take_14 : decode cX8_take 14 = .ok (.iload_n 1, 1) := by decide +kernel
theorem dX8_take_15 : decode cX8_take 15 = .ok (.iload_n 2, 1) := by decide +kernel
theorem dX8_take_16 : decode cX8_take 16 = .ok (.invokevirtual 93, 3) := by decide +kernel
theorem dX8_take_19 : decode cX8_take 19 = .ok (.iconst (-1), 1) := by decide +kernel
theorem dX8_take_20 : decode cX8_take 20 = .ok (.if_icmp .ne 5, 3) := by decide +kernel
theorem dX8_take_23 : decode cX8_take 23 = .ok (.iconst 0, 1) := by decide +kernel
theorem dX8_take_24 : decode cX8_take 24 = .ok (.ireturn, 1) := by decide +kernel
theorem dX8_take_25 : decode cX8_take 25 = .ok (.aload_n 0, 1) := by decide +kernel
theorem dX8_take_26 : decode cX8_take 26 = .ok (.getfield 13, 3) := by decide +kernel
theorem dX8_take_29 : decode cX8_take 29 = .ok (.iload_n 1, 1) := by decide +kernel
theorem dX8_take_30 : decode cX8_take 30 = .ok (.dup2, 1) := by decide +kernel
theorem dX8_take_31 : decode cX8_take 31 = .ok (.iaload, 1) := by decide +kernel
theorem dX8_take_32 : decode cX8_take 32 = .ok (.iconst 1, 1) := by decide +kernel
theorem dX8_take_33 : decode cX8_take 33 = .ok (.isub, 1) := by decide +kernel
theorem dX8_take_34 : decode cX8_take 34 = .ok (.iastore, 1) := by decide +kernel
theorem dX8_take_35 : decode cX8_take 35 = .ok (.aload_n 0, 1) := by decide +kernel
theorem dX8_take_36 : decode cX8_take 36 = .ok (.getfield 17, 3) := by decide +kernel
theorem dX8_take_39 : decode cX8_take 39 = .ok (.bipush 30, 2) := by decide +kernel
theorem dX8_take_41 : decode cX8_take 41 = .ok (.iload_n 1, 1) := by decide +kernel
theorem dX8_take_42 : decode cX8_take 42 = .ok (.imul, 1) := by decide +kernel
theorem dX8_take_43 : decode cX8_take 43 = .ok (.aload_n 0, 1) := by decide +kernel
theorem dX8_take_44 : decode cX8_take 44 = .ok (.iload_n 1, 1) := by decide +kernel
theorem dX8_take_45 : decode cX8_take 45 = .ok (.iload_n 2, 1) := by decide +kernel
theorem dX8_take_46 : decode cX8_take 46 = .ok (.invokevirtual 97, 3) := by decide +kernel
theorem dX8_take_49 : decode cX8_take 49 = .ok (.iadd, 1) := by decide +kernel
theorem dX8_take_50 : decode cX8_take 50 = .ok (.aload_n 0, 1) := by decide +kernel
theorem dX8_take_51 : decode cX8_take 51 = .ok (.getfield 17, 3) := by decide +kernel
theorem dX8_take_54 : decode cX8_take 54 = .ok (.bipush 30, 2) := by decide +kernel
theorem dX8_take_56 : decode cX8_take 56 = .ok (.iload_n 1, 1) := by decide +kernel
theorem dX8_take_57 : decode cX8_take 57 = .ok (.imul, 1) := by decide +kernel
theorem dX8_take_58 : decode cX8_take 58 = .ok (.aload_n 0, 1) := by decide +kernel
theorem dX8_take_59 : decode cX8_take 59 = .ok (.getfield 13, 3) := by decide +kernel
theorem dX8_take_62 : decode cX8_take 62 = .ok (.iload_n 1, 1) := by decide +kernel
theorem dX8_take_63 : decode cX8_take 63 = .ok (.iaload, 1) := by decide +kernel
theorem dX8_take_64 : decode cX8_take 64 = .ok (.iadd, 1) := by decide +kernel
theorem dX8_take_65 : decode cX8_take 65 = .ok (.iaload, 1) := by decide +kernel
theorem dX8_take_66 : decode cX8_take 66 = .ok (.iastore, 1) := by decide +kernel
theorem dX8_take_67 : decode cX8_take 67 = .ok (.iconst 1, 1) := by decide +kernel
theorem dX8_take_68 : decode cX8_take 68 = .ok (.ireturn, 1) := by decide +kernel
theorem dX8_place0_0 : decode cX8_place0 0 = .ok (.iconst 0, 1) := by decide +kernel
theorem dX8_place0_1 : decode cX8_place0 1 = .ok (.istore_n 3, 1) := by decide +kernel
theorem dX8_place0_2 : decode cX8_place0 2 = .ok (.aload_n 0, 1) := by decide +kernel
theorem dX8_place0_3 : decode cX8_place0 3 = .ok (.getfield 17, 3) := by decide +kernel
theorem dX8_place0_6 : decode cX8_place0 6 = .ok (.bipush 30, 2) := by decide +kernel
theorem dX8_place0_8 : decode cX8_place0 8 = .ok (.iload_n 1, 1) := by decide +kernel
theorem dX8_place0_9 : decode cX8_place0 9 = .ok (.imul, 1) := by decide +kernel
theorem dX8_place0_10 : decode cX8_place0 10 = .ok (.iload_n 3, 1) := by decide +kernel
theorem dX8_place0_11 : decode cX8_place0 11 = .ok (.iadd, 1) := by decide +kernel
theorem dX8_place0_12 : decode cX8_place0 12 = .ok (.iaload, 1) := by decide +kernel
theorem dX8_place0_13 : decode cX8_place0 13 = .ok (.iload_n 2, 1) := by decide +kernel
theorem dX8_place0_14 : decode cX8_place0 14 = .ok (.if_icmp .eq 9, 3) := by decide +kernel
theorem dX8_place0_17 : decode cX8_place0 17 = .ok (.iinc 3 1, 3) := by decide +kernel
theorem dX8_place0_20 : decode cX8_place0 20 = .ok (.goto (-18), 3) := by decide +kernel
theorem dX8_place0_23 : decode cX8_place0 23 = .ok (.iload_n 3, 1) := by decide +kernel
theorem dX8_place0_24 : decode cX8_place0 24 = .ok (.ireturn, 1) := by decide +kernel
theorem dX8_weight_0 : decode cX8_weight 0 = .ok (.aload_n 0, 1) := by decide +kernel
theorem dX8_weight_1 : decode cX8_weight 1 = .ok (.iconst 0, 1) := by decide +kernel
theorem dX8_weight_2 : decode cX8_weight 2 = .ok (.putfield 75, 3) := by decide +kernel
theorem dX8_weight_5 : decode cX8_weight 5 = .ok (.iload_n 1, 1) := by decide +kernel
theorem dX8_weight_6 : decode cX8_weight 6 = .ok (.invokestatic 90, 3) := by decide +kernel
theorem dX8_weight_9 : decode cX8_weight 9 = .ok (.ifCond .eq 13, 3) := by decide +kernel
theorem dX8_weight_12 : decode cX8_weight 12 = .ok (.iload_n 2, 1) := by decide +kernel
theorem dX8_weight_13 : decode cX8_weight 13 = .ok (.iconst 1, 1) := by decide +kernel
theorem dX8_weight_14 : decode cX8_weight 14 = .ok (.bipush 100, 2) := by decide +kernel
theorem dX8_weight_16 : decode cX8_weight 16 = .ok (.invokestatic 81, 3) := by decide +kernel
theorem dX8_weight_19 : decode cX8_weight 19 = .ok (.ifCond .ne 5, 3) := by decide +kernel
theorem dX8_weight_22 : decode cX8_weight 22 = .ok (.iconst 0, 1) := by decide +kernel
theorem dX8_weight_23 : decode cX8_weight 23 = .ok (.ireturn, 1) := by decide +kernel
theorem dX8_weight_24 : decode cX8_weight 24 = .ok (.iconst 0, 1) := by decide +kernel
theorem dX8_weight_25 : decode cX8_weight 25 = .ok (.istore_n 3, 1) := by decide +kernel
theorem dX8_weight_26 : decode cX8_weight 26 = .ok (.iload_n 3, 1) := by decide +kernel
theorem dX8_weight_27 : decode cX8_weight 27 = .ok (.aload_n 0, 1) := by decide +kernel
theorem dX8_weight_28 : decode cX8_weight 28 = .ok (.getfield 100, 3) := by decide +kernel
theorem dX8_weight_31 : decode cX8_weight 31 = .ok (.if_icmp .ge 19, 3) := by decide +kernel
theorem dX8_weight_34 : decode cX8_weight 34 = .ok (.aload_n 0, 1) := by decide +kernel
theorem dX8_weight_35 : decode cX8_weight 35 = .ok (.getfield 20, 3) := by decide +kernel
theorem dX8_weight_38 : decode cX8_weight 38 = .ok (.iload_n 3, 1) := by decide +kernel
theorem dX8_weight_39 : decode cX8_weight 39 = .ok (.iaload, 1) := by decide +kernel
theorem dX8_weight_40 : decode cX8_weight 40 = .ok (.iload_n 1, 1) := by decide +kernel
theorem dX8_weight_41 : decode cX8_weight 41 = .ok (.if_icmp .eq 9, 3) := by decide +kernel
theorem dX8_weight_44 : decode cX8_weight 44 = .ok (.iinc 3 1, 3) := by decide +kernel
theorem dX8_weight_47 : decode cX8_weight 47 = .ok (.goto (-21), 3) := by decide +kernel
theorem dX8_weight_50 : decode cX8_weight 50 = .ok (.iload_n 3, 1) := by decide +kernel
theorem dX8_weight_51 : decode cX8_weight 51 = .ok (.sipush 200, 3) := by decide +kernel
theorem dX8_weight_54 : decode cX8_weight 54 = .ok (.if_icmp .ne 5, 3) := by decide +kernel
theorem dX8_weight_57 : decode cX8_weight 57 = .ok (.iconst 0, 1) := by decide +kernel
theorem dX8_weight_58 : decode cX8_weight 58 = .ok (.ireturn, 1) := by decide +kernel
theorem dX8_weight_59 : decode cX8_weight 59 = .ok (.aload_n 0, 1) := by decide +kernel
theorem dX8_weight_60 : decode cX8_weight 60 = .ok (.getfield 20, 3) := by decide +kernel
theorem dX8_weight_63 : decode cX8_weight 63 = .ok (.iload_n 3, 1) := by decide +kernel
theorem dX8_weight_64 : decode cX8_weight 64 = .ok (.iload_n 1, 1) := by decide +kernel
theorem dX8_weight_65 : decode cX8_weight 65 = .ok (.iastore, 1) := by decide +kernel
theorem dX8_weight_66 : decode cX8_weight 66 = .ok (.aload_n 0, 1) := by decide +kernel
theorem dX8_weight_67 : decode cX8_weight 67 = .ok (.getfield 23, 3) := by decide +kernel
theorem dX8_weight_70 : decode cX8_weight 70 = .ok (.iload_n 3, 1) := by decide +kernel
theorem dX8_weight_71 : decode cX8_weight 71 = .ok (.iload_n 2, 1) := by decide +kernel
theorem dX8_weight_72 : decode cX8_weight 72 = .ok (.iastore, 1) := by decide +kernel
theorem dX8_weight_73 : decode cX8_weight 73 = .ok (.iload_n 3, 1) := by decide +kernel
theorem dX8_weight_74 : decode cX8_weight 74 = .ok (.aload_n 0, 1) := by decide +kernel
theorem dX8_weight_75 : decode cX8_weight 75 = .ok (.getfield 100, 3) := by decide +kernel
theorem dX8_weight_78 : decode cX8_weight 78 = .ok (.if_icmp .ne 13, 3) := by decide +kernel
theorem dX8_weight_81 : decode cX8_weight 81 = .ok (.aload_n 0, 1) := by decide +kernel
theorem dX8_weight_82 : decode cX8_weight 82 = .ok (.dup, 1) := by decide +kernel
theorem dX8_weight_83 : decode cX8_weight 83 = .ok (.getfield 100, 3) := by decide +kernel
theorem dX8_weight_86 : decode cX8_weight 86 = .ok (.iconst 1, 1) := by decide +kernel
theorem dX8_weight_87 : decode cX8_weight 87 = .ok (.iadd, 1) := by decide +kernel
theorem dX8_weight_88 : decode cX8_weight 88 = .ok (.putfield 100, 3) := by decide +kernel
theorem dX8_weight_91 : decode cX8_weight 91 = .ok (.iconst 1, 1) := by decide +kernel
theorem dX8_weight_92 : decode cX8_weight 92 = .ok (.ireturn, 1) := by decide +kernel
theorem dX8_weightOf_0 : decode cX8_weightOf 0 = .ok (.aload_n 0, 1) := by decide +kernel
theorem dX8_weightOf_1 : decode cX8_weightOf 1 = .ok (.getfield 32, 3) := by decide +kernel
theorem dX8_weightOf_4 : decode cX8_weightOf 4 = .ok (.iconst 5, 1) := by decide +kernel
theorem dX8_weightOf_5 : decode cX8_weightOf 5 = .ok (.if_icmp .eq 5, 3) := by decide +kernel
theorem dX8_weightOf_8 : decode cX8_weightOf 8 = .ok (.iconst 1, 1) := by decide +kernel
theorem dX8_weightOf_9 : decode cX8_weightOf 9 = .ok (.ireturn, 1) := by decide +kernel
theorem dX8_weightOf_10 : decode cX8_weightOf 10 = .ok (.iconst 0, 1) := by decide +kernel
theorem dX8_weightOf_11 : decode cX8_weightOf 11 = .ok (.istore_n 2, 1) := by decide +kernel
theorem dX8_weightOf_12 : decode cX8_weightOf 12 = .ok (.iload_n 2, 1) := by decide +kernel
theorem dX8_weightOf_13 : decode cX8_weightOf 13 = .ok (.aload_n 0, 1) := by decide +kernel
theorem dX8_weightOf_14 : decode cX8_weightOf 14 = .ok (.getfield 100, 3) := by decide +kernel
theorem dX8_weightOf_17 : decode cX8_weightOf 17 = .ok (.if_icmp .ge 26, 3) := by decide +kernel
theorem dX8_weightOf_20 : decode cX8_weightOf 20 = .ok (.aload_n 0, 1) := by decide +kernel
theorem dX8_weightOf_21 : decode cX8_weightOf 21 = .ok (.getfield 20, 3) := by decide +kernel
theorem dX8_weightOf_24 : decode cX8_weightOf 24 = .ok (.iload_n 2, 1) := by decide +kernel
theorem dX8_weightOf_25 : decode cX8_weightOf 25 = .ok (.iaload, 1) := by decide +kernel
theorem dX8_weightOf_26 : decode cX8_weightOf 26 = .ok (.iload_n 1, 1) := by decide +kernel
theorem dX8_weightOf_27 : decode cX8_weightOf 27 = .ok (.if_icmp .ne 10, 3) := by decide +kernel
theorem dX8_weightOf_30 : decode cX8_weightOf 30 = .ok (.aload_n 0, 1) := by decide +kernel
theorem dX8_weightOf_31 : decode cX8_weightOf 31 = .ok (.getfield 23, 3) := by decide +kernel
theorem dX8_weightOf_34 : decode cX8_weightOf 34 = .ok (.iload_n 2, 1) := by decide +kernel
theorem dX8_weightOf_35 : decode cX8_weightOf 35 = .ok (.iaload, 1) := by decide +kernel
theorem dX8_weightOf_36 : decode cX8_weightOf 36 = .ok (.ireturn, 1) := by decide +kernel
theorem dX8_weightOf_37 : decode cX8_weightOf 37 = .ok (.iinc 2 1, 3) := by decide +kernel
theorem dX8_weightOf_40 : decode cX8_weightOf 40 = .ok (.goto (-28), 3) := by decide +kernel
theorem dX8_weightOf_43 : decode cX8_weightOf 43 = .ok (.iconst 1, 1) := by decide +kernel
theorem dX8_weightOf_44 : decode cX8_weightOf 44 = .ok (.ireturn, 1) := by decide +kernel
theorem dX8_frequencyOf_0 : decode cX8_frequencyOf 0 = .ok (.iconst 0, 1) := by decide +kernel
theorem dX8_frequencyOf_1 : decode cX8_frequencyOf 1 = .ok (.istore_n 2, 1) := by decide +kernel
theorem dX8_frequencyOf_2 : decode cX8_frequencyOf 2 = .ok (.iload_n 2, 1) := by decide +kernel
theorem dX8_frequencyOf_3 : decode cX8_frequencyOf 3 = .ok (.aload_n 0, 1) := by decide +kernel
theorem dX8_frequencyOf_4 : decode cX8_frequencyOf 4 = .ok (.getfield 103, 3) := by decide +kernel
theorem dX8_frequencyOf_7 : decode cX8_frequencyOf 7 = .ok (.if_icmp .ge 26, 3) := by decide +kernel
theorem dX8_frequencyOf_10 : decode cX8_frequencyOf 10 = .ok (.aload_n 0, 1) := by decide +kernel
theorem dX8_frequencyOf_11 : decode cX8_frequencyOf 11 = .ok (.getfield 26, 3) := by decide +kernel
theorem dX8_frequencyOf_14 : decode cX8_frequencyOf 14 = .ok (.iload_n 2, 1) := by decide +kernel
theorem dX8_frequencyOf_15 : decode cX8_frequencyOf 15 = .ok (.iaload, 1) := by decide +kernel
theorem dX8_frequencyOf_16 : decode cX8_frequencyOf 16 = .ok (.iload_n 1, 1) := by decide +kernel
theorem dX8_frequencyOf_17 : decode cX8_frequencyOf 17 = .ok (.if_icmp .ne 10, 3) := by decide +kernel
theorem dX8_frequencyOf_20 : decode cX8_frequencyOf 20 = .ok (.aload_n 0, 1) := by decide +kernel
theorem dX8_frequencyOf_21 : decode cX8_frequencyOf 21 = .ok (.getfield 29, 3) := by decide +kernel
theorem dX8_frequencyOf_24 : decode cX8_frequencyOf 24 = .ok (.iload_n 2, 1) := by decide +kernel
theorem dX8_frequencyOf_25 : decode cX8_frequencyOf 25 = .ok (.iaload, 1) := by decide +kernel
theorem dX8_frequencyOf_26 : decode cX8_frequencyOf 26 = .ok (.ireturn, 1) := by decide +kernel
theorem dX8_frequencyOf_27 : decode cX8_frequencyOf 27 = .ok (.iinc 2 1, 3) := by decide +kernel
theorem dX8_frequencyOf_30 : decode cX8_frequencyOf 30 = .ok (.goto (-28), 3) := by decide +kernel
theorem dX8_frequencyOf_33 : decode cX8_frequencyOf 33 = .ok (.iconst 0, 1) := by decide +kernel
theorem dX8_frequencyOf_34 : decode cX8_frequencyOf 34 = .ok (.ireturn, 1) := by decide +kernel
theorem dX8_isAhead_0 : decode cX8_isAhead 0 = .ok (.aload_n 0, 1) := by decide +kernel
theorem dX8_isAhead_1 : decode cX8_isAhead 1 = .ok (.iload_n 1, 1) := by decide +kernel
theorem dX8_isAhead_2 : decode cX8_isAhead 2 = .ok (.invokevirtual 106, 3) := by decide +kernel
theorem dX8_isAhead_5 : decode cX8_isAhead 5 = .ok (.istore_n 3, 1) := by decide +kernel
theorem dX8_isAhead_6 : decode cX8_isAhead 6 = .ok (.aload_n 0, 1) := by decide +kernel
theorem dX8_isAhead_7 : decode cX8_isAhead 7 = .ok (.iload_n 2, 1) := by decide +kernel
theorem dX8_isAhead_8 : decode cX8_isAhead 8 = .ok (.invokevirtual 106, 3) := by decide +kernel
theorem dX8_isAhead_11 : decode cX8_isAhead 11 = .ok (.istore 4, 2) := by decide +kernel
theorem dX8_isAhead_13 : decode cX8_isAhead 13 = .ok (.iload_n 3, 1) := by decide +kernel
theorem dX8_isAhead_14 : decode cX8_isAhead 14 = .ok (.iload 4, 2) := by decide +kernel
theorem dX8_isAhead_16 : decode cX8_isAhead 16 = .ok (.if_icmp .eq 17, 3) := by decide +kernel
theorem dX8_isAhead_19 : decode cX8_isAhead 19 = .ok (.iload_n 3, 1) := by decide +kernel
theorem dX8_isAhead_20 : decode cX8_isAhead 20 = .ok (.iload 4, 2) := by decide +kernel
theorem dX8_isAhead_22 : decode cX8_isAhead 22 = .ok (.if_icmp .ge 7, 3) := by decide +kernel
end
section
theorem dX8_isAhead_25 : decode cX8_isAhead 25 = .ok (.iconst 1, 1) := by decide +kernel
theorem dX8_isAhead_26 : decode cX8_isAhead 26 = .ok (.goto 17, 3) := by decide +kernel
theorem dX8_isAhead_29 : decode cX8_isAhead 29 = .ok (.iconst 0, 1) := by decide +kernel
theorem dX8_isAhead_30 : decode cX8_isAhead 30 = .ok (.goto 13, 3) := by decide +kernel
theorem dX8_isAhead_33 : decode cX8_isAhead 33 = .ok (.iload_n 1, 1) := by decide +kernel
theorem dX8_isAhead_34 : decode cX8_isAhead 34 = .ok (.iload_n 2, 1) := by decide +kernel
theorem dX8_isAhead_35 : decode cX8_isAhead 35 = .ok (.if_icmp .ge 7, 3) := by decide +kernel
theorem dX8_isAhead_38 : decode cX8_isAhead 38 = .ok (.iconst 1, 1) := by decide +kernel
theorem dX8_isAhead_39 : decode cX8_isAhead 39 = .ok (.goto 4, 3) := by decide +kernel
theorem dX8_isAhead_42 : decode cX8_isAhead 42 = .ok (.iconst 0, 1) := by decide +kernel
theorem dX8_isAhead_43 : decode cX8_isAhead 43 = .ok (.ireturn, 1) := by decide +kernel
theorem dX8_sort_0 : decode cX8_sort 0 = .ok (.iconst 0, 1) := by decide +kernel
theorem dX8_sort_1 : decode cX8_sort 1 = .ok (.istore_n 3, 1) := by decide +kernel
theorem dX8_sort_2 : decode cX8_sort 2 = .ok (.iload_n 3, 1) := by decide +kernel
theorem dX8_sort_3 : decode cX8_sort 3 = .ok (.aload_n 0, 1) := by decide +kernel
theorem dX8_sort_4 : decode cX8_sort 4 = .ok (.getfield 13, 3) := by decide +kernel
theorem dX8_sort_7 : decode cX8_sort 7 = .ok (.iload_n 1, 1) := by decide +kernel
theorem dX8_sort_8 : decode cX8_sort 8 = .ok (.iaload, 1) := by decide +kernel
theorem dX8_sort_9 : decode cX8_sort 9 = .ok (.if_icmp .ge 67, 3) := by decide +kernel
theorem dX8_sort_12 : decode cX8_sort 12 = .ok (.aload_n 0, 1) := by decide +kernel
theorem dX8_sort_13 : decode cX8_sort 13 = .ok (.getfield 17, 3) := by decide +kernel
theorem dX8_sort_16 : decode cX8_sort 16 = .ok (.bipush 30, 2) := by decide +kernel
theorem dX8_sort_18 : decode cX8_sort 18 = .ok (.iload_n 1, 1) := by decide +kernel
theorem dX8_sort_19 : decode cX8_sort 19 = .ok (.imul, 1) := by decide +kernel
theorem dX8_sort_20 : decode cX8_sort 20 = .ok (.iload_n 3, 1) := by decide +kernel
theorem dX8_sort_21 : decode cX8_sort 21 = .ok (.iadd, 1) := by decide +kernel
theorem dX8_sort_22 : decode cX8_sort 22 = .ok (.iaload, 1) := by decide +kernel
theorem dX8_sort_23 : decode cX8_sort 23 = .ok (.istore 4, 2) := by decide +kernel
theorem dX8_sort_25 : decode cX8_sort 25 = .ok (.iload_n 3, 1) := by decide +kernel
theorem dX8_sort_26 : decode cX8_sort 26 = .ok (.istore 5, 2) := by decide +kernel
theorem dX8_sort_28 : decode cX8_sort 28 = .ok (.iload 5, 2) := by decide +kernel
theorem dX8_sort_30 : decode cX8_sort 30 = .ok (.ifCond .le 34, 3) := by decide +kernel
theorem dX8_sort_33 : decode cX8_sort 33 = .ok (.aload_n 0, 1) := by decide +kernel
theorem dX8_sort_34 : decode cX8_sort 34 = .ok (.iload 4, 2) := by decide +kernel
theorem dX8_sort_36 : decode cX8_sort 36 = .ok (.aload_n 2, 1) := by decide +kernel
theorem dX8_sort_37 : decode cX8_sort 37 = .ok (.iload 5, 2) := by decide +kernel
theorem dX8_sort_39 : decode cX8_sort 39 = .ok (.iconst 1, 1) := by decide +kernel
theorem dX8_sort_40 : decode cX8_sort 40 = .ok (.isub, 1) := by decide +kernel
theorem dX8_sort_41 : decode cX8_sort 41 = .ok (.iaload, 1) := by decide +kernel
theorem dX8_sort_42 : decode cX8_sort 42 = .ok (.invokevirtual 110, 3) := by decide +kernel
theorem dX8_sort_45 : decode cX8_sort 45 = .ok (.ifCond .eq 19, 3) := by decide +kernel
theorem dX8_sort_48 : decode cX8_sort 48 = .ok (.aload_n 2, 1) := by decide +kernel
theorem dX8_sort_49 : decode cX8_sort 49 = .ok (.iload 5, 2) := by decide +kernel
theorem dX8_sort_51 : decode cX8_sort 51 = .ok (.aload_n 2, 1) := by decide +kernel
theorem dX8_sort_52 : decode cX8_sort 52 = .ok (.iload 5, 2) := by decide +kernel
theorem dX8_sort_54 : decode cX8_sort 54 = .ok (.iconst 1, 1) := by decide +kernel
theorem dX8_sort_55 : decode cX8_sort 55 = .ok (.isub, 1) := by decide +kernel
theorem dX8_sort_56 : decode cX8_sort 56 = .ok (.iaload, 1) := by decide +kernel
theorem dX8_sort_57 : decode cX8_sort 57 = .ok (.iastore, 1) := by decide +kernel
theorem dX8_sort_58 : decode cX8_sort 58 = .ok (.iinc 5 (-1), 3) := by decide +kernel
theorem dX8_sort_61 : decode cX8_sort 61 = .ok (.goto (-33), 3) := by decide +kernel
theorem dX8_sort_64 : decode cX8_sort 64 = .ok (.aload_n 2, 1) := by decide +kernel
theorem dX8_sort_65 : decode cX8_sort 65 = .ok (.iload 5, 2) := by decide +kernel
theorem dX8_sort_67 : decode cX8_sort 67 = .ok (.iload 4, 2) := by decide +kernel
theorem dX8_sort_69 : decode cX8_sort 69 = .ok (.iastore, 1) := by decide +kernel
theorem dX8_sort_70 : decode cX8_sort 70 = .ok (.iinc 3 1, 3) := by decide +kernel
theorem dX8_sort_73 : decode cX8_sort 73 = .ok (.goto (-71), 3) := by decide +kernel
theorem dX8_sort_76 : decode cX8_sort 76 = .ok (.return_, 1) := by decide +kernel
theorem dX8_amount_0 : decode cX8_amount 0 = .ok (.iconst 0, 1) := by decide +kernel
theorem dX8_amount_1 : decode cX8_amount 1 = .ok (.istore 4, 2) := by decide +kernel
theorem dX8_amount_3 : decode cX8_amount 3 = .ok (.iload_n 2, 1) := by decide +kernel
theorem dX8_amount_4 : decode cX8_amount 4 = .ok (.istore 5, 2) := by decide +kernel
theorem dX8_amount_6 : decode cX8_amount 6 = .ok (.iload 5, 2) := by decide +kernel
theorem dX8_amount_8 : decode cX8_amount 8 = .ok (.iload_n 3, 1) := by decide +kernel
theorem dX8_amount_9 : decode cX8_amount 9 = .ok (.if_icmp .ge 22, 3) := by decide +kernel
theorem dX8_amount_12 : decode cX8_amount 12 = .ok (.iload 4, 2) := by decide +kernel
theorem dX8_amount_14 : decode cX8_amount 14 = .ok (.aload_n 0, 1) := by decide +kernel
theorem dX8_amount_15 : decode cX8_amount 15 = .ok (.aload_n 1, 1) := by decide +kernel
theorem dX8_amount_16 : decode cX8_amount 16 = .ok (.iload 5, 2) := by decide +kernel
theorem dX8_amount_18 : decode cX8_amount 18 = .ok (.iaload, 1) := by decide +kernel
theorem dX8_amount_19 : decode cX8_amount 19 = .ok (.invokevirtual 114, 3) := by decide +kernel
theorem dX8_amount_22 : decode cX8_amount 22 = .ok (.iadd, 1) := by decide +kernel
theorem dX8_amount_23 : decode cX8_amount 23 = .ok (.istore 4, 2) := by decide +kernel
theorem dX8_amount_25 : decode cX8_amount 25 = .ok (.iinc 5 1, 3) := by decide +kernel
theorem dX8_amount_28 : decode cX8_amount 28 = .ok (.goto (-22), 3) := by decide +kernel
theorem dX8_amount_31 : decode cX8_amount 31 = .ok (.iload 4, 2) := by decide +kernel
theorem dX8_amount_33 : decode cX8_amount 33 = .ok (.ireturn, 1) := by decide +kernel
theorem dX8_amountOf_0 : decode cX8_amountOf 0 = .ok (.iconst 0, 1) := by decide +kernel
theorem dX8_amountOf_1 : decode cX8_amountOf 1 = .ok (.istore_n 2, 1) := by decide +kernel
theorem dX8_amountOf_2 : decode cX8_amountOf 2 = .ok (.iconst 0, 1) := by decide +kernel
theorem dX8_amountOf_3 : decode cX8_amountOf 3 = .ok (.istore_n 3, 1) := by decide +kernel
theorem dX8_amountOf_4 : decode cX8_amountOf 4 = .ok (.iload_n 3, 1) := by decide +kernel
theorem dX8_amountOf_5 : decode cX8_amountOf 5 = .ok (.aload_n 0, 1) := by decide +kernel
theorem dX8_amountOf_6 : decode cX8_amountOf 6 = .ok (.getfield 13, 3) := by decide +kernel
theorem dX8_amountOf_9 : decode cX8_amountOf 9 = .ok (.iload_n 1, 1) := by decide +kernel
theorem dX8_amountOf_10 : decode cX8_amountOf 10 = .ok (.iaload, 1) := by decide +kernel
theorem dX8_amountOf_11 : decode cX8_amountOf 11 = .ok (.if_icmp .ge 27, 3) := by decide +kernel
theorem dX8_amountOf_14 : decode cX8_amountOf 14 = .ok (.iload_n 2, 1) := by decide +kernel
theorem dX8_amountOf_15 : decode cX8_amountOf 15 = .ok (.aload_n 0, 1) := by decide +kernel
theorem dX8_amountOf_16 : decode cX8_amountOf 16 = .ok (.aload_n 0, 1) := by decide +kernel
theorem dX8_amountOf_17 : decode cX8_amountOf 17 = .ok (.getfield 17, 3) := by decide +kernel
theorem dX8_amountOf_20 : decode cX8_amountOf 20 = .ok (.bipush 30, 2) := by decide +kernel
theorem dX8_amountOf_22 : decode cX8_amountOf 22 = .ok (.iload_n 1, 1) := by decide +kernel
theorem dX8_amountOf_23 : decode cX8_amountOf 23 = .ok (.imul, 1) := by decide +kernel
theorem dX8_amountOf_24 : decode cX8_amountOf 24 = .ok (.iload_n 3, 1) := by decide +kernel
theorem dX8_amountOf_25 : decode cX8_amountOf 25 = .ok (.iadd, 1) := by decide +kernel
theorem dX8_amountOf_26 : decode cX8_amountOf 26 = .ok (.iaload, 1) := by decide +kernel
theorem dX8_amountOf_27 : decode cX8_amountOf 27 = .ok (.invokevirtual 114, 3) := by decide +kernel
theorem dX8_amountOf_30 : decode cX8_amountOf 30 = .ok (.iadd, 1) := by decide +kernel
theorem dX8_amountOf_31 : decode cX8_amountOf 31 = .ok (.istore_n 2, 1) := by decide +kernel
theorem dX8_amountOf_32 : decode cX8_amountOf 32 = .ok (.iinc 3 1, 3) := by decide +kernel
theorem dX8_amountOf_35 : decode cX8_amountOf 35 = .ok (.goto (-31), 3) := by decide +kernel
theorem dX8_amountOf_38 : decode cX8_amountOf 38 = .ok (.iload_n 2, 1) := by decide +kernel
theorem dX8_amountOf_39 : decode cX8_amountOf 39 = .ok (.ireturn, 1) := by decide +kernel
theorem dX8_shared_0 : decode cX8_shared 0 = .ok (.iconst 0, 1) := by decide +kernel
theorem dX8_shared_1 : decode cX8_shared 1 = .ok (.istore_n 3, 1) := by decide +kernel
theorem dX8_shared_2 : decode cX8_shared 2 = .ok (.iconst 0, 1) := by decide +kernel
theorem dX8_shared_3 : decode cX8_shared 3 = .ok (.istore 4, 2) := by decide +kernel
theorem dX8_shared_5 : decode cX8_shared 5 = .ok (.iload 4, 2) := by decide +kernel
theorem dX8_shared_7 : decode cX8_shared 7 = .ok (.aload_n 0, 1) := by decide +kernel
theorem dX8_shared_8 : decode cX8_shared 8 = .ok (.getfield 13, 3) := by decide +kernel
theorem dX8_shared_11 : decode cX8_shared 11 = .ok (.iload_n 1, 1) := by decide +kernel
theorem dX8_shared_12 : decode cX8_shared 12 = .ok (.iaload, 1) := by decide +kernel
theorem dX8_shared_13 : decode cX8_shared 13 = .ok (.if_icmp .ge 49, 3) := by decide +kernel
theorem dX8_shared_16 : decode cX8_shared 16 = .ok (.aload_n 0, 1) := by decide +kernel
theorem dX8_shared_17 : decode cX8_shared 17 = .ok (.iload_n 2, 1) := by decide +kernel
theorem dX8_shared_18 : decode cX8_shared 18 = .ok (.aload_n 0, 1) := by decide +kernel
theorem dX8_shared_19 : decode cX8_shared 19 = .ok (.getfield 17, 3) := by decide +kernel
theorem dX8_shared_22 : decode cX8_shared 22 = .ok (.bipush 30, 2) := by decide +kernel
theorem dX8_shared_24 : decode cX8_shared 24 = .ok (.iload_n 1, 1) := by decide +kernel
theorem dX8_shared_25 : decode cX8_shared 25 = .ok (.imul, 1) := by decide +kernel
theorem dX8_shared_26 : decode cX8_shared 26 = .ok (.iload 4, 2) := by decide +kernel
theorem dX8_shared_28 : decode cX8_shared 28 = .ok (.iadd, 1) := by decide +kernel
theorem dX8_shared_29 : decode cX8_shared 29 = .ok (.iaload, 1) := by decide +kernel
theorem dX8_shared_30 : decode cX8_shared 30 = .ok (.invokevirtual 93, 3) := by decide +kernel
theorem dX8_shared_33 : decode cX8_shared 33 = .ok (.iconst (-1), 1) := by decide +kernel
theorem dX8_shared_34 : decode cX8_shared 34 = .ok (.if_icmp .eq 22, 3) := by decide +kernel
theorem dX8_shared_37 : decode cX8_shared 37 = .ok (.iload_n 3, 1) := by decide +kernel
theorem dX8_shared_38 : decode cX8_shared 38 = .ok (.aload_n 0, 1) := by decide +kernel
theorem dX8_shared_39 : decode cX8_shared 39 = .ok (.aload_n 0, 1) := by decide +kernel
theorem dX8_shared_40 : decode cX8_shared 40 = .ok (.getfield 17, 3) := by decide +kernel
theorem dX8_shared_43 : decode cX8_shared 43 = .ok (.bipush 30, 2) := by decide +kernel
theorem dX8_shared_45 : decode cX8_shared 45 = .ok (.iload_n 1, 1) := by decide +kernel
theorem dX8_shared_46 : decode cX8_shared 46 = .ok (.imul, 1) := by decide +kernel
theorem dX8_shared_47 : decode cX8_shared 47 = .ok (.iload 4, 2) := by decide +kernel
theorem dX8_shared_49 : decode cX8_shared 49 = .ok (.iadd, 1) := by decide +kernel
theorem dX8_shared_50 : decode cX8_shared 50 = .ok (.iaload, 1) := by decide +kernel
theorem dX8_shared_51 : decode cX8_shared 51 = .ok (.invokevirtual 114, 3) := by decide +kernel
theorem dX8_shared_54 : decode cX8_shared 54 = .ok (.iadd, 1) := by decide +kernel
theorem dX8_shared_55 : decode cX8_shared 55 = .ok (.istore_n 3, 1) := by decide +kernel
theorem dX8_shared_56 : decode cX8_shared 56 = .ok (.iinc 4 1, 3) := by decide +kernel
theorem dX8_shared_59 : decode cX8_shared 59 = .ok (.goto (-54), 3) := by decide +kernel
theorem dX8_shared_62 : decode cX8_shared 62 = .ok (.iload_n 3, 1) := by decide +kernel
theorem dX8_shared_63 : decode cX8_shared 63 = .ok (.ireturn, 1) := by decide +kernel
theorem dX8_four_0 : decode cX8_four 0 = .ok (.iconst 3, 1) := by decide +kernel
theorem dX8_four_1 : decode cX8_four 1 = .ok (.istore_n 2, 1) := by decide +kernel
theorem dX8_four_2 : decode cX8_four 2 = .ok (.iload_n 2, 1) := by decide +kernel
theorem dX8_four_3 : decode cX8_four 3 = .ok (.ifCond .lt 38, 3) := by decide +kernel
theorem dX8_four_6 : decode cX8_four 6 = .ok (.aload_n 0, 1) := by decide +kernel
theorem dX8_four_7 : decode cX8_four 7 = .ok (.getfield 48, 3) := by decide +kernel
theorem dX8_four_10 : decode cX8_four 10 = .ok (.aload_n 0, 1) := by decide +kernel
theorem dX8_four_11 : decode cX8_four 11 = .ok (.getfield 117, 3) := by decide +kernel
theorem dX8_four_14 : decode cX8_four 14 = .ok (.iload_n 1, 1) := by decide +kernel
theorem dX8_four_15 : decode cX8_four 15 = .ok (.bipush 8, 2) := by decide +kernel
theorem dX8_four_17 : decode cX8_four 17 = .ok (.iload_n 2, 1) := by decide +kernel
theorem dX8_four_18 : decode cX8_four 18 = .ok (.imul, 1) := by decide +kernel
theorem dX8_four_19 : decode cX8_four 19 = .ok (.ishr, 1) := by decide +kernel
theorem dX8_four_20 : decode cX8_four 20 = .ok (.sipush 255, 3) := by decide +kernel
theorem dX8_four_23 : decode cX8_four 23 = .ok (.iand, 1) := by decide +kernel
theorem dX8_four_24 : decode cX8_four 24 = .ok (.iastore, 1) := by decide +kernel
theorem dX8_four_25 : decode cX8_four 25 = .ok (.aload_n 0, 1) := by decide +kernel
theorem dX8_four_26 : decode cX8_four 26 = .ok (.dup, 1) := by decide +kernel
theorem dX8_four_27 : decode cX8_four 27 = .ok (.getfield 117, 3) := by decide +kernel
theorem dX8_four_30 : decode cX8_four 30 = .ok (.iconst 1, 1) := by decide +kernel
theorem dX8_four_31 : decode cX8_four 31 = .ok (.iadd, 1) := by decide +kernel
theorem dX8_four_32 : decode cX8_four 32 = .ok (.putfield 117, 3) := by decide +kernel
theorem dX8_four_35 : decode cX8_four 35 = .ok (.iinc 2 (-1), 3) := by decide +kernel
theorem dX8_four_38 : decode cX8_four 38 = .ok (.goto (-36), 3) := by decide +kernel
theorem dX8_four_41 : decode cX8_four 41 = .ok (.return_, 1) := by decide +kernel
theorem dX8_feed_0 : decode cX8_feed 0 = .ok (.aload_n 0, 1) := by decide +kernel
theorem dX8_feed_1 : decode cX8_feed 1 = .ok (.iconst 0, 1) := by decide +kernel
theorem dX8_feed_2 : decode cX8_feed 2 = .ok (.putfield 75, 3) := by decide +kernel
theorem dX8_feed_5 : decode cX8_feed 5 = .ok (.aload_n 0, 1) := by decide +kernel
theorem dX8_feed_6 : decode cX8_feed 6 = .ok (.getfield 117, 3) := by decide +kernel
theorem dX8_feed_9 : decode cX8_feed 9 = .ok (.bipush 20, 2) := by decide +kernel
theorem dX8_feed_11 : decode cX8_feed 11 = .ok (.iadd, 1) := by decide +kernel
theorem dX8_feed_12 : decode cX8_feed 12 = .ok (.bipush 80, 2) := by decide +kernel
theorem dX8_feed_14 : decode cX8_feed 14 = .ok (.if_icmp .le 5, 3) := by decide +kernel
theorem dX8_feed_17 : decode cX8_feed 17 = .ok (.iconst (-1), 1) := by decide +kernel
theorem dX8_feed_18 : decode cX8_feed 18 = .ok (.ireturn, 1) := by decide +kernel
theorem dX8_feed_19 : decode cX8_feed 19 = .ok (.aload_n 0, 1) := by decide +kernel
theorem dX8_feed_20 : decode cX8_feed 20 = .ok (.iload_n 1, 1) := by decide +kernel
theorem dX8_feed_21 : decode cX8_feed 21 = .ok (.invokevirtual 120, 3) := by decide +kernel
theorem dX8_feed_24 : decode cX8_feed 24 = .ok (.aload_n 0, 1) := by decide +kernel
theorem dX8_feed_25 : decode cX8_feed 25 = .ok (.iload_n 2, 1) := by decide +kernel
theorem dX8_feed_26 : decode cX8_feed 26 = .ok (.invokevirtual 120, 3) := by decide +kernel
theorem dX8_feed_29 : decode cX8_feed 29 = .ok (.aload_n 0, 1) := by decide +kernel
theorem dX8_feed_30 : decode cX8_feed 30 = .ok (.iload_n 3, 1) := by decide +kernel
theorem dX8_feed_31 : decode cX8_feed 31 = .ok (.invokevirtual 120, 3) := by decide +kernel
theorem dX8_feed_34 : decode cX8_feed 34 = .ok (.aload_n 0, 1) := by decide +kernel
theorem dX8_feed_35 : decode cX8_feed 35 = .ok (.iload 4, 2) := by decide +kernel
theorem dX8_feed_37 : decode cX8_feed 37 = .ok (.invokevirtual 120, 3) := by decide +kernel
theorem dX8_feed_40 : decode cX8_feed 40 = .ok (.aload_n 0, 1) := by decide +kernel
theorem dX8_feed_41 : decode cX8_feed 41 = .ok (.iload 5, 2) := by decide +kernel
theorem dX8_feed_43 : decode cX8_feed 43 = .ok (.invokevirtual 120, 3) := by decide +kernel
theorem dX8_feed_46 : decode cX8_feed 46 = .ok (.aload_n 0, 1) := by decide +kernel
theorem dX8_feed_47 : decode cX8_feed 47 = .ok (.getfield 117, 3) := by decide +kernel
theorem dX8_feed_50 : decode cX8_feed 50 = .ok (.ireturn, 1) := by decide +kernel
theorem dX8_end_0 : decode cX8_end 0 = .ok (.aload_n 0, 1) := by decide +kernel
theorem dX8_end_1 : decode cX8_end 1 = .ok (.iconst 0, 1) := by decide +kernel
theorem dX8_end_2 : decode cX8_end 2 = .ok (.putfield 75, 3) := by decide +kernel
theorem dX8_end_5 : decode cX8_end 5 = .ok (.iload_n 1, 1) := by decide +kernel
theorem dX8_end_6 : decode cX8_end 6 = .ok (.iconst 0, 1) := by decide +kernel
theorem dX8_end_7 : decode cX8_end 7 = .ok (.aload_n 0, 1) := by decide +kernel
theorem dX8_end_8 : decode cX8_end 8 = .ok (.getfield 117, 3) := by decide +kernel
theorem dX8_end_11 : decode cX8_end 11 = .ok (.invokestatic 81, 3) := by decide +kernel
theorem dX8_end_14 : decode cX8_end 14 = .ok (.ifCond .ne 5, 3) := by decide +kernel
theorem dX8_end_17 : decode cX8_end 17 = .ok (.iconst (-1), 1) := by decide +kernel
theorem dX8_end_18 : decode cX8_end 18 = .ok (.ireturn, 1) := by decide +kernel
theorem dX8_end_19 : decode cX8_end 19 = .ok (.aload_n 0, 1) := by decide +kernel
theorem dX8_end_20 : decode cX8_end 20 = .ok (.iload_n 1, 1) := by decide +kernel
theorem dX8_end_21 : decode cX8_end 21 = .ok (.putfield 117, 3) := by decide +kernel
theorem dX8_end_24 : decode cX8_end 24 = .ok (.iload_n 1, 1) := by decide +kernel
theorem dX8_end_25 : decode cX8_end 25 = .ok (.ireturn, 1) := by decide +kernel
theorem dX8_piece_0 : decode cX8_piece 0 = .ok (.iload_n 2, 1) := by decide +kernel
theorem dX8_piece_1 : decode cX8_piece 1 = .ok (.iconst 1, 1) := by decide +kernel
theorem dX8_piece_2 : decode cX8_piece 2 = .ok (.if_icmp .ne 12, 3) := by decide +kernel
theorem dX8_piece_5 : decode cX8_piece 5 = .ok (.aload_n 0, 1) := by decide +kernel
theorem dX8_piece_6 : decode cX8_piece 6 = .ok (.getfield 48, 3) := by decide +kernel
theorem dX8_piece_9 : decode cX8_piece 9 = .ok (.iload_n 1, 1) := by decide +kernel
theorem dX8_piece_10 : decode cX8_piece 10 = .ok (.iaload, 1) := by decide +kernel
theorem dX8_piece_11 : decode cX8_piece 11 = .ok (.goto 22, 3) := by decide +kernel
theorem dX8_piece_14 : decode cX8_piece 14 = .ok (.sipush 256, 3) := by decide +kernel
theorem dX8_piece_17 : decode cX8_piece 17 = .ok (.aload_n 0, 1) := by decide +kernel
theorem dX8_piece_18 : decode cX8_piece 18 = .ok (.getfield 48, 3) := by decide +kernel
theorem dX8_piece_21 : decode cX8_piece 21 = .ok (.iload_n 1, 1) := by decide +kernel
theorem dX8_piece_22 : decode cX8_piece 22 = .ok (.iaload, 1) := by decide +kernel
theorem dX8_piece_23 : decode cX8_piece 23 = .ok (.imul, 1) := by decide +kernel
theorem dX8_piece_24 : decode cX8_piece 24 = .ok (.aload_n 0, 1) := by decide +kernel
theorem dX8_piece_25 : decode cX8_piece 25 = .ok (.getfield 48, 3) := by decide +kernel
theorem dX8_piece_28 : decode cX8_piece 28 = .ok (.iload_n 1, 1) := by decide +kernel
theorem dX8_piece_29 : decode cX8_piece 29 = .ok (.iconst 1, 1) := by decide +kernel
theorem dX8_piece_30 : decode cX8_piece 30 = .ok (.iadd, 1) := by decide +kernel
theorem dX8_piece_31 : decode cX8_piece 31 = .ok (.iaload, 1) := by decide +kernel
theorem dX8_piece_32 : decode cX8_piece 32 = .ok (.iadd, 1) := by decide +kernel
theorem dX8_piece_33 : decode cX8_piece 33 = .ok (.ireturn, 1) := by decide +kernel
theorem dX8_text_0 : decode cX8_text 0 = .ok (.aload_n 0, 1) := by decide +kernel
theorem dX8_text_1 : decode cX8_text 1 = .ok (.iconst 0, 1) := by decide +kernel
theorem dX8_text_2 : decode cX8_text 2 = .ok (.putfield 75, 3) := by decide +kernel
theorem dX8_text_5 : decode cX8_text 5 = .ok (.aload_n 0, 1) := by decide +kernel
theorem dX8_text_6 : decode cX8_text 6 = .ok (.iload_n 1, 1) := by decide +kernel
theorem dX8_text_7 : decode cX8_text 7 = .ok (.invokevirtual 85, 3) := by decide +kernel
theorem dX8_text_10 : decode cX8_text 10 = .ok (.ifCond .eq 12, 3) := by decide +kernel
theorem dX8_text_13 : decode cX8_text 13 = .ok (.iload_n 2, 1) := by decide +kernel
theorem dX8_text_14 : decode cX8_text 14 = .ok (.iconst 1, 1) := by decide +kernel
theorem dX8_text_15 : decode cX8_text 15 = .ok (.iconst 2, 1) := by decide +kernel
theorem dX8_text_16 : decode cX8_text 16 = .ok (.invokestatic 81, 3) := by decide +kernel
theorem dX8_text_19 : decode cX8_text 19 = .ok (.ifCond .ne 5, 3) := by decide +kernel
theorem dX8_text_22 : decode cX8_text 22 = .ok (.iconst (-1), 1) := by decide +kernel
theorem dX8_text_23 : decode cX8_text 23 = .ok (.ireturn, 1) := by decide +kernel
theorem dX8_text_24 : decode cX8_text 24 = .ok (.iconst 0, 1) := by decide +kernel
theorem dX8_text_25 : decode cX8_text 25 = .ok (.istore_n 3, 1) := by decide +kernel
theorem dX8_text_26 : decode cX8_text 26 = .ok (.iconst 0, 1) := by decide +kernel
theorem dX8_text_27 : decode cX8_text 27 = .ok (.istore 4, 2) := by decide +kernel
theorem dX8_text_29 : decode cX8_text 29 = .ok (.iload 4, 2) := by decide +kernel
theorem dX8_text_31 : decode cX8_text 31 = .ok (.iconst 2, 1) := by decide +kernel
theorem dX8_text_32 : decode cX8_text 32 = .ok (.if_icmp .ge 128, 3) := by decide +kernel
theorem dX8_text_35 : decode cX8_text 35 = .ok (.iconst 0, 1) := by decide +kernel
theorem dX8_text_36 : decode cX8_text 36 = .ok (.istore_n 3, 1) := by decide +kernel
theorem dX8_text_37 : decode cX8_text 37 = .ok (.iconst 0, 1) := by decide +kernel
theorem dX8_text_38 : decode cX8_text 38 = .ok (.istore 5, 2) := by decide +kernel
theorem dX8_text_40 : decode cX8_text 40 = .ok (.iload 5, 2) := by decide +kernel
theorem dX8_text_42 : decode cX8_text 42 = .ok (.iload_n 2, 1) := by decide +kernel
theorem dX8_text_43 : decode cX8_text 43 = .ok (.iadd, 1) := by decide +kernel
theorem dX8_text_44 : decode cX8_text 44 = .ok (.aload_n 0, 1) := by decide +kernel
theorem dX8_text_45 : decode cX8_text 45 = .ok (.getfield 117, 3) := by decide +kernel
theorem dX8_text_48 : decode cX8_text 48 = .ok (.if_icmp .gt 98, 3) := by decide +kernel
theorem dX8_text_51 : decode cX8_text 51 = .ok (.iconst 0, 1) := by decide +kernel
theorem dX8_text_52 : decode cX8_text 52 = .ok (.istore 6, 2) := by decide +kernel
theorem dX8_text_54 : decode cX8_text 54 = .ok (.iconst 0, 1) := by decide +kernel
theorem dX8_text_55 : decode cX8_text 55 = .ok (.istore 7, 2) := by decide +kernel
theorem dX8_text_57 : decode cX8_text 57 = .ok (.iload 7, 2) := by decide +kernel
theorem dX8_text_59 : decode cX8_text 59 = .ok (.iload 5, 2) := by decide +kernel
theorem dX8_text_61 : decode cX8_text 61 = .ok (.if_icmp .ge 36, 3) := by decide +kernel
theorem dX8_text_64 : decode cX8_text 64 = .ok (.iload 6, 2) := by decide +kernel
theorem dX8_text_66 : decode cX8_text 66 = .ok (.aload_n 0, 1) := by decide +kernel
theorem dX8_text_67 : decode cX8_text 67 = .ok (.iload 7, 2) := by decide +kernel
theorem dX8_text_69 : decode cX8_text 69 = .ok (.iload_n 2, 1) := by decide +kernel
theorem dX8_text_70 : decode cX8_text 70 = .ok (.invokevirtual 124, 3) := by decide +kernel
theorem dX8_text_73 : decode cX8_text 73 = .ok (.aload_n 0, 1) := by decide +kernel
theorem dX8_text_74 : decode cX8_text 74 = .ok (.iload 5, 2) := by decide +kernel
theorem dX8_text_76 : decode cX8_text 76 = .ok (.iload_n 2, 1) := by decide +kernel
theorem dX8_text_77 : decode cX8_text 77 = .ok (.invokevirtual 124, 3) := by decide +kernel
theorem dX8_text_80 : decode cX8_text 80 = .ok (.if_icmp .ne 7, 3) := by decide +kernel
theorem dX8_text_83 : decode cX8_text 83 = .ok (.iconst 1, 1) := by decide +kernel
theorem dX8_text_84 : decode cX8_text 84 = .ok (.goto 4, 3) := by decide +kernel
theorem dX8_text_87 : decode cX8_text 87 = .ok (.iconst 0, 1) := by decide +kernel
theorem dX8_text_88 : decode cX8_text 88 = .ok (.iadd, 1) := by decide +kernel
theorem dX8_text_89 : decode cX8_text 89 = .ok (.istore 6, 2) := by decide +kernel
theorem dX8_text_91 : decode cX8_text 91 = .ok (.iinc 7 1, 3) := by decide +kernel
theorem dX8_text_94 : decode cX8_text 94 = .ok (.goto (-37), 3) := by decide +kernel
theorem dX8_text_97 : decode cX8_text 97 = .ok (.iload 6, 2) := by decide +kernel
theorem dX8_text_99 : decode cX8_text 99 = .ok (.bipush 8, 2) := by decide +kernel
theorem dX8_text_101 : decode cX8_text 101 = .ok (.if_icmp .lt 6, 3) := by decide +kernel
theorem dX8_text_104 : decode cX8_text 104 = .ok (.goto 36, 3) := by decide +kernel
theorem dX8_text_107 : decode cX8_text 107 = .ok (.iload 4, 2) := by decide +kernel
theorem dX8_text_109 : decode cX8_text 109 = .ok (.iconst 1, 1) := by decide +kernel
theorem dX8_text_110 : decode cX8_text 110 = .ok (.if_icmp .ne 27, 3) := by decide +kernel
theorem dX8_text_113 : decode cX8_text 113 = .ok (.aload_n 0, 1) := by decide +kernel
theorem dX8_text_114 : decode cX8_text 114 = .ok (.getfield 17, 3) := by decide +kernel
theorem dX8_text_117 : decode cX8_text 117 = .ok (.bipush 30, 2) := by decide +kernel
theorem dX8_text_119 : decode cX8_text 119 = .ok (.iload_n 1, 1) := by decide +kernel
theorem dX8_text_120 : decode cX8_text 120 = .ok (.imul, 1) := by decide +kernel
theorem dX8_text_121 : decode cX8_text 121 = .ok (.iload_n 3, 1) := by decide +kernel
theorem dX8_text_122 : decode cX8_text 122 = .ok (.iadd, 1) := by decide +kernel
theorem dX8_text_123 : decode cX8_text 123 = .ok (.bipush 8, 2) := by decide +kernel
theorem dX8_text_125 : decode cX8_text 125 = .ok (.aload_n 0, 1) := by decide +kernel
theorem dX8_text_126 : decode cX8_text 126 = .ok (.iload 5, 2) := by decide +kernel
theorem dX8_text_128 : decode cX8_text 128 = .ok (.iload_n 2, 1) := by decide +kernel
theorem dX8_text_129 : decode cX8_text 129 = .ok (.invokevirtual 124, 3) := by decide +kernel
theorem dX8_text_132 : decode cX8_text 132 = .ok (.imul, 1) := by decide +kernel
theorem dX8_text_133 : decode cX8_text 133 = .ok (.iload 6, 2) := by decide +kernel
theorem dX8_text_135 : decode cX8_text 135 = .ok (.iadd, 1) := by decide +kernel
theorem dX8_text_136 : decode cX8_text 136 = .ok (.iastore, 1) := by decide +kernel
theorem dX8_text_137 : decode cX8_text 137 = .ok (.iinc 3 1, 3) := by decide +kernel
theorem dX8_text_140 : decode cX8_text 140 = .ok (.iinc 5 1, 3) := by decide +kernel
theorem dX8_text_143 : decode cX8_text 143 = .ok (.goto (-103), 3) := by decide +kernel
theorem dX8_text_146 : decode cX8_text 146 = .ok (.iload_n 3, 1) := by decide +kernel
theorem dX8_text_147 : decode cX8_text 147 = .ok (.bipush 30, 2) := by decide +kernel
theorem dX8_text_149 : decode cX8_text 149 = .ok (.if_icmp .le 5, 3) := by decide +kernel
theorem dX8_text_152 : decode cX8_text 152 = .ok (.iconst (-1), 1) := by decide +kernel
theorem dX8_text_153 : decode cX8_text 153 = .ok (.ireturn, 1) := by decide +kernel
theorem dX8_text_154 : decode cX8_text 154 = .ok (.iinc 4 1, 3) := by decide +kernel
theorem dX8_text_157 : decode cX8_text 157 = .ok (.goto (-128), 3) := by decide +kernel
theorem dX8_text_160 : decode cX8_text 160 = .ok (.aload_n 0, 1) := by decide +kernel
theorem dX8_text_161 : decode cX8_text 161 = .ok (.getfield 13, 3) := by decide +kernel
theorem dX8_text_164 : decode cX8_text 164 = .ok (.iload_n 1, 1) := by decide +kernel
theorem dX8_text_165 : decode cX8_text 165 = .ok (.iload_n 3, 1) := by decide +kernel
theorem dX8_text_166 : decode cX8_text 166 = .ok (.iastore, 1) := by decide +kernel
theorem dX8_text_167 : decode cX8_text 167 = .ok (.aload_n 0, 1) := by decide +kernel
theorem dX8_text_168 : decode cX8_text 168 = .ok (.iconst 0, 1) := by decide +kernel
theorem dX8_text_169 : decode cX8_text 169 = .ok (.putfield 117, 3) := by decide +kernel
theorem dX8_text_172 : decode cX8_text 172 = .ok (.iload_n 3, 1) := by decide +kernel
theorem dX8_text_173 : decode cX8_text 173 = .ok (.ireturn, 1) := by decide +kernel
theorem dX8_measure_0 : decode cX8_measure 0 = .ok (.aload_n 0, 1) := by decide +kernel
theorem dX8_measure_1 : decode cX8_measure 1 = .ok (.iconst 0, 1) := by decide +kernel
theorem dX8_measure_2 : decode cX8_measure 2 = .ok (.putfield 75, 3) := by decide +kernel
theorem dX8_measure_5 : decode cX8_measure 5 = .ok (.iload_n 1, 1) := by decide +kernel
theorem dX8_measure_6 : decode cX8_measure 6 = .ok (.ifCond .ne 27, 3) := by decide +kernel
theorem dX8_measure_9 : decode cX8_measure 9 = .ok (.iload_n 2, 1) := by decide +kernel
theorem dX8_measure_10 : decode cX8_measure 10 = .ok (.iconst 1, 1) := by decide +kernel
theorem dX8_measure_11 : decode cX8_measure 11 = .ok (.sipush 3000, 3) := by decide +kernel
theorem dX8_measure_14 : decode cX8_measure 14 = .ok (.invokestatic 81, 3) := by decide +kernel
theorem dX8_measure_17 : decode cX8_measure 17 = .ok (.ifCond .eq 12, 3) := by decide +kernel
theorem dX8_measure_20 : decode cX8_measure 20 = .ok (.iload_n 3, 1) := by decide +kernel
theorem dX8_measure_21 : decode cX8_measure 21 = .ok (.iconst 1, 1) := by decide +kernel
theorem dX8_measure_22 : decode cX8_measure 22 = .ok (.if_icmp .ne 7, 3) := by decide +kernel
theorem dX8_measure_25 : decode cX8_measure 25 = .ok (.iconst 1, 1) := by decide +kernel
theorem dX8_measure_26 : decode cX8_measure 26 = .ok (.goto 48, 3) := by decide +kernel
theorem dX8_measure_29 : decode cX8_measure 29 = .ok (.iconst 0, 1) := by decide +kernel
theorem dX8_measure_30 : decode cX8_measure 30 = .ok (.goto 44, 3) := by decide +kernel
theorem dX8_measure_33 : decode cX8_measure 33 = .ok (.iload_n 1, 1) := by decide +kernel
theorem dX8_measure_34 : decode cX8_measure 34 = .ok (.iconst 1, 1) := by decide +kernel
theorem dX8_measure_35 : decode cX8_measure 35 = .ok (.iconst 5, 1) := by decide +kernel
theorem dX8_measure_36 : decode cX8_measure 36 = .ok (.invokestatic 81, 3) := by decide +kernel
theorem dX8_measure_39 : decode cX8_measure 39 = .ok (.ifCond .eq 34, 3) := by decide +kernel
theorem dX8_measure_42 : decode cX8_measure 42 = .ok (.iload_n 2, 1) := by decide +kernel
theorem dX8_measure_43 : decode cX8_measure 43 = .ok (.iconst 1, 1) := by decide +kernel
theorem dX8_measure_44 : decode cX8_measure 44 = .ok (.sipush 1000, 3) := by decide +kernel
theorem dX8_measure_47 : decode cX8_measure 47 = .ok (.invokestatic 81, 3) := by decide +kernel
theorem dX8_measure_50 : decode cX8_measure 50 = .ok (.ifCond .eq 23, 3) := by decide +kernel
theorem dX8_measure_53 : decode cX8_measure 53 = .ok (.iload_n 3, 1) := by decide +kernel
theorem dX8_measure_54 : decode cX8_measure 54 = .ok (.iconst 1, 1) := by decide +kernel
theorem dX8_measure_55 : decode cX8_measure 55 = .ok (.sipush 1000, 3) := by decide +kernel
theorem dX8_measure_58 : decode cX8_measure 58 = .ok (.invokestatic 81, 3) := by decide +kernel
theorem dX8_measure_61 : decode cX8_measure 61 = .ok (.ifCond .eq 12, 3) := by decide +kernel
theorem dX8_measure_64 : decode cX8_measure 64 = .ok (.iload_n 2, 1) := by decide +kernel
theorem dX8_measure_65 : decode cX8_measure 65 = .ok (.iload_n 3, 1) := by decide +kernel
theorem dX8_measure_66 : decode cX8_measure 66 = .ok (.if_icmp .gt 7, 3) := by decide +kernel
theorem dX8_measure_69 : decode cX8_measure 69 = .ok (.iconst 1, 1) := by decide +kernel
theorem dX8_measure_70 : decode cX8_measure 70 = .ok (.goto 4, 3) := by decide +kernel
theorem dX8_measure_73 : decode cX8_measure 73 = .ok (.iconst 0, 1) := by decide +kernel
theorem dX8_measure_74 : decode cX8_measure 74 = .ok (.istore 4, 2) := by decide +kernel
theorem dX8_measure_76 : decode cX8_measure 76 = .ok (.iload 4, 2) := by decide +kernel
theorem dX8_measure_78 : decode cX8_measure 78 = .ok (.ifCond .ne 5, 3) := by decide +kernel
theorem dX8_measure_81 : decode cX8_measure 81 = .ok (.iconst 0, 1) := by decide +kernel
theorem dX8_measure_82 : decode cX8_measure 82 = .ok (.ireturn, 1) := by decide +kernel
theorem dX8_measure_83 : decode cX8_measure 83 = .ok (.aload_n 0, 1) := by decide +kernel
theorem dX8_measure_84 : decode cX8_measure 84 = .ok (.iload_n 1, 1) := by decide +kernel
theorem dX8_measure_85 : decode cX8_measure 85 = .ok (.putfield 32, 3) := by decide +kernel
theorem dX8_measure_88 : decode cX8_measure 88 = .ok (.aload_n 0, 1) := by decide +kernel
theorem dX8_measure_89 : decode cX8_measure 89 = .ok (.iload_n 2, 1) := by decide +kernel
theorem dX8_measure_90 : decode cX8_measure 90 = .ok (.putfield 36, 3) := by decide +kernel
theorem dX8_measure_93 : decode cX8_measure 93 = .ok (.aload_n 0, 1) := by decide +kernel
theorem dX8_measure_94 : decode cX8_measure 94 = .ok (.iload_n 3, 1) := by decide +kernel
theorem dX8_measure_95 : decode cX8_measure 95 = .ok (.putfield 39, 3) := by decide +kernel
theorem dX8_measure_98 : decode cX8_measure 98 = .ok (.iconst 1, 1) := by decide +kernel
theorem dX8_measure_99 : decode cX8_measure 99 = .ok (.ireturn, 1) := by decide +kernel
theorem dX8_order_0 : decode cX8_order 0 = .ok (.aload_n 0, 1) := by decide +kernel
theorem dX8_order_1 : decode cX8_order 1 = .ok (.iconst 0, 1) := by decide +kernel
theorem dX8_order_2 : decode cX8_order 2 = .ok (.putfield 75, 3) := by decide +kernel
theorem dX8_order_5 : decode cX8_order 5 = .ok (.aload_n 0, 1) := by decide +kernel
theorem dX8_order_6 : decode cX8_order 6 = .ok (.iconst 0, 1) := by decide +kernel
theorem dX8_order_7 : decode cX8_order 7 = .ok (.putfield 103, 3) := by decide +kernel
theorem dX8_order_10 : decode cX8_order 10 = .ok (.iconst 0, 1) := by decide +kernel
theorem dX8_order_11 : decode cX8_order 11 = .ok (.istore_n 1, 1) := by decide +kernel
theorem dX8_order_12 : decode cX8_order 12 = .ok (.iload_n 1, 1) := by decide +kernel
theorem dX8_order_13 : decode cX8_order 13 = .ok (.aload_n 0, 1) := by decide +kernel
theorem dX8_order_14 : decode cX8_order 14 = .ok (.getfield 78, 3) := by decide +kernel
theorem dX8_order_17 : decode cX8_order 17 = .ok (.if_icmp .ge 126, 3) := by decide +kernel
theorem dX8_order_20 : decode cX8_order 20 = .ok (.aload_n 0, 1) := by decide +kernel
theorem dX8_order_21 : decode cX8_order 21 = .ok (.getfield 9, 3) := by decide +kernel
theorem dX8_order_24 : decode cX8_order 24 = .ok (.iload_n 1, 1) := by decide +kernel
theorem dX8_order_25 : decode cX8_order 25 = .ok (.baload, 1) := by decide +kernel
theorem dX8_order_26 : decode cX8_order 26 = .ok (.ifCond .eq 6, 3) := by decide +kernel
theorem dX8_order_29 : decode cX8_order 29 = .ok (.goto 108, 3) := by decide +kernel
theorem dX8_order_32 : decode cX8_order 32 = .ok (.iconst 0, 1) := by decide +kernel
theorem dX8_order_33 : decode cX8_order 33 = .ok (.istore_n 2, 1) := by decide +kernel
theorem dX8_order_34 : decode cX8_order 34 = .ok (.iload_n 2, 1) := by decide +kernel
theorem dX8_order_35 : decode cX8_order 35 = .ok (.aload_n 0, 1) := by decide +kernel
theorem dX8_order_36 : decode cX8_order 36 = .ok (.getfield 13, 3) := by decide +kernel
theorem dX8_order_39 : decode cX8_order 39 = .ok (.iload_n 1, 1) := by decide +kernel
theorem dX8_order_40 : decode cX8_order 40 = .ok (.iaload, 1) := by decide +kernel
theorem dX8_order_41 : decode cX8_order 41 = .ok (.if_icmp .ge 96, 3) := by decide +kernel
theorem dX8_order_44 : decode cX8_order 44 = .ok (.aload_n 0, 1) := by decide +kernel
theorem dX8_order_45 : decode cX8_order 45 = .ok (.getfield 17, 3) := by decide +kernel
theorem dX8_order_48 : decode cX8_order 48 = .ok (.bipush 30, 2) := by decide +kernel
theorem dX8_order_50 : decode cX8_order 50 = .ok (.iload_n 1, 1) := by decide +kernel
theorem dX8_order_51 : decode cX8_order 51 = .ok (.imul, 1) := by decide +kernel
theorem dX8_order_52 : decode cX8_order 52 = .ok (.iload_n 2, 1) := by decide +kernel
theorem dX8_order_53 : decode cX8_order 53 = .ok (.iadd, 1) := by decide +kernel
theorem dX8_order_54 : decode cX8_order 54 = .ok (.iaload, 1) := by decide +kernel
theorem dX8_order_55 : decode cX8_order 55 = .ok (.istore_n 3, 1) := by decide +kernel
theorem dX8_order_56 : decode cX8_order 56 = .ok (.iconst 0, 1) := by decide +kernel
theorem dX8_order_57 : decode cX8_order 57 = .ok (.istore 4, 2) := by decide +kernel
theorem dX8_order_59 : decode cX8_order 59 = .ok (.iload 4, 2) := by decide +kernel
theorem dX8_order_61 : decode cX8_order 61 = .ok (.aload_n 0, 1) := by decide +kernel
theorem dX8_order_62 : decode cX8_order 62 = .ok (.getfield 103, 3) := by decide +kernel
theorem dX8_order_65 : decode cX8_order 65 = .ok (.if_icmp .ge 20, 3) := by decide +kernel
theorem dX8_order_68 : decode cX8_order 68 = .ok (.aload_n 0, 1) := by decide +kernel
theorem dX8_order_69 : decode cX8_order 69 = .ok (.getfield 26, 3) := by decide +kernel
theorem dX8_order_72 : decode cX8_order 72 = .ok (.iload 4, 2) := by decide +kernel
theorem dX8_order_74 : decode cX8_order 74 = .ok (.iaload, 1) := by decide +kernel
theorem dX8_order_75 : decode cX8_order 75 = .ok (.iload_n 3, 1) := by decide +kernel
theorem dX8_order_76 : decode cX8_order 76 = .ok (.if_icmp .eq 9, 3) := by decide +kernel
theorem dX8_order_79 : decode cX8_order 79 = .ok (.iinc 4 1, 3) := by decide +kernel
theorem dX8_order_82 : decode cX8_order 82 = .ok (.goto (-23), 3) := by decide +kernel
theorem dX8_order_85 : decode cX8_order 85 = .ok (.iload 4, 2) := by decide +kernel
theorem dX8_order_87 : decode cX8_order 87 = .ok (.aload_n 0, 1) := by decide +kernel
theorem dX8_order_88 : decode cX8_order 88 = .ok (.getfield 103, 3) := by decide +kernel
theorem dX8_order_91 : decode cX8_order 91 = .ok (.if_icmp .ne 29, 3) := by decide +kernel
theorem dX8_order_94 : decode cX8_order 94 = .ok (.aload_n 0, 1) := by decide +kernel
theorem dX8_order_95 : decode cX8_order 95 = .ok (.getfield 26, 3) := by decide +kernel
theorem dX8_order_98 : decode cX8_order 98 = .ok (.iload 4, 2) := by decide +kernel
theorem dX8_order_100 : decode cX8_order 100 = .ok (.iload_n 3, 1) := by decide +kernel
theorem dX8_order_101 : decode cX8_order 101 = .ok (.iastore, 1) := by decide +kernel
theorem dX8_order_102 : decode cX8_order 102 = .ok (.aload_n 0, 1) := by decide +kernel
theorem dX8_order_103 : decode cX8_order 103 = .ok (.getfield 29, 3) := by decide +kernel
theorem dX8_order_106 : decode cX8_order 106 = .ok (.iload 4, 2) := by decide +kernel
theorem dX8_order_108 : decode cX8_order 108 = .ok (.iconst 0, 1) := by decide +kernel
theorem dX8_order_109 : decode cX8_order 109 = .ok (.iastore, 1) := by decide +kernel
theorem dX8_order_110 : decode cX8_order 110 = .ok (.aload_n 0, 1) := by decide +kernel
theorem dX8_order_111 : decode cX8_order 111 = .ok (.dup, 1) := by decide +kernel
theorem dX8_order_112 : decode cX8_order 112 = .ok (.getfield 103, 3) := by decide +kernel
theorem dX8_order_115 : decode cX8_order 115 = .ok (.iconst 1, 1) := by decide +kernel
theorem dX8_order_116 : decode cX8_order 116 = .ok (.iadd, 1) := by decide +kernel
theorem dX8_order_117 : decode cX8_order 117 = .ok (.putfield 103, 3) := by decide +kernel
theorem dX8_order_120 : decode cX8_order 120 = .ok (.aload_n 0, 1) := by decide +kernel
theorem dX8_order_121 : decode cX8_order 121 = .ok (.getfield 29, 3) := by decide +kernel
theorem dX8_order_124 : decode cX8_order 124 = .ok (.iload 4, 2) := by decide +kernel
theorem dX8_order_126 : decode cX8_order 126 = .ok (.dup2, 1) := by decide +kernel
theorem dX8_order_127 : decode cX8_order 127 = .ok (.iaload, 1) := by decide +kernel
theorem dX8_order_128 : decode cX8_order 128 = .ok (.iconst 1, 1) := by decide +kernel
theorem dX8_order_129 : decode cX8_order 129 = .ok (.iadd, 1) := by decide +kernel
theorem dX8_order_130 : decode cX8_order 130 = .ok (.iastore, 1) := by decide +kernel
theorem dX8_order_131 : decode cX8_order 131 = .ok (.iinc 2 1, 3) := by decide +kernel
theorem dX8_order_134 : decode cX8_order 134 = .ok (.goto (-100), 3) := by decide +kernel
theorem dX8_order_137 : decode cX8_order 137 = .ok (.iinc 1 1, 3) := by decide +kernel
theorem dX8_order_140 : decode cX8_order 140 = .ok (.goto (-128), 3) := by decide +kernel
theorem dX8_order_143 : decode cX8_order 143 = .ok (.aload_n 0, 1) := by decide +kernel
theorem dX8_order_144 : decode cX8_order 144 = .ok (.getfield 103, 3) := by decide +kernel
theorem dX8_order_147 : decode cX8_order 147 = .ok (.ireturn, 1) := by decide +kernel
theorem dX8_frequency_0 : decode cX8_frequency 0 = .ok (.aload_n 0, 1) := by decide +kernel
theorem dX8_frequency_1 : decode cX8_frequency 1 = .ok (.iconst 0, 1) := by decide +kernel
theorem dX8_frequency_2 : decode cX8_frequency 2 = .ok (.putfield 75, 3) := by decide +kernel
theorem dX8_frequency_5 : decode cX8_frequency 5 = .ok (.aload_n 0, 1) := by decide +kernel
theorem dX8_frequency_6 : decode cX8_frequency 6 = .ok (.iload_n 1, 1) := by decide +kernel
theorem dX8_frequency_7 : decode cX8_frequency 7 = .ok (.invokevirtual 106, 3) := by decide +kernel
theorem dX8_frequency_10 : decode cX8_frequency 10 = .ok (.ireturn, 1) := by decide +kernel
theorem dX8_up_0 : decode cX8_up 0 = .ok (.lload_n 0, 1) := by decide +kernel
theorem dX8_up_1 : decode cX8_up 1 = .ok (.lload_n 2, 1) := by decide +kernel
theorem dX8_up_2 : decode cX8_up 2 = .ok (.ladd, 1) := by decide +kernel
theorem dX8_up_3 : decode cX8_up 3 = .ok (.lconst 1, 1) := by decide +kernel
theorem dX8_up_4 : decode cX8_up 4 = .ok (.lsub, 1) := by decide +kernel
theorem dX8_up_5 : decode cX8_up 5 = .ok (.lload_n 2, 1) := by decide +kernel
theorem dX8_up_6 : decode cX8_up 6 = .ok (.ldiv, 1) := by decide +kernel
theorem dX8_up_7 : decode cX8_up 7 = .ok (.lreturn, 1) := by decide +kernel
theorem dX8_needed_0 : decode cX8_needed 0 = .ok (.lload_n 1, 1) := by decide +kernel
theorem dX8_needed_1 : decode cX8_needed 1 = .ok (.lload_n 3, 1) := by decide +kernel
theorem dX8_needed_2 : decode cX8_needed 2 = .ok (.lcmp, 1) := by decide +kernel
theorem dX8_needed_3 : decode cX8_needed 3 = .ok (.ifCond .ge 7, 3) := by decide +kernel
theorem dX8_needed_6 : decode cX8_needed 6 = .ok (.lload_n 1, 1) := by decide +kernel
theorem dX8_needed_7 : decode cX8_needed 7 = .ok (.goto 4, 3) := by decide +kernel
theorem dX8_needed_10 : decode cX8_needed 10 = .ok (.lload_n 3, 1) := by decide +kernel
theorem dX8_needed_11 : decode cX8_needed 11 = .ok (.lstore 5, 2) := by decide +kernel
theorem dX8_needed_13 : decode cX8_needed 13 = .ok (.aload_n 0, 1) := by decide +kernel
theorem dX8_needed_14 : decode cX8_needed 14 = .ok (.getfield 32, 3) := by decide +kernel
theorem dX8_needed_17 : decode cX8_needed 17 = .ok (.tableswitch 131 0 4 #[35, 131, 41, 63, 114], 35) := by decide +kernel
theorem dX8_needed_52 : decode cX8_needed 52 = .ok (.aload_n 0, 1) := by decide +kernel
theorem dX8_needed_53 : decode cX8_needed 53 = .ok (.getfield 36, 3) := by decide +kernel
theorem dX8_needed_56 : decode cX8_needed 56 = .ok (.i2l, 1) := by decide +kernel
theorem dX8_needed_57 : decode cX8_needed 57 = .ok (.lreturn, 1) := by decide +kernel
theorem dX8_needed_58 : decode cX8_needed 58 = .ok (.aload_n 0, 1) := by decide +kernel
theorem dX8_needed_59 : decode cX8_needed 59 = .ok (.getfield 36, 3) := by decide +kernel
theorem dX8_needed_62 : decode cX8_needed 62 = .ok (.i2l, 1) := by decide +kernel
theorem dX8_needed_63 : decode cX8_needed 63 = .ok (.lload_n 1, 1) := by decide +kernel
theorem dX8_needed_64 : decode cX8_needed 64 = .ok (.lload_n 3, 1) := by decide +kernel
theorem dX8_needed_65 : decode cX8_needed 65 = .ok (.ladd, 1) := by decide +kernel
theorem dX8_needed_66 : decode cX8_needed 66 = .ok (.lmul, 1) := by decide +kernel
theorem dX8_needed_67 : decode cX8_needed 67 = .ok (.ldc2_w 127, 3) := by decide +kernel
theorem dX8_needed_70 : decode cX8_needed 70 = .ok (.aload_n 0, 1) := by decide +kernel
theorem dX8_needed_71 : decode cX8_needed 71 = .ok (.getfield 39, 3) := by decide +kernel
theorem dX8_needed_74 : decode cX8_needed 74 = .ok (.i2l, 1) := by decide +kernel
theorem dX8_needed_75 : decode cX8_needed 75 = .ok (.lmul, 1) := by decide +kernel
theorem dX8_needed_76 : decode cX8_needed 76 = .ok (.invokestatic 129, 3) := by decide +kernel
theorem dX8_needed_79 : decode cX8_needed 79 = .ok (.lreturn, 1) := by decide +kernel
theorem dX8_needed_80 : decode cX8_needed 80 = .ok (.lconst 0, 1) := by decide +kernel
theorem dX8_needed_81 : decode cX8_needed 81 = .ok (.lstore 7, 2) := by decide +kernel
theorem dX8_needed_83 : decode cX8_needed 83 = .ok (.lload 7, 2) := by decide +kernel
theorem dX8_needed_85 : decode cX8_needed 85 = .ok (.lload 7, 2) := by decide +kernel
theorem dX8_needed_87 : decode cX8_needed 87 = .ok (.lmul, 1) := by decide +kernel
theorem dX8_needed_88 : decode cX8_needed 88 = .ok (.aload_n 0, 1) := by decide +kernel
theorem dX8_needed_89 : decode cX8_needed 89 = .ok (.getfield 39, 3) := by decide +kernel
theorem dX8_needed_92 : decode cX8_needed 92 = .ok (.i2l, 1) := by decide +kernel
theorem dX8_needed_93 : decode cX8_needed 93 = .ok (.lmul, 1) := by decide +kernel
theorem dX8_needed_94 : decode cX8_needed 94 = .ok (.aload_n 0, 1) := by decide +kernel
theorem dX8_needed_95 : decode cX8_needed 95 = .ok (.getfield 39, 3) := by decide +kernel
theorem dX8_needed_98 : decode cX8_needed 98 = .ok (.i2l, 1) := by decide +kernel
theorem dX8_needed_99 : decode cX8_needed 99 = .ok (.lmul, 1) := by decide +kernel
theorem dX8_needed_100 : decode cX8_needed 100 = .ok (.lload_n 1, 1) := by decide +kernel
theorem dX8_needed_101 : decode cX8_needed 101 = .ok (.lload_n 3, 1) := by decide +kernel
theorem dX8_needed_102 : decode cX8_needed 102 = .ok (.lmul, 1) := by decide +kernel
theorem dX8_needed_103 : decode cX8_needed 103 = .ok (.aload_n 0, 1) := by decide +kernel
theorem dX8_needed_104 : decode cX8_needed 104 = .ok (.getfield 36, 3) := by decide +kernel
theorem dX8_needed_107 : decode cX8_needed 107 = .ok (.i2l, 1) := by decide +kernel
theorem dX8_needed_108 : decode cX8_needed 108 = .ok (.lmul, 1) := by decide +kernel
theorem dX8_needed_109 : decode cX8_needed 109 = .ok (.aload_n 0, 1) := by decide +kernel
theorem dX8_needed_110 : decode cX8_needed 110 = .ok (.getfield 36, 3) := by decide +kernel
theorem dX8_needed_113 : decode cX8_needed 113 = .ok (.i2l, 1) := by decide +kernel
theorem dX8_needed_114 : decode cX8_needed 114 = .ok (.lmul, 1) := by decide +kernel
theorem dX8_needed_115 : decode cX8_needed 115 = .ok (.lcmp, 1) := by decide +kernel
theorem dX8_needed_116 : decode cX8_needed 116 = .ok (.ifCond .ge 12, 3) := by decide +kernel
theorem dX8_needed_119 : decode cX8_needed 119 = .ok (.lload 7, 2) := by decide +kernel
theorem dX8_needed_121 : decode cX8_needed 121 = .ok (.lconst 1, 1) := by decide +kernel
theorem dX8_needed_122 : decode cX8_needed 122 = .ok (.ladd, 1) := by decide +kernel
theorem dX8_needed_123 : decode cX8_needed 123 = .ok (.lstore 7, 2) := by decide +kernel
theorem dX8_needed_125 : decode cX8_needed 125 = .ok (.goto (-42), 3) := by decide +kernel
theorem dX8_needed_128 : decode cX8_needed 128 = .ok (.lload 7, 2) := by decide +kernel
theorem dX8_needed_130 : decode cX8_needed 130 = .ok (.lreturn, 1) := by decide +kernel
theorem dX8_needed_131 : decode cX8_needed 131 = .ok (.aload_n 0, 1) := by decide +kernel
theorem dX8_needed_132 : decode cX8_needed 132 = .ok (.getfield 36, 3) := by decide +kernel
theorem dX8_needed_135 : decode cX8_needed 135 = .ok (.i2l, 1) := by decide +kernel
theorem dX8_needed_136 : decode cX8_needed 136 = .ok (.lload 5, 2) := by decide +kernel
theorem dX8_needed_138 : decode cX8_needed 138 = .ok (.lmul, 1) := by decide +kernel
theorem dX8_needed_139 : decode cX8_needed 139 = .ok (.aload_n 0, 1) := by decide +kernel
theorem dX8_needed_140 : decode cX8_needed 140 = .ok (.getfield 39, 3) := by decide +kernel
theorem dX8_needed_143 : decode cX8_needed 143 = .ok (.i2l, 1) := by decide +kernel
theorem dX8_needed_144 : decode cX8_needed 144 = .ok (.invokestatic 129, 3) := by decide +kernel
theorem dX8_needed_147 : decode cX8_needed 147 = .ok (.lreturn, 1) := by decide +kernel
theorem dX8_needed_148 : decode cX8_needed 148 = .ok (.aload_n 0, 1) := by decide +kernel
theorem dX8_needed_149 : decode cX8_needed 149 = .ok (.getfield 36, 3) := by decide +kernel
theorem dX8_needed_152 : decode cX8_needed 152 = .ok (.i2l, 1) := by decide +kernel
theorem dX8_needed_153 : decode cX8_needed 153 = .ok (.lload_n 1, 1) := by decide +kernel
theorem dX8_needed_154 : decode cX8_needed 154 = .ok (.lload_n 3, 1) := by decide +kernel
theorem dX8_needed_155 : decode cX8_needed 155 = .ok (.ladd, 1) := by decide +kernel
theorem dX8_needed_156 : decode cX8_needed 156 = .ok (.lmul, 1) := by decide +kernel
theorem dX8_needed_157 : decode cX8_needed 157 = .ok (.aload_n 0, 1) := by decide +kernel
theorem dX8_needed_158 : decode cX8_needed 158 = .ok (.getfield 36, 3) := by decide +kernel
theorem dX8_needed_161 : decode cX8_needed 161 = .ok (.i2l, 1) := by decide +kernel
theorem dX8_needed_162 : decode cX8_needed 162 = .ok (.aload_n 0, 1) := by decide +kernel
theorem dX8_needed_163 : decode cX8_needed 163 = .ok (.getfield 39, 3) := by decide +kernel
theorem dX8_needed_166 : decode cX8_needed 166 = .ok (.i2l, 1) := by decide +kernel
theorem dX8_needed_167 : decode cX8_needed 167 = .ok (.ladd, 1) := by decide +kernel
theorem dX8_needed_168 : decode cX8_needed 168 = .ok (.invokestatic 129, 3) := by decide +kernel
theorem dX8_needed_171 : decode cX8_needed 171 = .ok (.lreturn, 1) := by decide +kernel
theorem dX8_least_0 : decode cX8_least 0 = .ok (.aload_n 0, 1) := by decide +kernel
theorem dX8_least_1 : decode cX8_least 1 = .ok (.getfield 32, 3) := by decide +kernel
theorem dX8_least_4 : decode cX8_least 4 = .ok (.tableswitch 98 0 4 #[36, 98, 42, 68, 96], 36) := by decide +kernel
theorem dX8_least_40 : decode cX8_least 40 = .ok (.aload_n 0, 1) := by decide +kernel
theorem dX8_least_41 : decode cX8_least 41 = .ok (.getfield 36, 3) := by decide +kernel
theorem dX8_least_44 : decode cX8_least 44 = .ok (.i2l, 1) := by decide +kernel
theorem dX8_least_45 : decode cX8_least 45 = .ok (.lreturn, 1) := by decide +kernel
theorem dX8_least_46 : decode cX8_least 46 = .ok (.aload_n 0, 1) := by decide +kernel
theorem dX8_least_47 : decode cX8_least 47 = .ok (.getfield 36, 3) := by decide +kernel
theorem dX8_least_50 : decode cX8_least 50 = .ok (.i2l, 1) := by decide +kernel
theorem dX8_least_51 : decode cX8_least 51 = .ok (.lload_n 1, 1) := by decide +kernel
theorem dX8_least_52 : decode cX8_least 52 = .ok (.lmul, 1) := by decide +kernel
theorem dX8_least_53 : decode cX8_least 53 = .ok (.ldc2_w 127, 3) := by decide +kernel
theorem dX8_least_56 : decode cX8_least 56 = .ok (.aload_n 0, 1) := by decide +kernel
theorem dX8_least_57 : decode cX8_least 57 = .ok (.getfield 39, 3) := by decide +kernel
theorem dX8_least_60 : decode cX8_least 60 = .ok (.i2l, 1) := by decide +kernel
theorem dX8_least_61 : decode cX8_least 61 = .ok (.lmul, 1) := by decide +kernel
theorem dX8_least_62 : decode cX8_least 62 = .ok (.aload_n 0, 1) := by decide +kernel
theorem dX8_least_63 : decode cX8_least 63 = .ok (.getfield 36, 3) := by decide +kernel
theorem dX8_least_66 : decode cX8_least 66 = .ok (.i2l, 1) := by decide +kernel
theorem dX8_least_67 : decode cX8_least 67 = .ok (.lsub, 1) := by decide +kernel
theorem dX8_least_68 : decode cX8_least 68 = .ok (.invokestatic 129, 3) := by decide +kernel
theorem dX8_least_71 : decode cX8_least 71 = .ok (.lreturn, 1) := by decide +kernel
theorem dX8_least_72 : decode cX8_least 72 = .ok (.lload_n 1, 1) := by decide +kernel
theorem dX8_least_73 : decode cX8_least 73 = .ok (.aload_n 0, 1) := by decide +kernel
theorem dX8_least_74 : decode cX8_least 74 = .ok (.getfield 36, 3) := by decide +kernel
theorem dX8_least_77 : decode cX8_least 77 = .ok (.i2l, 1) := by decide +kernel
theorem dX8_least_78 : decode cX8_least 78 = .ok (.lmul, 1) := by decide +kernel
theorem dX8_least_79 : decode cX8_least 79 = .ok (.aload_n 0, 1) := by decide +kernel
theorem dX8_least_80 : decode cX8_least 80 = .ok (.getfield 36, 3) := by decide +kernel
theorem dX8_least_83 : decode cX8_least 83 = .ok (.i2l, 1) := by decide +kernel
theorem dX8_least_84 : decode cX8_least 84 = .ok (.lmul, 1) := by decide +kernel
theorem dX8_least_85 : decode cX8_least 85 = .ok (.aload_n 0, 1) := by decide +kernel
theorem dX8_least_86 : decode cX8_least 86 = .ok (.getfield 39, 3) := by decide +kernel
theorem dX8_least_89 : decode cX8_least 89 = .ok (.i2l, 1) := by decide +kernel
theorem dX8_least_90 : decode cX8_least 90 = .ok (.aload_n 0, 1) := by decide +kernel
theorem dX8_least_91 : decode cX8_least 91 = .ok (.getfield 39, 3) := by decide +kernel
theorem dX8_least_94 : decode cX8_least 94 = .ok (.i2l, 1) := by decide +kernel
theorem dX8_least_95 : decode cX8_least 95 = .ok (.lmul, 1) := by decide +kernel
theorem dX8_least_96 : decode cX8_least 96 = .ok (.invokestatic 129, 3) := by decide +kernel
theorem dX8_least_99 : decode cX8_least 99 = .ok (.lreturn, 1) := by decide +kernel
theorem dX8_least_100 : decode cX8_least 100 = .ok (.lconst 1, 1) := by decide +kernel
theorem dX8_least_101 : decode cX8_least 101 = .ok (.lreturn, 1) := by decide +kernel
theorem dX8_least_102 : decode cX8_least 102 = .ok (.aload_n 0, 1) := by decide +kernel
theorem dX8_least_103 : decode cX8_least 103 = .ok (.getfield 36, 3) := by decide +kernel
theorem dX8_least_106 : decode cX8_least 106 = .ok (.i2l, 1) := by decide +kernel
theorem dX8_least_107 : decode cX8_least 107 = .ok (.lload_n 1, 1) := by decide +kernel
theorem dX8_least_108 : decode cX8_least 108 = .ok (.lmul, 1) := by decide +kernel
theorem dX8_least_109 : decode cX8_least 109 = .ok (.aload_n 0, 1) := by decide +kernel
theorem dX8_least_110 : decode cX8_least 110 = .ok (.getfield 39, 3) := by decide +kernel
theorem dX8_least_113 : decode cX8_least 113 = .ok (.i2l, 1) := by decide +kernel
theorem dX8_least_114 : decode cX8_least 114 = .ok (.invokestatic 129, 3) := by decide +kernel
theorem dX8_least_117 : decode cX8_least 117 = .ok (.lreturn, 1) := by decide +kernel
theorem dX8_divisor_0 : decode cX8_divisor 0 = .ok (.lload_n 2, 1) := by decide +kernel
theorem dX8_divisor_1 : decode cX8_divisor 1 = .ok (.lconst 0, 1) := by decide +kernel
theorem dX8_divisor_2 : decode cX8_divisor 2 = .ok (.lcmp, 1) := by decide +kernel
theorem dX8_divisor_3 : decode cX8_divisor 3 = .ok (.ifCond .ne 7, 3) := by decide +kernel
theorem dX8_divisor_6 : decode cX8_divisor 6 = .ok (.lload_n 0, 1) := by decide +kernel
theorem dX8_divisor_7 : decode cX8_divisor 7 = .ok (.goto 10, 3) := by decide +kernel
theorem dX8_divisor_10 : decode cX8_divisor 10 = .ok (.lload_n 2, 1) := by decide +kernel
theorem dX8_divisor_11 : decode cX8_divisor 11 = .ok (.lload_n 0, 1) := by decide +kernel
theorem dX8_divisor_12 : decode cX8_divisor 12 = .ok (.lload_n 2, 1) := by decide +kernel
theorem dX8_divisor_13 : decode cX8_divisor 13 = .ok (.lrem, 1) := by decide +kernel
theorem dX8_divisor_14 : decode cX8_divisor 14 = .ok (.invokestatic 133, 3) := by decide +kernel
theorem dX8_divisor_17 : decode cX8_divisor 17 = .ok (.lreturn, 1) := by decide +kernel
theorem dX8_above_0 : decode cX8_above 0 = .ok (.lload 5, 2) := by decide +kernel
theorem dX8_above_2 : decode cX8_above 2 = .ok (.lconst 0, 1) := by decide +kernel
theorem dX8_above_3 : decode cX8_above 3 = .ok (.lcmp, 1) := by decide +kernel
theorem dX8_above_4 : decode cX8_above 4 = .ok (.ifCond .ne 7, 3) := by decide +kernel
theorem dX8_above_7 : decode cX8_above 7 = .ok (.lconst 0, 1) := by decide +kernel
theorem dX8_above_8 : decode cX8_above 8 = .ok (.goto 38, 3) := by decide +kernel
theorem dX8_above_11 : decode cX8_above 11 = .ok (.aload_n 0, 1) := by decide +kernel
theorem dX8_above_12 : decode cX8_above 12 = .ok (.getfield 32, 3) := by decide +kernel
theorem dX8_above_15 : decode cX8_above 15 = .ok (.iconst 2, 1) := by decide +kernel
theorem dX8_above_16 : decode cX8_above 16 = .ok (.if_icmp .ne 12, 3) := by decide +kernel
theorem dX8_above_19 : decode cX8_above 19 = .ok (.ldc2_w 127, 3) := by decide +kernel
theorem dX8_above_22 : decode cX8_above 22 = .ok (.lload 5, 2) := by decide +kernel
theorem dX8_above_24 : decode cX8_above 24 = .ok (.lmul, 1) := by decide +kernel
theorem dX8_above_25 : decode cX8_above 25 = .ok (.goto 21, 3) := by decide +kernel
theorem dX8_above_28 : decode cX8_above 28 = .ok (.aload_n 0, 1) := by decide +kernel
theorem dX8_above_29 : decode cX8_above 29 = .ok (.getfield 32, 3) := by decide +kernel
theorem dX8_above_32 : decode cX8_above 32 = .ok (.iconst 3, 1) := by decide +kernel
theorem dX8_above_33 : decode cX8_above 33 = .ok (.if_icmp .ne 11, 3) := by decide +kernel
theorem dX8_above_36 : decode cX8_above 36 = .ok (.lload 5, 2) := by decide +kernel
theorem dX8_above_38 : decode cX8_above 38 = .ok (.lload 5, 2) := by decide +kernel
theorem dX8_above_40 : decode cX8_above 40 = .ok (.lmul, 1) := by decide +kernel
theorem dX8_above_41 : decode cX8_above 41 = .ok (.goto 5, 3) := by decide +kernel
theorem dX8_above_44 : decode cX8_above 44 = .ok (.lload 5, 2) := by decide +kernel
theorem dX8_above_46 : decode cX8_above 46 = .ok (.lreturn, 1) := by decide +kernel
theorem dX8_below_0 : decode cX8_below 0 = .ok (.lload 5, 2) := by decide +kernel
theorem dX8_below_2 : decode cX8_below 2 = .ok (.lconst 0, 1) := by decide +kernel
theorem dX8_below_3 : decode cX8_below 3 = .ok (.lcmp, 1) := by decide +kernel
theorem dX8_below_4 : decode cX8_below 4 = .ok (.ifCond .ne 5, 3) := by decide +kernel
theorem dX8_below_7 : decode cX8_below 7 = .ok (.lconst 1, 1) := by decide +kernel
theorem dX8_below_8 : decode cX8_below 8 = .ok (.lreturn, 1) := by decide +kernel
theorem dX8_below_9 : decode cX8_below 9 = .ok (.aload_n 0, 1) := by decide +kernel
theorem dX8_below_10 : decode cX8_below 10 = .ok (.getfield 32, 3) := by decide +kernel
theorem dX8_below_13 : decode cX8_below 13 = .ok (.tableswitch 57 0 4 #[35, 57, 37, 41, 45], 35) := by decide +kernel
theorem dX8_below_48 : decode cX8_below 48 = .ok (.lconst 1, 1) := by decide +kernel
theorem dX8_below_49 : decode cX8_below 49 = .ok (.lreturn, 1) := by decide +kernel
theorem dX8_below_50 : decode cX8_below 50 = .ok (.lload_n 1, 1) := by decide +kernel
theorem dX8_below_51 : decode cX8_below 51 = .ok (.lload_n 3, 1) := by decide +kernel
theorem dX8_below_52 : decode cX8_below 52 = .ok (.ladd, 1) := by decide +kernel
theorem dX8_below_53 : decode cX8_below 53 = .ok (.lreturn, 1) := by decide +kernel
theorem dX8_below_54 : decode cX8_below 54 = .ok (.lload_n 1, 1) := by decide +kernel
theorem dX8_below_55 : decode cX8_below 55 = .ok (.lload_n 3, 1) := by decide +kernel
theorem dX8_below_56 : decode cX8_below 56 = .ok (.lmul, 1) := by decide +kernel
theorem dX8_below_57 : decode cX8_below 57 = .ok (.lreturn, 1) := by decide +kernel
theorem dX8_below_58 : decode cX8_below 58 = .ok (.lload_n 1, 1) := by decide +kernel
theorem dX8_below_59 : decode cX8_below 59 = .ok (.lload_n 3, 1) := by decide +kernel
theorem dX8_below_60 : decode cX8_below 60 = .ok (.lcmp, 1) := by decide +kernel
theorem dX8_below_61 : decode cX8_below 61 = .ok (.ifCond .ge 7, 3) := by decide +kernel
theorem dX8_below_64 : decode cX8_below 64 = .ok (.lload_n 1, 1) := by decide +kernel
theorem dX8_below_65 : decode cX8_below 65 = .ok (.goto 4, 3) := by decide +kernel
theorem dX8_below_68 : decode cX8_below 68 = .ok (.lload_n 3, 1) := by decide +kernel
theorem dX8_below_69 : decode cX8_below 69 = .ok (.lreturn, 1) := by decide +kernel
theorem dX8_below_70 : decode cX8_below 70 = .ok (.lload_n 1, 1) := by decide +kernel
theorem dX8_below_71 : decode cX8_below 71 = .ok (.lload_n 3, 1) := by decide +kernel
theorem dX8_below_72 : decode cX8_below 72 = .ok (.ladd, 1) := by decide +kernel
theorem dX8_below_73 : decode cX8_below 73 = .ok (.lload 5, 2) := by decide +kernel
theorem dX8_below_75 : decode cX8_below 75 = .ok (.lsub, 1) := by decide +kernel
theorem dX8_below_76 : decode cX8_below 76 = .ok (.lreturn, 1) := by decide +kernel
theorem dX8_isPair_0 : decode cX8_isPair 0 = .ok (.aload_n 0, 1) := by decide +kernel
theorem dX8_isPair_1 : decode cX8_isPair 1 = .ok (.iload_n 1, 1) := by decide +kernel
theorem dX8_isPair_2 : decode cX8_isPair 2 = .ok (.invokevirtual 136, 3) := by decide +kernel
theorem dX8_isPair_5 : decode cX8_isPair 5 = .ok (.i2l, 1) := by decide +kernel
theorem dX8_isPair_6 : decode cX8_isPair 6 = .ok (.lstore_n 3, 1) := by decide +kernel
theorem dX8_isPair_7 : decode cX8_isPair 7 = .ok (.aload_n 0, 1) := by decide +kernel
theorem dX8_isPair_8 : decode cX8_isPair 8 = .ok (.iload_n 2, 1) := by decide +kernel
theorem dX8_isPair_9 : decode cX8_isPair 9 = .ok (.invokevirtual 136, 3) := by decide +kernel
theorem dX8_isPair_12 : decode cX8_isPair 12 = .ok (.i2l, 1) := by decide +kernel
theorem dX8_isPair_13 : decode cX8_isPair 13 = .ok (.lstore 5, 2) := by decide +kernel
theorem dX8_isPair_15 : decode cX8_isPair 15 = .ok (.aload_n 0, 1) := by decide +kernel
theorem dX8_isPair_16 : decode cX8_isPair 16 = .ok (.iload_n 1, 1) := by decide +kernel
theorem dX8_isPair_17 : decode cX8_isPair 17 = .ok (.iload_n 2, 1) := by decide +kernel
theorem dX8_isPair_18 : decode cX8_isPair 18 = .ok (.invokevirtual 139, 3) := by decide +kernel
theorem dX8_isPair_21 : decode cX8_isPair 21 = .ok (.i2l, 1) := by decide +kernel
theorem dX8_isPair_22 : decode cX8_isPair 22 = .ok (.lstore 7, 2) := by decide +kernel
theorem dX8_isPair_24 : decode cX8_isPair 24 = .ok (.lload 7, 2) := by decide +kernel
theorem dX8_isPair_26 : decode cX8_isPair 26 = .ok (.lconst 0, 1) := by decide +kernel
theorem dX8_isPair_27 : decode cX8_isPair 27 = .ok (.lcmp, 1) := by decide +kernel
theorem dX8_isPair_28 : decode cX8_isPair 28 = .ok (.ifCond .ne 5, 3) := by decide +kernel
theorem dX8_isPair_31 : decode cX8_isPair 31 = .ok (.iconst 0, 1) := by decide +kernel
theorem dX8_isPair_32 : decode cX8_isPair 32 = .ok (.ireturn, 1) := by decide +kernel
theorem dX8_isPair_33 : decode cX8_isPair 33 = .ok (.aload_n 0, 1) := by decide +kernel
theorem dX8_isPair_34 : decode cX8_isPair 34 = .ok (.getfield 32, 3) := by decide +kernel
theorem dX8_isPair_37 : decode cX8_isPair 37 = .ok (.iconst 3, 1) := by decide +kernel
theorem dX8_isPair_38 : decode cX8_isPair 38 = .ok (.if_icmp .ne 17, 3) := by decide +kernel
theorem dX8_isPair_41 : decode cX8_isPair 41 = .ok (.aload_n 0, 1) := by decide +kernel
theorem dX8_isPair_42 : decode cX8_isPair 42 = .ok (.getfield 36, 3) := by decide +kernel
theorem dX8_isPair_45 : decode cX8_isPair 45 = .ok (.i2l, 1) := by decide +kernel
theorem dX8_isPair_46 : decode cX8_isPair 46 = .ok (.aload_n 0, 1) := by decide +kernel
theorem dX8_isPair_47 : decode cX8_isPair 47 = .ok (.getfield 36, 3) := by decide +kernel
theorem dX8_isPair_50 : decode cX8_isPair 50 = .ok (.i2l, 1) := by decide +kernel
theorem dX8_isPair_51 : decode cX8_isPair 51 = .ok (.lmul, 1) := by decide +kernel
theorem dX8_isPair_52 : decode cX8_isPair 52 = .ok (.goto 8, 3) := by decide +kernel
theorem dX8_isPair_55 : decode cX8_isPair 55 = .ok (.aload_n 0, 1) := by decide +kernel
theorem dX8_isPair_56 : decode cX8_isPair 56 = .ok (.getfield 36, 3) := by decide +kernel
theorem dX8_isPair_59 : decode cX8_isPair 59 = .ok (.i2l, 1) := by decide +kernel
theorem dX8_isPair_60 : decode cX8_isPair 60 = .ok (.lstore 9, 2) := by decide +kernel
theorem dX8_isPair_62 : decode cX8_isPair 62 = .ok (.aload_n 0, 1) := by decide +kernel
theorem dX8_isPair_63 : decode cX8_isPair 63 = .ok (.getfield 32, 3) := by decide +kernel
theorem dX8_isPair_66 : decode cX8_isPair 66 = .ok (.iconst 3, 1) := by decide +kernel
theorem dX8_isPair_67 : decode cX8_isPair 67 = .ok (.if_icmp .ne 17, 3) := by decide +kernel
theorem dX8_isPair_70 : decode cX8_isPair 70 = .ok (.aload_n 0, 1) := by decide +kernel
theorem dX8_isPair_71 : decode cX8_isPair 71 = .ok (.getfield 39, 3) := by decide +kernel
theorem dX8_isPair_74 : decode cX8_isPair 74 = .ok (.i2l, 1) := by decide +kernel
theorem dX8_isPair_75 : decode cX8_isPair 75 = .ok (.aload_n 0, 1) := by decide +kernel
theorem dX8_isPair_76 : decode cX8_isPair 76 = .ok (.getfield 39, 3) := by decide +kernel
theorem dX8_isPair_79 : decode cX8_isPair 79 = .ok (.i2l, 1) := by decide +kernel
theorem dX8_isPair_80 : decode cX8_isPair 80 = .ok (.lmul, 1) := by decide +kernel
theorem dX8_isPair_81 : decode cX8_isPair 81 = .ok (.goto 8, 3) := by decide +kernel
theorem dX8_isPair_84 : decode cX8_isPair 84 = .ok (.aload_n 0, 1) := by decide +kernel
theorem dX8_isPair_85 : decode cX8_isPair 85 = .ok (.getfield 39, 3) := by decide +kernel
theorem dX8_isPair_88 : decode cX8_isPair 88 = .ok (.i2l, 1) := by decide +kernel
theorem dX8_isPair_89 : decode cX8_isPair 89 = .ok (.lstore 11, 2) := by decide +kernel
theorem dX8_isPair_91 : decode cX8_isPair 91 = .ok (.aload_n 0, 1) := by decide +kernel
theorem dX8_isPair_92 : decode cX8_isPair 92 = .ok (.lload_n 3, 1) := by decide +kernel
theorem dX8_isPair_93 : decode cX8_isPair 93 = .ok (.lload 5, 2) := by decide +kernel
theorem dX8_isPair_95 : decode cX8_isPair 95 = .ok (.lload 7, 2) := by decide +kernel
theorem dX8_isPair_97 : decode cX8_isPair 97 = .ok (.invokevirtual 142, 3) := by decide +kernel
theorem dX8_isPair_100 : decode cX8_isPair 100 = .ok (.lload 11, 2) := by decide +kernel
theorem dX8_isPair_102 : decode cX8_isPair 102 = .ok (.lmul, 1) := by decide +kernel
theorem dX8_isPair_103 : decode cX8_isPair 103 = .ok (.lload 9, 2) := by decide +kernel
theorem dX8_isPair_105 : decode cX8_isPair 105 = .ok (.aload_n 0, 1) := by decide +kernel
theorem dX8_isPair_106 : decode cX8_isPair 106 = .ok (.lload_n 3, 1) := by decide +kernel
theorem dX8_isPair_107 : decode cX8_isPair 107 = .ok (.lload 5, 2) := by decide +kernel
theorem dX8_isPair_109 : decode cX8_isPair 109 = .ok (.lload 7, 2) := by decide +kernel
theorem dX8_isPair_111 : decode cX8_isPair 111 = .ok (.invokevirtual 146, 3) := by decide +kernel
theorem dX8_isPair_114 : decode cX8_isPair 114 = .ok (.lmul, 1) := by decide +kernel
theorem dX8_isPair_115 : decode cX8_isPair 115 = .ok (.lcmp, 1) := by decide +kernel
theorem dX8_isPair_116 : decode cX8_isPair 116 = .ok (.ifCond .lt 7, 3) := by decide +kernel
theorem dX8_isPair_119 : decode cX8_isPair 119 = .ok (.iconst 1, 1) := by decide +kernel
theorem dX8_isPair_120 : decode cX8_isPair 120 = .ok (.goto 4, 3) := by decide +kernel
theorem dX8_isPair_123 : decode cX8_isPair 123 = .ok (.iconst 0, 1) := by decide +kernel
theorem dX8_isPair_124 : decode cX8_isPair 124 = .ok (.ireturn, 1) := by decide +kernel
theorem dX8_beginning_0 : decode cX8_beginning 0 = .ok (.aload_n 0, 1) := by decide +kernel
theorem dX8_beginning_1 : decode cX8_beginning 1 = .ok (.aload_n 0, 1) := by decide +kernel
theorem dX8_beginning_2 : decode cX8_beginning 2 = .ok (.aload_n 1, 1) := by decide +kernel
theorem dX8_beginning_3 : decode cX8_beginning 3 = .ok (.iconst 0, 1) := by decide +kernel
theorem dX8_beginning_4 : decode cX8_beginning 4 = .ok (.iload_n 2, 1) := by decide +kernel
theorem dX8_beginning_5 : decode cX8_beginning 5 = .ok (.invokevirtual 149, 3) := by decide +kernel
theorem dX8_beginning_8 : decode cX8_beginning 8 = .ok (.i2l, 1) := by decide +kernel
theorem dX8_beginning_9 : decode cX8_beginning 9 = .ok (.invokevirtual 153, 3) := by decide +kernel
theorem dX8_beginning_12 : decode cX8_beginning 12 = .ok (.lstore_n 3, 1) := by decide +kernel
theorem dX8_beginning_13 : decode cX8_beginning 13 = .ok (.iconst 0, 1) := by decide +kernel
theorem dX8_beginning_14 : decode cX8_beginning 14 = .ok (.istore 5, 2) := by decide +kernel
theorem dX8_beginning_16 : decode cX8_beginning 16 = .ok (.iload 5, 2) := by decide +kernel
theorem dX8_beginning_18 : decode cX8_beginning 18 = .ok (.iload_n 2, 1) := by decide +kernel
theorem dX8_beginning_19 : decode cX8_beginning 19 = .ok (.if_icmp .ge 23, 3) := by decide +kernel
theorem dX8_beginning_22 : decode cX8_beginning 22 = .ok (.aload_n 0, 1) := by decide +kernel
theorem dX8_beginning_23 : decode cX8_beginning 23 = .ok (.aload_n 1, 1) := by decide +kernel
theorem dX8_beginning_24 : decode cX8_beginning 24 = .ok (.iload 5, 2) := by decide +kernel
theorem dX8_beginning_26 : decode cX8_beginning 26 = .ok (.iload_n 2, 1) := by decide +kernel
theorem dX8_beginning_27 : decode cX8_beginning 27 = .ok (.invokevirtual 149, 3) := by decide +kernel
theorem dX8_beginning_30 : decode cX8_beginning 30 = .ok (.i2l, 1) := by decide +kernel
theorem dX8_beginning_31 : decode cX8_beginning 31 = .ok (.lload_n 3, 1) := by decide +kernel
theorem dX8_beginning_32 : decode cX8_beginning 32 = .ok (.lcmp, 1) := by decide +kernel
theorem dX8_beginning_33 : decode cX8_beginning 33 = .ok (.ifCond .lt 9, 3) := by decide +kernel
theorem dX8_beginning_36 : decode cX8_beginning 36 = .ok (.iinc 5 1, 3) := by decide +kernel
theorem dX8_beginning_39 : decode cX8_beginning 39 = .ok (.goto (-23), 3) := by decide +kernel
theorem dX8_beginning_42 : decode cX8_beginning 42 = .ok (.iload 5, 2) := by decide +kernel
theorem dX8_beginning_44 : decode cX8_beginning 44 = .ok (.ireturn, 1) := by decide +kernel
theorem dX8_whyOf_0 : decode cX8_whyOf 0 = .ok (.aload_n 0, 1) := by decide +kernel
theorem dX8_whyOf_1 : decode cX8_whyOf 1 = .ok (.iload_n 1, 1) := by decide +kernel
end
section
theorem dX8_whyOf_2 : decode cX8_whyOf 2 = .ok (.aload_n 0, 1) := by decide +kernel
theorem dX8_whyOf_3 : decode cX8_whyOf 3 = .ok (.getfield 42, 3) := by decide +kernel
theorem dX8_whyOf_6 : decode cX8_whyOf 6 = .ok (.invokevirtual 157, 3) := by decide +kernel
theorem dX8_whyOf_9 : decode cX8_whyOf 9 = .ok (.aload_n 0, 1) := by decide +kernel
theorem dX8_whyOf_10 : decode cX8_whyOf 10 = .ok (.iload_n 2, 1) := by decide +kernel
theorem dX8_whyOf_11 : decode cX8_whyOf 11 = .ok (.aload_n 0, 1) := by decide +kernel
theorem dX8_whyOf_12 : decode cX8_whyOf 12 = .ok (.getfield 45, 3) := by decide +kernel
theorem dX8_whyOf_15 : decode cX8_whyOf 15 = .ok (.invokevirtual 157, 3) := by decide +kernel
theorem dX8_whyOf_18 : decode cX8_whyOf 18 = .ok (.aload_n 0, 1) := by decide +kernel
theorem dX8_whyOf_19 : decode cX8_whyOf 19 = .ok (.aload_n 0, 1) := by decide +kernel
theorem dX8_whyOf_20 : decode cX8_whyOf 20 = .ok (.getfield 42, 3) := by decide +kernel
theorem dX8_whyOf_23 : decode cX8_whyOf 23 = .ok (.aload_n 0, 1) := by decide +kernel
theorem dX8_whyOf_24 : decode cX8_whyOf 24 = .ok (.getfield 13, 3) := by decide +kernel
theorem dX8_whyOf_27 : decode cX8_whyOf 27 = .ok (.iload_n 1, 1) := by decide +kernel
theorem dX8_whyOf_28 : decode cX8_whyOf 28 = .ok (.iaload, 1) := by decide +kernel
theorem dX8_whyOf_29 : decode cX8_whyOf 29 = .ok (.invokevirtual 161, 3) := by decide +kernel
theorem dX8_whyOf_32 : decode cX8_whyOf 32 = .ok (.istore_n 3, 1) := by decide +kernel
theorem dX8_whyOf_33 : decode cX8_whyOf 33 = .ok (.aload_n 0, 1) := by decide +kernel
theorem dX8_whyOf_34 : decode cX8_whyOf 34 = .ok (.aload_n 0, 1) := by decide +kernel
theorem dX8_whyOf_35 : decode cX8_whyOf 35 = .ok (.getfield 45, 3) := by decide +kernel
theorem dX8_whyOf_38 : decode cX8_whyOf 38 = .ok (.aload_n 0, 1) := by decide +kernel
theorem dX8_whyOf_39 : decode cX8_whyOf 39 = .ok (.getfield 13, 3) := by decide +kernel
theorem dX8_whyOf_42 : decode cX8_whyOf 42 = .ok (.iload_n 2, 1) := by decide +kernel
theorem dX8_whyOf_43 : decode cX8_whyOf 43 = .ok (.iaload, 1) := by decide +kernel
theorem dX8_whyOf_44 : decode cX8_whyOf 44 = .ok (.invokevirtual 161, 3) := by decide +kernel
theorem dX8_whyOf_47 : decode cX8_whyOf 47 = .ok (.istore 4, 2) := by decide +kernel
theorem dX8_whyOf_49 : decode cX8_whyOf 49 = .ok (.iconst 0, 1) := by decide +kernel
theorem dX8_whyOf_50 : decode cX8_whyOf 50 = .ok (.istore 5, 2) := by decide +kernel
theorem dX8_whyOf_52 : decode cX8_whyOf 52 = .ok (.iconst 0, 1) := by decide +kernel
theorem dX8_whyOf_53 : decode cX8_whyOf 53 = .ok (.istore 6, 2) := by decide +kernel
theorem dX8_whyOf_55 : decode cX8_whyOf 55 = .ok (.iload 6, 2) := by decide +kernel
theorem dX8_whyOf_57 : decode cX8_whyOf 57 = .ok (.iload_n 3, 1) := by decide +kernel
theorem dX8_whyOf_58 : decode cX8_whyOf 58 = .ok (.if_icmp .ge 54, 3) := by decide +kernel
theorem dX8_whyOf_61 : decode cX8_whyOf 61 = .ok (.iconst 0, 1) := by decide +kernel
theorem dX8_whyOf_62 : decode cX8_whyOf 62 = .ok (.istore 7, 2) := by decide +kernel
theorem dX8_whyOf_64 : decode cX8_whyOf 64 = .ok (.iload 7, 2) := by decide +kernel
theorem dX8_whyOf_66 : decode cX8_whyOf 66 = .ok (.iload 4, 2) := by decide +kernel
theorem dX8_whyOf_68 : decode cX8_whyOf 68 = .ok (.if_icmp .ge 38, 3) := by decide +kernel
theorem dX8_whyOf_71 : decode cX8_whyOf 71 = .ok (.iload 5, 2) := by decide +kernel
theorem dX8_whyOf_73 : decode cX8_whyOf 73 = .ok (.ifCond .ne 20, 3) := by decide +kernel
theorem dX8_whyOf_76 : decode cX8_whyOf 76 = .ok (.aload_n 0, 1) := by decide +kernel
theorem dX8_whyOf_77 : decode cX8_whyOf 77 = .ok (.getfield 42, 3) := by decide +kernel
theorem dX8_whyOf_80 : decode cX8_whyOf 80 = .ok (.iload 6, 2) := by decide +kernel
theorem dX8_whyOf_82 : decode cX8_whyOf 82 = .ok (.iaload, 1) := by decide +kernel
theorem dX8_whyOf_83 : decode cX8_whyOf 83 = .ok (.aload_n 0, 1) := by decide +kernel
theorem dX8_whyOf_84 : decode cX8_whyOf 84 = .ok (.getfield 45, 3) := by decide +kernel
theorem dX8_whyOf_87 : decode cX8_whyOf 87 = .ok (.iload 7, 2) := by decide +kernel
theorem dX8_whyOf_89 : decode cX8_whyOf 89 = .ok (.iaload, 1) := by decide +kernel
theorem dX8_whyOf_90 : decode cX8_whyOf 90 = .ok (.if_icmp .ne 7, 3) := by decide +kernel
theorem dX8_whyOf_93 : decode cX8_whyOf 93 = .ok (.iconst 1, 1) := by decide +kernel
theorem dX8_whyOf_94 : decode cX8_whyOf 94 = .ok (.goto 4, 3) := by decide +kernel
theorem dX8_whyOf_97 : decode cX8_whyOf 97 = .ok (.iconst 0, 1) := by decide +kernel
theorem dX8_whyOf_98 : decode cX8_whyOf 98 = .ok (.istore 5, 2) := by decide +kernel
theorem dX8_whyOf_100 : decode cX8_whyOf 100 = .ok (.iinc 7 1, 3) := by decide +kernel
theorem dX8_whyOf_103 : decode cX8_whyOf 103 = .ok (.goto (-39), 3) := by decide +kernel
theorem dX8_whyOf_106 : decode cX8_whyOf 106 = .ok (.iinc 6 1, 3) := by decide +kernel
theorem dX8_whyOf_109 : decode cX8_whyOf 109 = .ok (.goto (-54), 3) := by decide +kernel
theorem dX8_whyOf_112 : decode cX8_whyOf 112 = .ok (.iload 5, 2) := by decide +kernel
theorem dX8_whyOf_114 : decode cX8_whyOf 114 = .ok (.ifCond .ne 5, 3) := by decide +kernel
theorem dX8_whyOf_117 : decode cX8_whyOf 117 = .ok (.iconst 1, 1) := by decide +kernel
theorem dX8_whyOf_118 : decode cX8_whyOf 118 = .ok (.ireturn, 1) := by decide +kernel
theorem dX8_whyOf_119 : decode cX8_whyOf 119 = .ok (.aload_n 0, 1) := by decide +kernel
theorem dX8_whyOf_120 : decode cX8_whyOf 120 = .ok (.iload_n 1, 1) := by decide +kernel
theorem dX8_whyOf_121 : decode cX8_whyOf 121 = .ok (.invokevirtual 136, 3) := by decide +kernel
theorem dX8_whyOf_124 : decode cX8_whyOf 124 = .ok (.i2l, 1) := by decide +kernel
theorem dX8_whyOf_125 : decode cX8_whyOf 125 = .ok (.lstore 6, 2) := by decide +kernel
theorem dX8_whyOf_127 : decode cX8_whyOf 127 = .ok (.aload_n 0, 1) := by decide +kernel
theorem dX8_whyOf_128 : decode cX8_whyOf 128 = .ok (.iload_n 2, 1) := by decide +kernel
theorem dX8_whyOf_129 : decode cX8_whyOf 129 = .ok (.invokevirtual 136, 3) := by decide +kernel
theorem dX8_whyOf_132 : decode cX8_whyOf 132 = .ok (.i2l, 1) := by decide +kernel
theorem dX8_whyOf_133 : decode cX8_whyOf 133 = .ok (.lstore 8, 2) := by decide +kernel
theorem dX8_whyOf_135 : decode cX8_whyOf 135 = .ok (.aload_n 0, 1) := by decide +kernel
theorem dX8_whyOf_136 : decode cX8_whyOf 136 = .ok (.lload 6, 2) := by decide +kernel
theorem dX8_whyOf_138 : decode cX8_whyOf 138 = .ok (.lload 8, 2) := by decide +kernel
theorem dX8_whyOf_140 : decode cX8_whyOf 140 = .ok (.invokevirtual 165, 3) := by decide +kernel
theorem dX8_whyOf_143 : decode cX8_whyOf 143 = .ok (.lstore 10, 2) := by decide +kernel
theorem dX8_whyOf_145 : decode cX8_whyOf 145 = .ok (.lload 10, 2) := by decide +kernel
theorem dX8_whyOf_147 : decode cX8_whyOf 147 = .ok (.lload 6, 2) := by decide +kernel
theorem dX8_whyOf_149 : decode cX8_whyOf 149 = .ok (.lload 8, 2) := by decide +kernel
theorem dX8_whyOf_151 : decode cX8_whyOf 151 = .ok (.lcmp, 1) := by decide +kernel
theorem dX8_whyOf_152 : decode cX8_whyOf 152 = .ok (.ifCond .ge 8, 3) := by decide +kernel
theorem dX8_whyOf_155 : decode cX8_whyOf 155 = .ok (.lload 6, 2) := by decide +kernel
theorem dX8_whyOf_157 : decode cX8_whyOf 157 = .ok (.goto 5, 3) := by decide +kernel
theorem dX8_whyOf_160 : decode cX8_whyOf 160 = .ok (.lload 8, 2) := by decide +kernel
theorem dX8_whyOf_162 : decode cX8_whyOf 162 = .ok (.lcmp, 1) := by decide +kernel
theorem dX8_whyOf_163 : decode cX8_whyOf 163 = .ok (.ifCond .le 5, 3) := by decide +kernel
theorem dX8_whyOf_166 : decode cX8_whyOf 166 = .ok (.iconst 2, 1) := by decide +kernel
theorem dX8_whyOf_167 : decode cX8_whyOf 167 = .ok (.ireturn, 1) := by decide +kernel
theorem dX8_whyOf_168 : decode cX8_whyOf 168 = .ok (.iconst 0, 1) := by decide +kernel
theorem dX8_whyOf_169 : decode cX8_whyOf 169 = .ok (.istore 12, 2) := by decide +kernel
theorem dX8_whyOf_171 : decode cX8_whyOf 171 = .ok (.aload_n 0, 1) := by decide +kernel
theorem dX8_whyOf_172 : decode cX8_whyOf 172 = .ok (.iload_n 2, 1) := by decide +kernel
theorem dX8_whyOf_173 : decode cX8_whyOf 173 = .ok (.aload_n 0, 1) := by decide +kernel
theorem dX8_whyOf_174 : decode cX8_whyOf 174 = .ok (.getfield 42, 3) := by decide +kernel
theorem dX8_whyOf_177 : decode cX8_whyOf 177 = .ok (.iload 12, 2) := by decide +kernel
theorem dX8_whyOf_179 : decode cX8_whyOf 179 = .ok (.iaload, 1) := by decide +kernel
theorem dX8_whyOf_180 : decode cX8_whyOf 180 = .ok (.invokevirtual 93, 3) := by decide +kernel
theorem dX8_whyOf_183 : decode cX8_whyOf 183 = .ok (.iconst (-1), 1) := by decide +kernel
theorem dX8_whyOf_184 : decode cX8_whyOf 184 = .ok (.if_icmp .ne 9, 3) := by decide +kernel
theorem dX8_whyOf_187 : decode cX8_whyOf 187 = .ok (.iinc 12 1, 3) := by decide +kernel
theorem dX8_whyOf_190 : decode cX8_whyOf 190 = .ok (.goto (-19), 3) := by decide +kernel
theorem dX8_whyOf_193 : decode cX8_whyOf 193 = .ok (.iconst 0, 1) := by decide +kernel
theorem dX8_whyOf_194 : decode cX8_whyOf 194 = .ok (.istore 13, 2) := by decide +kernel
theorem dX8_whyOf_196 : decode cX8_whyOf 196 = .ok (.aload_n 0, 1) := by decide +kernel
theorem dX8_whyOf_197 : decode cX8_whyOf 197 = .ok (.getfield 45, 3) := by decide +kernel
theorem dX8_whyOf_200 : decode cX8_whyOf 200 = .ok (.iload 13, 2) := by decide +kernel
theorem dX8_whyOf_202 : decode cX8_whyOf 202 = .ok (.iaload, 1) := by decide +kernel
theorem dX8_whyOf_203 : decode cX8_whyOf 203 = .ok (.aload_n 0, 1) := by decide +kernel
theorem dX8_whyOf_204 : decode cX8_whyOf 204 = .ok (.getfield 42, 3) := by decide +kernel
theorem dX8_whyOf_207 : decode cX8_whyOf 207 = .ok (.iload 12, 2) := by decide +kernel
theorem dX8_whyOf_209 : decode cX8_whyOf 209 = .ok (.iaload, 1) := by decide +kernel
theorem dX8_whyOf_210 : decode cX8_whyOf 210 = .ok (.if_icmp .eq 9, 3) := by decide +kernel
theorem dX8_whyOf_213 : decode cX8_whyOf 213 = .ok (.iinc 13 1, 3) := by decide +kernel
theorem dX8_whyOf_216 : decode cX8_whyOf 216 = .ok (.goto (-20), 3) := by decide +kernel
theorem dX8_whyOf_219 : decode cX8_whyOf 219 = .ok (.aload_n 0, 1) := by decide +kernel
theorem dX8_whyOf_220 : decode cX8_whyOf 220 = .ok (.aload_n 0, 1) := by decide +kernel
theorem dX8_whyOf_221 : decode cX8_whyOf 221 = .ok (.getfield 42, 3) := by decide +kernel
theorem dX8_whyOf_224 : decode cX8_whyOf 224 = .ok (.iload 12, 2) := by decide +kernel
theorem dX8_whyOf_226 : decode cX8_whyOf 226 = .ok (.iconst 1, 1) := by decide +kernel
theorem dX8_whyOf_227 : decode cX8_whyOf 227 = .ok (.iadd, 1) := by decide +kernel
theorem dX8_whyOf_228 : decode cX8_whyOf 228 = .ok (.aload_n 0, 1) := by decide +kernel
theorem dX8_whyOf_229 : decode cX8_whyOf 229 = .ok (.getfield 13, 3) := by decide +kernel
theorem dX8_whyOf_232 : decode cX8_whyOf 232 = .ok (.iload_n 1, 1) := by decide +kernel
theorem dX8_whyOf_233 : decode cX8_whyOf 233 = .ok (.iaload, 1) := by decide +kernel
theorem dX8_whyOf_234 : decode cX8_whyOf 234 = .ok (.invokevirtual 149, 3) := by decide +kernel
theorem dX8_whyOf_237 : decode cX8_whyOf 237 = .ok (.istore 14, 2) := by decide +kernel
theorem dX8_whyOf_239 : decode cX8_whyOf 239 = .ok (.aload_n 0, 1) := by decide +kernel
theorem dX8_whyOf_240 : decode cX8_whyOf 240 = .ok (.aload_n 0, 1) := by decide +kernel
theorem dX8_whyOf_241 : decode cX8_whyOf 241 = .ok (.getfield 45, 3) := by decide +kernel
theorem dX8_whyOf_244 : decode cX8_whyOf 244 = .ok (.iload 13, 2) := by decide +kernel
theorem dX8_whyOf_246 : decode cX8_whyOf 246 = .ok (.iconst 1, 1) := by decide +kernel
theorem dX8_whyOf_247 : decode cX8_whyOf 247 = .ok (.iadd, 1) := by decide +kernel
theorem dX8_whyOf_248 : decode cX8_whyOf 248 = .ok (.aload_n 0, 1) := by decide +kernel
theorem dX8_whyOf_249 : decode cX8_whyOf 249 = .ok (.getfield 13, 3) := by decide +kernel
theorem dX8_whyOf_252 : decode cX8_whyOf 252 = .ok (.iload_n 2, 1) := by decide +kernel
theorem dX8_whyOf_253 : decode cX8_whyOf 253 = .ok (.iaload, 1) := by decide +kernel
theorem dX8_whyOf_254 : decode cX8_whyOf 254 = .ok (.invokevirtual 149, 3) := by decide +kernel
theorem dX8_whyOf_257 : decode cX8_whyOf 257 = .ok (.istore 15, 2) := by decide +kernel
theorem dX8_whyOf_259 : decode cX8_whyOf 259 = .ok (.aload_n 0, 1) := by decide +kernel
theorem dX8_whyOf_260 : decode cX8_whyOf 260 = .ok (.aload_n 0, 1) := by decide +kernel
theorem dX8_whyOf_261 : decode cX8_whyOf 261 = .ok (.getfield 42, 3) := by decide +kernel
theorem dX8_whyOf_264 : decode cX8_whyOf 264 = .ok (.iload 12, 2) := by decide +kernel
theorem dX8_whyOf_266 : decode cX8_whyOf 266 = .ok (.iaload, 1) := by decide +kernel
theorem dX8_whyOf_267 : decode cX8_whyOf 267 = .ok (.invokevirtual 114, 3) := by decide +kernel
theorem dX8_whyOf_270 : decode cX8_whyOf 270 = .ok (.iload 14, 2) := by decide +kernel
theorem dX8_whyOf_272 : decode cX8_whyOf 272 = .ok (.iload 15, 2) := by decide +kernel
theorem dX8_whyOf_274 : decode cX8_whyOf 274 = .ok (.if_icmp .ge 8, 3) := by decide +kernel
theorem dX8_whyOf_277 : decode cX8_whyOf 277 = .ok (.iload 14, 2) := by decide +kernel
theorem dX8_whyOf_279 : decode cX8_whyOf 279 = .ok (.goto 5, 3) := by decide +kernel
theorem dX8_whyOf_282 : decode cX8_whyOf 282 = .ok (.iload 15, 2) := by decide +kernel
theorem dX8_whyOf_284 : decode cX8_whyOf 284 = .ok (.iadd, 1) := by decide +kernel
theorem dX8_whyOf_285 : decode cX8_whyOf 285 = .ok (.i2l, 1) := by decide +kernel
theorem dX8_whyOf_286 : decode cX8_whyOf 286 = .ok (.lload 10, 2) := by decide +kernel
theorem dX8_whyOf_288 : decode cX8_whyOf 288 = .ok (.lcmp, 1) := by decide +kernel
theorem dX8_whyOf_289 : decode cX8_whyOf 289 = .ok (.ifCond .ge 5, 3) := by decide +kernel
theorem dX8_whyOf_292 : decode cX8_whyOf 292 = .ok (.iconst 3, 1) := by decide +kernel
theorem dX8_whyOf_293 : decode cX8_whyOf 293 = .ok (.ireturn, 1) := by decide +kernel
theorem dX8_whyOf_294 : decode cX8_whyOf 294 = .ok (.aload_n 0, 1) := by decide +kernel
theorem dX8_whyOf_295 : decode cX8_whyOf 295 = .ok (.iload_n 1, 1) := by decide +kernel
theorem dX8_whyOf_296 : decode cX8_whyOf 296 = .ok (.iload_n 2, 1) := by decide +kernel
theorem dX8_whyOf_297 : decode cX8_whyOf 297 = .ok (.invokevirtual 168, 3) := by decide +kernel
theorem dX8_whyOf_300 : decode cX8_whyOf 300 = .ok (.ifCond .eq 7, 3) := by decide +kernel
theorem dX8_whyOf_303 : decode cX8_whyOf 303 = .ok (.iconst 0, 1) := by decide +kernel
theorem dX8_whyOf_304 : decode cX8_whyOf 304 = .ok (.goto 4, 3) := by decide +kernel
theorem dX8_whyOf_307 : decode cX8_whyOf 307 = .ok (.iconst 4, 1) := by decide +kernel
theorem dX8_whyOf_308 : decode cX8_whyOf 308 = .ok (.ireturn, 1) := by decide +kernel
theorem dX8_why_0 : decode cX8_why 0 = .ok (.aload_n 0, 1) := by decide +kernel
theorem dX8_why_1 : decode cX8_why 1 = .ok (.iconst 0, 1) := by decide +kernel
theorem dX8_why_2 : decode cX8_why 2 = .ok (.putfield 75, 3) := by decide +kernel
theorem dX8_why_5 : decode cX8_why 5 = .ok (.aload_n 0, 1) := by decide +kernel
theorem dX8_why_6 : decode cX8_why 6 = .ok (.iload_n 1, 1) := by decide +kernel
theorem dX8_why_7 : decode cX8_why 7 = .ok (.iload_n 2, 1) := by decide +kernel
theorem dX8_why_8 : decode cX8_why 8 = .ok (.invokevirtual 171, 3) := by decide +kernel
theorem dX8_why_11 : decode cX8_why 11 = .ok (.ifCond .eq 12, 3) := by decide +kernel
theorem dX8_why_14 : decode cX8_why 14 = .ok (.aload_n 0, 1) := by decide +kernel
theorem dX8_why_15 : decode cX8_why 15 = .ok (.iload_n 1, 1) := by decide +kernel
theorem dX8_why_16 : decode cX8_why 16 = .ok (.iload_n 2, 1) := by decide +kernel
theorem dX8_why_17 : decode cX8_why 17 = .ok (.invokevirtual 174, 3) := by decide +kernel
theorem dX8_why_20 : decode cX8_why 20 = .ok (.goto 4, 3) := by decide +kernel
theorem dX8_why_23 : decode cX8_why 23 = .ok (.iconst (-1), 1) := by decide +kernel
theorem dX8_why_24 : decode cX8_why 24 = .ok (.ireturn, 1) := by decide +kernel
theorem dX8_like_0 : decode cX8_like 0 = .ok (.aload_n 0, 1) := by decide +kernel
theorem dX8_like_1 : decode cX8_like 1 = .ok (.iconst 0, 1) := by decide +kernel
theorem dX8_like_2 : decode cX8_like 2 = .ok (.putfield 75, 3) := by decide +kernel
theorem dX8_like_5 : decode cX8_like 5 = .ok (.aload_n 0, 1) := by decide +kernel
theorem dX8_like_6 : decode cX8_like 6 = .ok (.iload_n 1, 1) := by decide +kernel
theorem dX8_like_7 : decode cX8_like 7 = .ok (.iload_n 2, 1) := by decide +kernel
theorem dX8_like_8 : decode cX8_like 8 = .ok (.invokevirtual 171, 3) := by decide +kernel
theorem dX8_like_11 : decode cX8_like 11 = .ok (.ifCond .ne 7, 3) := by decide +kernel
theorem dX8_like_14 : decode cX8_like 14 = .ok (.ldc2_w 177, 3) := by decide +kernel
theorem dX8_like_17 : decode cX8_like 17 = .ok (.lreturn, 1) := by decide +kernel
theorem dX8_like_18 : decode cX8_like 18 = .ok (.aload_n 0, 1) := by decide +kernel
theorem dX8_like_19 : decode cX8_like 19 = .ok (.iload_n 1, 1) := by decide +kernel
theorem dX8_like_20 : decode cX8_like 20 = .ok (.invokevirtual 136, 3) := by decide +kernel
theorem dX8_like_23 : decode cX8_like 23 = .ok (.i2l, 1) := by decide +kernel
theorem dX8_like_24 : decode cX8_like 24 = .ok (.lstore 4, 2) := by decide +kernel
theorem dX8_like_26 : decode cX8_like 26 = .ok (.aload_n 0, 1) := by decide +kernel
theorem dX8_like_27 : decode cX8_like 27 = .ok (.iload_n 2, 1) := by decide +kernel
theorem dX8_like_28 : decode cX8_like 28 = .ok (.invokevirtual 136, 3) := by decide +kernel
theorem dX8_like_31 : decode cX8_like 31 = .ok (.i2l, 1) := by decide +kernel
theorem dX8_like_32 : decode cX8_like 32 = .ok (.lstore 6, 2) := by decide +kernel
theorem dX8_like_34 : decode cX8_like 34 = .ok (.aload_n 0, 1) := by decide +kernel
theorem dX8_like_35 : decode cX8_like 35 = .ok (.iload_n 1, 1) := by decide +kernel
theorem dX8_like_36 : decode cX8_like 36 = .ok (.iload_n 2, 1) := by decide +kernel
theorem dX8_like_37 : decode cX8_like 37 = .ok (.invokevirtual 139, 3) := by decide +kernel
theorem dX8_like_40 : decode cX8_like 40 = .ok (.i2l, 1) := by decide +kernel
theorem dX8_like_41 : decode cX8_like 41 = .ok (.lstore 8, 2) := by decide +kernel
theorem dX8_like_43 : decode cX8_like 43 = .ok (.aload_n 0, 1) := by decide +kernel
theorem dX8_like_44 : decode cX8_like 44 = .ok (.lload 4, 2) := by decide +kernel
theorem dX8_like_46 : decode cX8_like 46 = .ok (.lload 6, 2) := by decide +kernel
theorem dX8_like_48 : decode cX8_like 48 = .ok (.lload 8, 2) := by decide +kernel
theorem dX8_like_50 : decode cX8_like 50 = .ok (.invokevirtual 142, 3) := by decide +kernel
theorem dX8_like_53 : decode cX8_like 53 = .ok (.lstore 10, 2) := by decide +kernel
theorem dX8_like_55 : decode cX8_like 55 = .ok (.aload_n 0, 1) := by decide +kernel
theorem dX8_like_56 : decode cX8_like 56 = .ok (.lload 4, 2) := by decide +kernel
theorem dX8_like_58 : decode cX8_like 58 = .ok (.lload 6, 2) := by decide +kernel
theorem dX8_like_60 : decode cX8_like 60 = .ok (.lload 8, 2) := by decide +kernel
theorem dX8_like_62 : decode cX8_like 62 = .ok (.invokevirtual 146, 3) := by decide +kernel
theorem dX8_like_65 : decode cX8_like 65 = .ok (.lstore 12, 2) := by decide +kernel
theorem dX8_like_67 : decode cX8_like 67 = .ok (.lload 12, 2) := by decide +kernel
theorem dX8_like_69 : decode cX8_like 69 = .ok (.lload 10, 2) := by decide +kernel
theorem dX8_like_71 : decode cX8_like 71 = .ok (.invokestatic 133, 3) := by decide +kernel
theorem dX8_like_74 : decode cX8_like 74 = .ok (.lstore 14, 2) := by decide +kernel
theorem dX8_like_76 : decode cX8_like 76 = .ok (.iload_n 3, 1) := by decide +kernel
theorem dX8_like_77 : decode cX8_like 77 = .ok (.tableswitch 74 0 4 #[35, 38, 47, 53, 59], 35) := by decide +kernel
theorem dX8_like_112 : decode cX8_like 112 = .ok (.lload 8, 2) := by decide +kernel
theorem dX8_like_114 : decode cX8_like 114 = .ok (.lreturn, 1) := by decide +kernel
theorem dX8_like_115 : decode cX8_like 115 = .ok (.aload_n 0, 1) := by decide +kernel
theorem dX8_like_116 : decode cX8_like 116 = .ok (.lload 4, 2) := by decide +kernel
theorem dX8_like_118 : decode cX8_like 118 = .ok (.lload 6, 2) := by decide +kernel
theorem dX8_like_120 : decode cX8_like 120 = .ok (.invokevirtual 165, 3) := by decide +kernel
theorem dX8_like_123 : decode cX8_like 123 = .ok (.lreturn, 1) := by decide +kernel
theorem dX8_like_124 : decode cX8_like 124 = .ok (.lload 10, 2) := by decide +kernel
theorem dX8_like_126 : decode cX8_like 126 = .ok (.lload 14, 2) := by decide +kernel
theorem dX8_like_128 : decode cX8_like 128 = .ok (.ldiv, 1) := by decide +kernel
theorem dX8_like_129 : decode cX8_like 129 = .ok (.lreturn, 1) := by decide +kernel
theorem dX8_like_130 : decode cX8_like 130 = .ok (.lload 12, 2) := by decide +kernel
theorem dX8_like_132 : decode cX8_like 132 = .ok (.lload 14, 2) := by decide +kernel
theorem dX8_like_134 : decode cX8_like 134 = .ok (.ldiv, 1) := by decide +kernel
theorem dX8_like_135 : decode cX8_like 135 = .ok (.lreturn, 1) := by decide +kernel
theorem dX8_like_136 : decode cX8_like 136 = .ok (.aload_n 0, 1) := by decide +kernel
theorem dX8_like_137 : decode cX8_like 137 = .ok (.iload_n 1, 1) := by decide +kernel
theorem dX8_like_138 : decode cX8_like 138 = .ok (.iload_n 2, 1) := by decide +kernel
theorem dX8_like_139 : decode cX8_like 139 = .ok (.invokevirtual 168, 3) := by decide +kernel
theorem dX8_like_142 : decode cX8_like 142 = .ok (.ifCond .eq 7, 3) := by decide +kernel
theorem dX8_like_145 : decode cX8_like 145 = .ok (.lconst 1, 1) := by decide +kernel
theorem dX8_like_146 : decode cX8_like 146 = .ok (.goto 4, 3) := by decide +kernel
theorem dX8_like_149 : decode cX8_like 149 = .ok (.lconst 0, 1) := by decide +kernel
theorem dX8_like_150 : decode cX8_like 150 = .ok (.lreturn, 1) := by decide +kernel
theorem dX8_like_151 : decode cX8_like 151 = .ok (.ldc2_w 177, 3) := by decide +kernel
theorem dX8_like_154 : decode cX8_like 154 = .ok (.lreturn, 1) := by decide +kernel
theorem dX8_keep_0 : decode cX8_keep 0 = .ok (.aload_n 0, 1) := by decide +kernel
theorem dX8_keep_1 : decode cX8_keep 1 = .ok (.getfield 51, 3) := by decide +kernel
theorem dX8_keep_4 : decode cX8_keep 4 = .ok (.iload_n 1, 1) := by decide +kernel
theorem dX8_keep_5 : decode cX8_keep 5 = .ok (.iload_n 2, 1) := by decide +kernel
theorem dX8_keep_6 : decode cX8_keep 6 = .ok (.iastore, 1) := by decide +kernel
theorem dX8_keep_7 : decode cX8_keep 7 = .ok (.aload_n 0, 1) := by decide +kernel
theorem dX8_keep_8 : decode cX8_keep 8 = .ok (.getfield 54, 3) := by decide +kernel
theorem dX8_keep_11 : decode cX8_keep 11 = .ok (.iload_n 1, 1) := by decide +kernel
theorem dX8_keep_12 : decode cX8_keep 12 = .ok (.iload_n 3, 1) := by decide +kernel
theorem dX8_keep_13 : decode cX8_keep 13 = .ok (.iastore, 1) := by decide +kernel
theorem dX8_keep_14 : decode cX8_keep 14 = .ok (.aload_n 0, 1) := by decide +kernel
theorem dX8_keep_15 : decode cX8_keep 15 = .ok (.getfield 57, 3) := by decide +kernel
theorem dX8_keep_18 : decode cX8_keep 18 = .ok (.iload_n 1, 1) := by decide +kernel
theorem dX8_keep_19 : decode cX8_keep 19 = .ok (.aload_n 0, 1) := by decide +kernel
theorem dX8_keep_20 : decode cX8_keep 20 = .ok (.iload_n 2, 1) := by decide +kernel
theorem dX8_keep_21 : decode cX8_keep 21 = .ok (.iload_n 3, 1) := by decide +kernel
theorem dX8_keep_22 : decode cX8_keep 22 = .ok (.invokevirtual 139, 3) := by decide +kernel
theorem dX8_keep_25 : decode cX8_keep 25 = .ok (.iastore, 1) := by decide +kernel
theorem dX8_keep_26 : decode cX8_keep 26 = .ok (.return_, 1) := by decide +kernel
theorem dX8_spent_0 : decode cX8_spent 0 = .ok (.iconst 0, 1) := by decide +kernel
theorem dX8_spent_1 : decode cX8_spent 1 = .ok (.istore_n 1, 1) := by decide +kernel
theorem dX8_spent_2 : decode cX8_spent 2 = .ok (.iconst 0, 1) := by decide +kernel
theorem dX8_spent_3 : decode cX8_spent 3 = .ok (.istore_n 2, 1) := by decide +kernel
theorem dX8_spent_4 : decode cX8_spent 4 = .ok (.iload_n 2, 1) := by decide +kernel
theorem dX8_spent_5 : decode cX8_spent 5 = .ok (.aload_n 0, 1) := by decide +kernel
theorem dX8_spent_6 : decode cX8_spent 6 = .ok (.getfield 78, 3) := by decide +kernel
theorem dX8_spent_9 : decode cX8_spent 9 = .ok (.if_icmp .ge 161, 3) := by decide +kernel
theorem dX8_spent_12 : decode cX8_spent 12 = .ok (.aload_n 0, 1) := by decide +kernel
theorem dX8_spent_13 : decode cX8_spent 13 = .ok (.getfield 9, 3) := by decide +kernel
theorem dX8_spent_16 : decode cX8_spent 16 = .ok (.iload_n 2, 1) := by decide +kernel
theorem dX8_spent_17 : decode cX8_spent 17 = .ok (.baload, 1) := by decide +kernel
theorem dX8_spent_18 : decode cX8_spent 18 = .ok (.ifCond .eq 6, 3) := by decide +kernel
theorem dX8_spent_21 : decode cX8_spent 21 = .ok (.goto 143, 3) := by decide +kernel
theorem dX8_spent_24 : decode cX8_spent 24 = .ok (.aload_n 0, 1) := by decide +kernel
theorem dX8_spent_25 : decode cX8_spent 25 = .ok (.iload_n 2, 1) := by decide +kernel
theorem dX8_spent_26 : decode cX8_spent 26 = .ok (.aload_n 0, 1) := by decide +kernel
theorem dX8_spent_27 : decode cX8_spent 27 = .ok (.getfield 42, 3) := by decide +kernel
theorem dX8_spent_30 : decode cX8_spent 30 = .ok (.invokevirtual 157, 3) := by decide +kernel
theorem dX8_spent_33 : decode cX8_spent 33 = .ok (.aload_n 0, 1) := by decide +kernel
theorem dX8_spent_34 : decode cX8_spent 34 = .ok (.aload_n 0, 1) := by decide +kernel
theorem dX8_spent_35 : decode cX8_spent 35 = .ok (.getfield 42, 3) := by decide +kernel
theorem dX8_spent_38 : decode cX8_spent 38 = .ok (.aload_n 0, 1) := by decide +kernel
theorem dX8_spent_39 : decode cX8_spent 39 = .ok (.getfield 13, 3) := by decide +kernel
theorem dX8_spent_42 : decode cX8_spent 42 = .ok (.iload_n 2, 1) := by decide +kernel
theorem dX8_spent_43 : decode cX8_spent 43 = .ok (.iaload, 1) := by decide +kernel
theorem dX8_spent_44 : decode cX8_spent 44 = .ok (.invokevirtual 161, 3) := by decide +kernel
theorem dX8_spent_47 : decode cX8_spent 47 = .ok (.istore_n 3, 1) := by decide +kernel
theorem dX8_spent_48 : decode cX8_spent 48 = .ok (.iconst 0, 1) := by decide +kernel
theorem dX8_spent_49 : decode cX8_spent 49 = .ok (.istore 4, 2) := by decide +kernel
theorem dX8_spent_51 : decode cX8_spent 51 = .ok (.iload 4, 2) := by decide +kernel
theorem dX8_spent_53 : decode cX8_spent 53 = .ok (.iload_n 3, 1) := by decide +kernel
theorem dX8_spent_54 : decode cX8_spent 54 = .ok (.if_icmp .ge 110, 3) := by decide +kernel
theorem dX8_spent_57 : decode cX8_spent 57 = .ok (.iload_n 2, 1) := by decide +kernel
theorem dX8_spent_58 : decode cX8_spent 58 = .ok (.iconst 1, 1) := by decide +kernel
theorem dX8_spent_59 : decode cX8_spent 59 = .ok (.iadd, 1) := by decide +kernel
theorem dX8_spent_60 : decode cX8_spent 60 = .ok (.istore 5, 2) := by decide +kernel
theorem dX8_spent_62 : decode cX8_spent 62 = .ok (.iload 5, 2) := by decide +kernel
theorem dX8_spent_64 : decode cX8_spent 64 = .ok (.aload_n 0, 1) := by decide +kernel
theorem dX8_spent_65 : decode cX8_spent 65 = .ok (.getfield 78, 3) := by decide +kernel
theorem dX8_spent_68 : decode cX8_spent 68 = .ok (.if_icmp .ge 90, 3) := by decide +kernel
theorem dX8_spent_71 : decode cX8_spent 71 = .ok (.aload_n 0, 1) := by decide +kernel
theorem dX8_spent_72 : decode cX8_spent 72 = .ok (.getfield 9, 3) := by decide +kernel
theorem dX8_spent_75 : decode cX8_spent 75 = .ok (.iload 5, 2) := by decide +kernel
theorem dX8_spent_77 : decode cX8_spent 77 = .ok (.baload, 1) := by decide +kernel
theorem dX8_spent_78 : decode cX8_spent 78 = .ok (.ifCond .eq 6, 3) := by decide +kernel
theorem dX8_spent_81 : decode cX8_spent 81 = .ok (.goto 71, 3) := by decide +kernel
theorem dX8_spent_84 : decode cX8_spent 84 = .ok (.aload_n 0, 1) := by decide +kernel
theorem dX8_spent_85 : decode cX8_spent 85 = .ok (.iload 5, 2) := by decide +kernel
theorem dX8_spent_87 : decode cX8_spent 87 = .ok (.aload_n 0, 1) := by decide +kernel
theorem dX8_spent_88 : decode cX8_spent 88 = .ok (.getfield 45, 3) := by decide +kernel
theorem dX8_spent_91 : decode cX8_spent 91 = .ok (.invokevirtual 157, 3) := by decide +kernel
theorem dX8_spent_94 : decode cX8_spent 94 = .ok (.aload_n 0, 1) := by decide +kernel
theorem dX8_spent_95 : decode cX8_spent 95 = .ok (.aload_n 0, 1) := by decide +kernel
theorem dX8_spent_96 : decode cX8_spent 96 = .ok (.getfield 45, 3) := by decide +kernel
theorem dX8_spent_99 : decode cX8_spent 99 = .ok (.aload_n 0, 1) := by decide +kernel
theorem dX8_spent_100 : decode cX8_spent 100 = .ok (.getfield 13, 3) := by decide +kernel
theorem dX8_spent_103 : decode cX8_spent 103 = .ok (.iload 5, 2) := by decide +kernel
theorem dX8_spent_105 : decode cX8_spent 105 = .ok (.iaload, 1) := by decide +kernel
theorem dX8_spent_106 : decode cX8_spent 106 = .ok (.invokevirtual 161, 3) := by decide +kernel
theorem dX8_spent_109 : decode cX8_spent 109 = .ok (.istore 6, 2) := by decide +kernel
theorem dX8_spent_111 : decode cX8_spent 111 = .ok (.iconst 0, 1) := by decide +kernel
theorem dX8_spent_112 : decode cX8_spent 112 = .ok (.istore 7, 2) := by decide +kernel
theorem dX8_spent_114 : decode cX8_spent 114 = .ok (.iload 7, 2) := by decide +kernel
theorem dX8_spent_116 : decode cX8_spent 116 = .ok (.iload 6, 2) := by decide +kernel
theorem dX8_spent_118 : decode cX8_spent 118 = .ok (.if_icmp .ge 34, 3) := by decide +kernel
theorem dX8_spent_121 : decode cX8_spent 121 = .ok (.iload_n 1, 1) := by decide +kernel
theorem dX8_spent_122 : decode cX8_spent 122 = .ok (.aload_n 0, 1) := by decide +kernel
theorem dX8_spent_123 : decode cX8_spent 123 = .ok (.getfield 42, 3) := by decide +kernel
theorem dX8_spent_126 : decode cX8_spent 126 = .ok (.iload 4, 2) := by decide +kernel
theorem dX8_spent_128 : decode cX8_spent 128 = .ok (.iaload, 1) := by decide +kernel
theorem dX8_spent_129 : decode cX8_spent 129 = .ok (.aload_n 0, 1) := by decide +kernel
theorem dX8_spent_130 : decode cX8_spent 130 = .ok (.getfield 45, 3) := by decide +kernel
theorem dX8_spent_133 : decode cX8_spent 133 = .ok (.iload 7, 2) := by decide +kernel
theorem dX8_spent_135 : decode cX8_spent 135 = .ok (.iaload, 1) := by decide +kernel
theorem dX8_spent_136 : decode cX8_spent 136 = .ok (.if_icmp .ne 7, 3) := by decide +kernel
theorem dX8_spent_139 : decode cX8_spent 139 = .ok (.iconst 1, 1) := by decide +kernel
theorem dX8_spent_140 : decode cX8_spent 140 = .ok (.goto 4, 3) := by decide +kernel
theorem dX8_spent_143 : decode cX8_spent 143 = .ok (.iconst 0, 1) := by decide +kernel
theorem dX8_spent_144 : decode cX8_spent 144 = .ok (.iadd, 1) := by decide +kernel
theorem dX8_spent_145 : decode cX8_spent 145 = .ok (.istore_n 1, 1) := by decide +kernel
theorem dX8_spent_146 : decode cX8_spent 146 = .ok (.iinc 7 1, 3) := by decide +kernel
theorem dX8_spent_149 : decode cX8_spent 149 = .ok (.goto (-35), 3) := by decide +kernel
theorem dX8_spent_152 : decode cX8_spent 152 = .ok (.iinc 5 1, 3) := by decide +kernel
theorem dX8_spent_155 : decode cX8_spent 155 = .ok (.goto (-93), 3) := by decide +kernel
theorem dX8_spent_158 : decode cX8_spent 158 = .ok (.iinc 4 1, 3) := by decide +kernel
theorem dX8_spent_161 : decode cX8_spent 161 = .ok (.goto (-110), 3) := by decide +kernel
theorem dX8_spent_164 : decode cX8_spent 164 = .ok (.iinc 2 1, 3) := by decide +kernel
theorem dX8_spent_167 : decode cX8_spent 167 = .ok (.goto (-163), 3) := by decide +kernel
theorem dX8_spent_170 : decode cX8_spent 170 = .ok (.iload_n 1, 1) := by decide +kernel
theorem dX8_spent_171 : decode cX8_spent 171 = .ok (.ireturn, 1) := by decide +kernel
theorem dX8_pairs_0 : decode cX8_pairs 0 = .ok (.aload_n 0, 1) := by decide +kernel
theorem dX8_pairs_1 : decode cX8_pairs 1 = .ok (.iconst 0, 1) := by decide +kernel
theorem dX8_pairs_2 : decode cX8_pairs 2 = .ok (.putfield 75, 3) := by decide +kernel
theorem dX8_pairs_5 : decode cX8_pairs 5 = .ok (.aload_n 0, 1) := by decide +kernel
theorem dX8_pairs_6 : decode cX8_pairs 6 = .ok (.iconst 0, 1) := by decide +kernel
theorem dX8_pairs_7 : decode cX8_pairs 7 = .ok (.putfield 179, 3) := by decide +kernel
theorem dX8_pairs_10 : decode cX8_pairs 10 = .ok (.iconst 0, 1) := by decide +kernel
theorem dX8_pairs_11 : decode cX8_pairs 11 = .ok (.istore_n 1, 1) := by decide +kernel
theorem dX8_pairs_12 : decode cX8_pairs 12 = .ok (.iload_n 1, 1) := by decide +kernel
theorem dX8_pairs_13 : decode cX8_pairs 13 = .ok (.bipush 6, 2) := by decide +kernel
theorem dX8_pairs_15 : decode cX8_pairs 15 = .ok (.if_icmp .ge 16, 3) := by decide +kernel
theorem dX8_pairs_18 : decode cX8_pairs 18 = .ok (.aload_n 0, 1) := by decide +kernel
theorem dX8_pairs_19 : decode cX8_pairs 19 = .ok (.getfield 60, 3) := by decide +kernel
theorem dX8_pairs_22 : decode cX8_pairs 22 = .ok (.iload_n 1, 1) := by decide +kernel
theorem dX8_pairs_23 : decode cX8_pairs 23 = .ok (.iconst 0, 1) := by decide +kernel
theorem dX8_pairs_24 : decode cX8_pairs 24 = .ok (.iastore, 1) := by decide +kernel
theorem dX8_pairs_25 : decode cX8_pairs 25 = .ok (.iinc 1 1, 3) := by decide +kernel
theorem dX8_pairs_28 : decode cX8_pairs 28 = .ok (.goto (-16), 3) := by decide +kernel
theorem dX8_pairs_31 : decode cX8_pairs 31 = .ok (.iconst 0, 1) := by decide +kernel
theorem dX8_pairs_32 : decode cX8_pairs 32 = .ok (.istore_n 1, 1) := by decide +kernel
theorem dX8_pairs_33 : decode cX8_pairs 33 = .ok (.iload_n 1, 1) := by decide +kernel
theorem dX8_pairs_34 : decode cX8_pairs 34 = .ok (.aload_n 0, 1) := by decide +kernel
theorem dX8_pairs_35 : decode cX8_pairs 35 = .ok (.getfield 78, 3) := by decide +kernel
theorem dX8_pairs_38 : decode cX8_pairs 38 = .ok (.if_icmp .ge 118, 3) := by decide +kernel
theorem dX8_pairs_41 : decode cX8_pairs 41 = .ok (.iload_n 1, 1) := by decide +kernel
theorem dX8_pairs_42 : decode cX8_pairs 42 = .ok (.iconst 1, 1) := by decide +kernel
theorem dX8_pairs_43 : decode cX8_pairs 43 = .ok (.iadd, 1) := by decide +kernel
theorem dX8_pairs_44 : decode cX8_pairs 44 = .ok (.istore_n 2, 1) := by decide +kernel
theorem dX8_pairs_45 : decode cX8_pairs 45 = .ok (.iload_n 2, 1) := by decide +kernel
theorem dX8_pairs_46 : decode cX8_pairs 46 = .ok (.aload_n 0, 1) := by decide +kernel
theorem dX8_pairs_47 : decode cX8_pairs 47 = .ok (.getfield 78, 3) := by decide +kernel
theorem dX8_pairs_50 : decode cX8_pairs 50 = .ok (.if_icmp .ge 100, 3) := by decide +kernel
theorem dX8_pairs_53 : decode cX8_pairs 53 = .ok (.aload_n 0, 1) := by decide +kernel
theorem dX8_pairs_54 : decode cX8_pairs 54 = .ok (.getfield 9, 3) := by decide +kernel
theorem dX8_pairs_57 : decode cX8_pairs 57 = .ok (.iload_n 1, 1) := by decide +kernel
theorem dX8_pairs_58 : decode cX8_pairs 58 = .ok (.baload, 1) := by decide +kernel
theorem dX8_pairs_59 : decode cX8_pairs 59 = .ok (.ifCond .ne 85, 3) := by decide +kernel
theorem dX8_pairs_62 : decode cX8_pairs 62 = .ok (.aload_n 0, 1) := by decide +kernel
theorem dX8_pairs_63 : decode cX8_pairs 63 = .ok (.getfield 9, 3) := by decide +kernel
theorem dX8_pairs_66 : decode cX8_pairs 66 = .ok (.iload_n 2, 1) := by decide +kernel
theorem dX8_pairs_67 : decode cX8_pairs 67 = .ok (.baload, 1) := by decide +kernel
theorem dX8_pairs_68 : decode cX8_pairs 68 = .ok (.ifCond .eq 6, 3) := by decide +kernel
theorem dX8_pairs_71 : decode cX8_pairs 71 = .ok (.goto 73, 3) := by decide +kernel
theorem dX8_pairs_74 : decode cX8_pairs 74 = .ok (.aload_n 0, 1) := by decide +kernel
theorem dX8_pairs_75 : decode cX8_pairs 75 = .ok (.iload_n 1, 1) := by decide +kernel
theorem dX8_pairs_76 : decode cX8_pairs 76 = .ok (.iload_n 2, 1) := by decide +kernel
theorem dX8_pairs_77 : decode cX8_pairs 77 = .ok (.invokevirtual 174, 3) := by decide +kernel
theorem dX8_pairs_80 : decode cX8_pairs 80 = .ok (.istore_n 3, 1) := by decide +kernel
theorem dX8_pairs_81 : decode cX8_pairs 81 = .ok (.aload_n 0, 1) := by decide +kernel
theorem dX8_pairs_82 : decode cX8_pairs 82 = .ok (.getfield 60, 3) := by decide +kernel
theorem dX8_pairs_85 : decode cX8_pairs 85 = .ok (.iload_n 3, 1) := by decide +kernel
theorem dX8_pairs_86 : decode cX8_pairs 86 = .ok (.ifCond .ne 7, 3) := by decide +kernel
theorem dX8_pairs_89 : decode cX8_pairs 89 = .ok (.iconst 0, 1) := by decide +kernel
theorem dX8_pairs_90 : decode cX8_pairs 90 = .ok (.goto 22, 3) := by decide +kernel
theorem dX8_pairs_93 : decode cX8_pairs 93 = .ok (.iload_n 3, 1) := by decide +kernel
theorem dX8_pairs_94 : decode cX8_pairs 94 = .ok (.iconst 4, 1) := by decide +kernel
theorem dX8_pairs_95 : decode cX8_pairs 95 = .ok (.if_icmp .ne 7, 3) := by decide +kernel
theorem dX8_pairs_98 : decode cX8_pairs 98 = .ok (.iconst 1, 1) := by decide +kernel
theorem dX8_pairs_99 : decode cX8_pairs 99 = .ok (.goto 13, 3) := by decide +kernel
theorem dX8_pairs_102 : decode cX8_pairs 102 = .ok (.iload_n 3, 1) := by decide +kernel
theorem dX8_pairs_103 : decode cX8_pairs 103 = .ok (.iconst 1, 1) := by decide +kernel
theorem dX8_pairs_104 : decode cX8_pairs 104 = .ok (.if_icmp .ne 7, 3) := by decide +kernel
theorem dX8_pairs_107 : decode cX8_pairs 107 = .ok (.iconst 4, 1) := by decide +kernel
theorem dX8_pairs_108 : decode cX8_pairs 108 = .ok (.goto 4, 3) := by decide +kernel
theorem dX8_pairs_111 : decode cX8_pairs 111 = .ok (.iload_n 3, 1) := by decide +kernel
theorem dX8_pairs_112 : decode cX8_pairs 112 = .ok (.dup2, 1) := by decide +kernel
theorem dX8_pairs_113 : decode cX8_pairs 113 = .ok (.iaload, 1) := by decide +kernel
theorem dX8_pairs_114 : decode cX8_pairs 114 = .ok (.iconst 1, 1) := by decide +kernel
theorem dX8_pairs_115 : decode cX8_pairs 115 = .ok (.iadd, 1) := by decide +kernel
theorem dX8_pairs_116 : decode cX8_pairs 116 = .ok (.iastore, 1) := by decide +kernel
theorem dX8_pairs_117 : decode cX8_pairs 117 = .ok (.iload_n 3, 1) := by decide +kernel
theorem dX8_pairs_118 : decode cX8_pairs 118 = .ok (.ifCond .le 6, 3) := by decide +kernel
theorem dX8_pairs_121 : decode cX8_pairs 121 = .ok (.goto 23, 3) := by decide +kernel
theorem dX8_pairs_124 : decode cX8_pairs 124 = .ok (.aload_n 0, 1) := by decide +kernel
theorem dX8_pairs_125 : decode cX8_pairs 125 = .ok (.aload_n 0, 1) := by decide +kernel
theorem dX8_pairs_126 : decode cX8_pairs 126 = .ok (.getfield 179, 3) := by decide +kernel
theorem dX8_pairs_129 : decode cX8_pairs 129 = .ok (.iload_n 1, 1) := by decide +kernel
theorem dX8_pairs_130 : decode cX8_pairs 130 = .ok (.iload_n 2, 1) := by decide +kernel
theorem dX8_pairs_131 : decode cX8_pairs 131 = .ok (.invokevirtual 182, 3) := by decide +kernel
theorem dX8_pairs_134 : decode cX8_pairs 134 = .ok (.aload_n 0, 1) := by decide +kernel
theorem dX8_pairs_135 : decode cX8_pairs 135 = .ok (.dup, 1) := by decide +kernel
theorem dX8_pairs_136 : decode cX8_pairs 136 = .ok (.getfield 179, 3) := by decide +kernel
theorem dX8_pairs_139 : decode cX8_pairs 139 = .ok (.iconst 1, 1) := by decide +kernel
theorem dX8_pairs_140 : decode cX8_pairs 140 = .ok (.iadd, 1) := by decide +kernel
theorem dX8_pairs_141 : decode cX8_pairs 141 = .ok (.putfield 179, 3) := by decide +kernel
theorem dX8_pairs_144 : decode cX8_pairs 144 = .ok (.iinc 2 1, 3) := by decide +kernel
theorem dX8_pairs_147 : decode cX8_pairs 147 = .ok (.goto (-102), 3) := by decide +kernel
theorem dX8_pairs_150 : decode cX8_pairs 150 = .ok (.iinc 1 1, 3) := by decide +kernel
theorem dX8_pairs_153 : decode cX8_pairs 153 = .ok (.goto (-120), 3) := by decide +kernel
theorem dX8_pairs_156 : decode cX8_pairs 156 = .ok (.aload_n 0, 1) := by decide +kernel
theorem dX8_pairs_157 : decode cX8_pairs 157 = .ok (.getfield 60, 3) := by decide +kernel
theorem dX8_pairs_160 : decode cX8_pairs 160 = .ok (.iconst 5, 1) := by decide +kernel
theorem dX8_pairs_161 : decode cX8_pairs 161 = .ok (.aload_n 0, 1) := by decide +kernel
theorem dX8_pairs_162 : decode cX8_pairs 162 = .ok (.invokevirtual 186, 3) := by decide +kernel
theorem dX8_pairs_165 : decode cX8_pairs 165 = .ok (.iastore, 1) := by decide +kernel
theorem dX8_pairs_166 : decode cX8_pairs 166 = .ok (.aload_n 0, 1) := by decide +kernel
theorem dX8_pairs_167 : decode cX8_pairs 167 = .ok (.getfield 179, 3) := by decide +kernel
theorem dX8_pairs_170 : decode cX8_pairs 170 = .ok (.ireturn, 1) := by decide +kernel
theorem dX8_pair_0 : decode cX8_pair 0 = .ok (.aload_n 0, 1) := by decide +kernel
theorem dX8_pair_1 : decode cX8_pair 1 = .ok (.iload_n 1, 1) := by decide +kernel
theorem dX8_pair_2 : decode cX8_pair 2 = .ok (.iconst 0, 1) := by decide +kernel
theorem dX8_pair_3 : decode cX8_pair 3 = .ok (.aload_n 0, 1) := by decide +kernel
theorem dX8_pair_4 : decode cX8_pair 4 = .ok (.getfield 179, 3) := by decide +kernel
theorem dX8_pair_7 : decode cX8_pair 7 = .ok (.iconst 1, 1) := by decide +kernel
theorem dX8_pair_8 : decode cX8_pair 8 = .ok (.isub, 1) := by decide +kernel
theorem dX8_pair_9 : decode cX8_pair 9 = .ok (.invokestatic 81, 3) := by decide +kernel
theorem dX8_pair_12 : decode cX8_pair 12 = .ok (.ifCond .eq 16, 3) := by decide +kernel
theorem dX8_pair_15 : decode cX8_pair 15 = .ok (.iload_n 2, 1) := by decide +kernel
theorem dX8_pair_16 : decode cX8_pair 16 = .ok (.iconst 0, 1) := by decide +kernel
theorem dX8_pair_17 : decode cX8_pair 17 = .ok (.iconst 2, 1) := by decide +kernel
theorem dX8_pair_18 : decode cX8_pair 18 = .ok (.invokestatic 81, 3) := by decide +kernel
theorem dX8_pair_21 : decode cX8_pair 21 = .ok (.ifCond .eq 7, 3) := by decide +kernel
theorem dX8_pair_24 : decode cX8_pair 24 = .ok (.iconst 0, 1) := by decide +kernel
theorem dX8_pair_25 : decode cX8_pair 25 = .ok (.goto 4, 3) := by decide +kernel
theorem dX8_pair_28 : decode cX8_pair 28 = .ok (.iconst 1, 1) := by decide +kernel
theorem dX8_pair_29 : decode cX8_pair 29 = .ok (.putfield 75, 3) := by decide +kernel
theorem dX8_pair_32 : decode cX8_pair 32 = .ok (.aload_n 0, 1) := by decide +kernel
theorem dX8_pair_33 : decode cX8_pair 33 = .ok (.getfield 75, 3) := by decide +kernel
theorem dX8_pair_36 : decode cX8_pair 36 = .ok (.ifCond .le 5, 3) := by decide +kernel
theorem dX8_pair_39 : decode cX8_pair 39 = .ok (.iconst 0, 1) := by decide +kernel
theorem dX8_pair_40 : decode cX8_pair 40 = .ok (.ireturn, 1) := by decide +kernel
theorem dX8_pair_41 : decode cX8_pair 41 = .ok (.iload_n 2, 1) := by decide +kernel
theorem dX8_pair_42 : decode cX8_pair 42 = .ok (.ifCond .ne 12, 3) := by decide +kernel
theorem dX8_pair_45 : decode cX8_pair 45 = .ok (.aload_n 0, 1) := by decide +kernel
theorem dX8_pair_46 : decode cX8_pair 46 = .ok (.getfield 51, 3) := by decide +kernel
theorem dX8_pair_49 : decode cX8_pair 49 = .ok (.iload_n 1, 1) := by decide +kernel
theorem dX8_pair_50 : decode cX8_pair 50 = .ok (.iaload, 1) := by decide +kernel
theorem dX8_pair_51 : decode cX8_pair 51 = .ok (.goto 23, 3) := by decide +kernel
theorem dX8_pair_54 : decode cX8_pair 54 = .ok (.iload_n 2, 1) := by decide +kernel
theorem dX8_pair_55 : decode cX8_pair 55 = .ok (.iconst 1, 1) := by decide +kernel
theorem dX8_pair_56 : decode cX8_pair 56 = .ok (.if_icmp .ne 12, 3) := by decide +kernel
theorem dX8_pair_59 : decode cX8_pair 59 = .ok (.aload_n 0, 1) := by decide +kernel
theorem dX8_pair_60 : decode cX8_pair 60 = .ok (.getfield 54, 3) := by decide +kernel
theorem dX8_pair_63 : decode cX8_pair 63 = .ok (.iload_n 1, 1) := by decide +kernel
theorem dX8_pair_64 : decode cX8_pair 64 = .ok (.iaload, 1) := by decide +kernel
theorem dX8_pair_65 : decode cX8_pair 65 = .ok (.goto 9, 3) := by decide +kernel
theorem dX8_pair_68 : decode cX8_pair 68 = .ok (.aload_n 0, 1) := by decide +kernel
theorem dX8_pair_69 : decode cX8_pair 69 = .ok (.getfield 57, 3) := by decide +kernel
theorem dX8_pair_72 : decode cX8_pair 72 = .ok (.iload_n 1, 1) := by decide +kernel
theorem dX8_pair_73 : decode cX8_pair 73 = .ok (.iaload, 1) := by decide +kernel
theorem dX8_pair_74 : decode cX8_pair 74 = .ok (.ireturn, 1) := by decide +kernel
theorem dX8_isLiker_0 : decode cX8_isLiker 0 = .ok (.aload_n 0, 1) := by decide +kernel
theorem dX8_isLiker_1 : decode cX8_isLiker 1 = .ok (.iload_n 1, 1) := by decide +kernel
theorem dX8_isLiker_2 : decode cX8_isLiker 2 = .ok (.invokevirtual 136, 3) := by decide +kernel
theorem dX8_isLiker_5 : decode cX8_isLiker 5 = .ok (.i2l, 1) := by decide +kernel
theorem dX8_isLiker_6 : decode cX8_isLiker 6 = .ok (.lstore 5, 2) := by decide +kernel
theorem dX8_isLiker_8 : decode cX8_isLiker 8 = .ok (.aload_n 0, 1) := by decide +kernel
theorem dX8_isLiker_9 : decode cX8_isLiker 9 = .ok (.iload_n 2, 1) := by decide +kernel
theorem dX8_isLiker_10 : decode cX8_isLiker 10 = .ok (.invokevirtual 136, 3) := by decide +kernel
theorem dX8_isLiker_13 : decode cX8_isLiker 13 = .ok (.i2l, 1) := by decide +kernel
theorem dX8_isLiker_14 : decode cX8_isLiker 14 = .ok (.lstore 7, 2) := by decide +kernel
theorem dX8_isLiker_16 : decode cX8_isLiker 16 = .ok (.aload_n 0, 1) := by decide +kernel
theorem dX8_isLiker_17 : decode cX8_isLiker 17 = .ok (.iload_n 1, 1) := by decide +kernel
theorem dX8_isLiker_18 : decode cX8_isLiker 18 = .ok (.iload_n 2, 1) := by decide +kernel
theorem dX8_isLiker_19 : decode cX8_isLiker 19 = .ok (.invokevirtual 139, 3) := by decide +kernel
theorem dX8_isLiker_22 : decode cX8_isLiker 22 = .ok (.i2l, 1) := by decide +kernel
theorem dX8_isLiker_23 : decode cX8_isLiker 23 = .ok (.lstore 9, 2) := by decide +kernel
theorem dX8_isLiker_25 : decode cX8_isLiker 25 = .ok (.aload_n 0, 1) := by decide +kernel
theorem dX8_isLiker_26 : decode cX8_isLiker 26 = .ok (.iload_n 3, 1) := by decide +kernel
theorem dX8_isLiker_27 : decode cX8_isLiker 27 = .ok (.invokevirtual 136, 3) := by decide +kernel
theorem dX8_isLiker_30 : decode cX8_isLiker 30 = .ok (.i2l, 1) := by decide +kernel
theorem dX8_isLiker_31 : decode cX8_isLiker 31 = .ok (.lstore 11, 2) := by decide +kernel
theorem dX8_isLiker_33 : decode cX8_isLiker 33 = .ok (.aload_n 0, 1) := by decide +kernel
theorem dX8_isLiker_34 : decode cX8_isLiker 34 = .ok (.iload 4, 2) := by decide +kernel
theorem dX8_isLiker_36 : decode cX8_isLiker 36 = .ok (.invokevirtual 136, 3) := by decide +kernel
theorem dX8_isLiker_39 : decode cX8_isLiker 39 = .ok (.i2l, 1) := by decide +kernel
theorem dX8_isLiker_40 : decode cX8_isLiker 40 = .ok (.lstore 13, 2) := by decide +kernel
theorem dX8_isLiker_42 : decode cX8_isLiker 42 = .ok (.aload_n 0, 1) := by decide +kernel
theorem dX8_isLiker_43 : decode cX8_isLiker 43 = .ok (.iload_n 3, 1) := by decide +kernel
theorem dX8_isLiker_44 : decode cX8_isLiker 44 = .ok (.iload 4, 2) := by decide +kernel
theorem dX8_isLiker_46 : decode cX8_isLiker 46 = .ok (.invokevirtual 139, 3) := by decide +kernel
theorem dX8_isLiker_49 : decode cX8_isLiker 49 = .ok (.i2l, 1) := by decide +kernel
theorem dX8_isLiker_50 : decode cX8_isLiker 50 = .ok (.lstore 15, 2) := by decide +kernel
theorem dX8_isLiker_52 : decode cX8_isLiker 52 = .ok (.aload_n 0, 1) := by decide +kernel
theorem dX8_isLiker_53 : decode cX8_isLiker 53 = .ok (.lload 5, 2) := by decide +kernel
theorem dX8_isLiker_55 : decode cX8_isLiker 55 = .ok (.lload 7, 2) := by decide +kernel
theorem dX8_isLiker_57 : decode cX8_isLiker 57 = .ok (.lload 9, 2) := by decide +kernel
theorem dX8_isLiker_59 : decode cX8_isLiker 59 = .ok (.invokevirtual 142, 3) := by decide +kernel
theorem dX8_isLiker_62 : decode cX8_isLiker 62 = .ok (.aload_n 0, 1) := by decide +kernel
theorem dX8_isLiker_63 : decode cX8_isLiker 63 = .ok (.lload 11, 2) := by decide +kernel
theorem dX8_isLiker_65 : decode cX8_isLiker 65 = .ok (.lload 13, 2) := by decide +kernel
theorem dX8_isLiker_67 : decode cX8_isLiker 67 = .ok (.lload 15, 2) := by decide +kernel
theorem dX8_isLiker_69 : decode cX8_isLiker 69 = .ok (.invokevirtual 146, 3) := by decide +kernel
theorem dX8_isLiker_72 : decode cX8_isLiker 72 = .ok (.lmul, 1) := by decide +kernel
theorem dX8_isLiker_73 : decode cX8_isLiker 73 = .ok (.aload_n 0, 1) := by decide +kernel
theorem dX8_isLiker_74 : decode cX8_isLiker 74 = .ok (.lload 11, 2) := by decide +kernel
theorem dX8_isLiker_76 : decode cX8_isLiker 76 = .ok (.lload 13, 2) := by decide +kernel
theorem dX8_isLiker_78 : decode cX8_isLiker 78 = .ok (.lload 15, 2) := by decide +kernel
theorem dX8_isLiker_80 : decode cX8_isLiker 80 = .ok (.invokevirtual 142, 3) := by decide +kernel
theorem dX8_isLiker_83 : decode cX8_isLiker 83 = .ok (.aload_n 0, 1) := by decide +kernel
theorem dX8_isLiker_84 : decode cX8_isLiker 84 = .ok (.lload 5, 2) := by decide +kernel
theorem dX8_isLiker_86 : decode cX8_isLiker 86 = .ok (.lload 7, 2) := by decide +kernel
theorem dX8_isLiker_88 : decode cX8_isLiker 88 = .ok (.lload 9, 2) := by decide +kernel
theorem dX8_isLiker_90 : decode cX8_isLiker 90 = .ok (.invokevirtual 146, 3) := by decide +kernel
theorem dX8_isLiker_93 : decode cX8_isLiker 93 = .ok (.lmul, 1) := by decide +kernel
theorem dX8_isLiker_94 : decode cX8_isLiker 94 = .ok (.lcmp, 1) := by decide +kernel
theorem dX8_isLiker_95 : decode cX8_isLiker 95 = .ok (.ifCond .le 7, 3) := by decide +kernel
theorem dX8_isLiker_98 : decode cX8_isLiker 98 = .ok (.iconst 1, 1) := by decide +kernel
theorem dX8_isLiker_99 : decode cX8_isLiker 99 = .ok (.goto 4, 3) := by decide +kernel
theorem dX8_isLiker_102 : decode cX8_isLiker 102 = .ok (.iconst 0, 1) := by decide +kernel
theorem dX8_isLiker_103 : decode cX8_isLiker 103 = .ok (.ireturn, 1) := by decide +kernel
theorem dX8_top_0 : decode cX8_top 0 = .ok (.aload_n 0, 1) := by decide +kernel
theorem dX8_top_1 : decode cX8_top 1 = .ok (.iconst 0, 1) := by decide +kernel
theorem dX8_top_2 : decode cX8_top 2 = .ok (.putfield 75, 3) := by decide +kernel
theorem dX8_top_5 : decode cX8_top 5 = .ok (.iload_n 1, 1) := by decide +kernel
theorem dX8_top_6 : decode cX8_top 6 = .ok (.iconst 1, 1) := by decide +kernel
theorem dX8_top_7 : decode cX8_top 7 = .ok (.bipush 100, 2) := by decide +kernel
theorem dX8_top_9 : decode cX8_top 9 = .ok (.invokestatic 81, 3) := by decide +kernel
theorem dX8_top_12 : decode cX8_top 12 = .ok (.ifCond .ne 5, 3) := by decide +kernel
theorem dX8_top_15 : decode cX8_top 15 = .ok (.iconst (-1), 1) := by decide +kernel
theorem dX8_top_16 : decode cX8_top 16 = .ok (.ireturn, 1) := by decide +kernel
theorem dX8_top_17 : decode cX8_top 17 = .ok (.aload_n 0, 1) := by decide +kernel
theorem dX8_top_18 : decode cX8_top 18 = .ok (.iconst 0, 1) := by decide +kernel
theorem dX8_top_19 : decode cX8_top 19 = .ok (.putfield 179, 3) := by decide +kernel
theorem dX8_top_22 : decode cX8_top 22 = .ok (.iconst 0, 1) := by decide +kernel
theorem dX8_top_23 : decode cX8_top 23 = .ok (.istore_n 2, 1) := by decide +kernel
theorem dX8_top_24 : decode cX8_top 24 = .ok (.iload_n 2, 1) := by decide +kernel
theorem dX8_top_25 : decode cX8_top 25 = .ok (.aload_n 0, 1) := by decide +kernel
theorem dX8_top_26 : decode cX8_top 26 = .ok (.getfield 78, 3) := by decide +kernel
theorem dX8_top_29 : decode cX8_top 29 = .ok (.if_icmp .ge 187, 3) := by decide +kernel
theorem dX8_top_32 : decode cX8_top 32 = .ok (.iload_n 2, 1) := by decide +kernel
theorem dX8_top_33 : decode cX8_top 33 = .ok (.iconst 1, 1) := by decide +kernel
theorem dX8_top_34 : decode cX8_top 34 = .ok (.iadd, 1) := by decide +kernel
theorem dX8_top_35 : decode cX8_top 35 = .ok (.istore_n 3, 1) := by decide +kernel
theorem dX8_top_36 : decode cX8_top 36 = .ok (.iload_n 3, 1) := by decide +kernel
theorem dX8_top_37 : decode cX8_top 37 = .ok (.aload_n 0, 1) := by decide +kernel
theorem dX8_top_38 : decode cX8_top 38 = .ok (.getfield 78, 3) := by decide +kernel
theorem dX8_top_41 : decode cX8_top 41 = .ok (.if_icmp .ge 169, 3) := by decide +kernel
theorem dX8_top_44 : decode cX8_top 44 = .ok (.aload_n 0, 1) := by decide +kernel
theorem dX8_top_45 : decode cX8_top 45 = .ok (.getfield 9, 3) := by decide +kernel
theorem dX8_top_48 : decode cX8_top 48 = .ok (.iload_n 2, 1) := by decide +kernel
theorem dX8_top_49 : decode cX8_top 49 = .ok (.baload, 1) := by decide +kernel
theorem dX8_top_50 : decode cX8_top 50 = .ok (.ifCond .ne 154, 3) := by decide +kernel
theorem dX8_top_53 : decode cX8_top 53 = .ok (.aload_n 0, 1) := by decide +kernel
theorem dX8_top_54 : decode cX8_top 54 = .ok (.getfield 9, 3) := by decide +kernel
theorem dX8_top_57 : decode cX8_top 57 = .ok (.iload_n 3, 1) := by decide +kernel
theorem dX8_top_58 : decode cX8_top 58 = .ok (.baload, 1) := by decide +kernel
theorem dX8_top_59 : decode cX8_top 59 = .ok (.ifCond .ne 145, 3) := by decide +kernel
theorem dX8_top_62 : decode cX8_top 62 = .ok (.aload_n 0, 1) := by decide +kernel
theorem dX8_top_63 : decode cX8_top 63 = .ok (.iload_n 2, 1) := by decide +kernel
theorem dX8_top_64 : decode cX8_top 64 = .ok (.iload_n 3, 1) := by decide +kernel
theorem dX8_top_65 : decode cX8_top 65 = .ok (.invokevirtual 139, 3) := by decide +kernel
theorem dX8_top_68 : decode cX8_top 68 = .ok (.ifCond .ne 6, 3) := by decide +kernel
theorem dX8_top_71 : decode cX8_top 71 = .ok (.goto 133, 3) := by decide +kernel
theorem dX8_top_74 : decode cX8_top 74 = .ok (.aload_n 0, 1) := by decide +kernel
theorem dX8_top_75 : decode cX8_top 75 = .ok (.getfield 179, 3) := by decide +kernel
theorem dX8_top_78 : decode cX8_top 78 = .ok (.iload_n 1, 1) := by decide +kernel
theorem dX8_top_79 : decode cX8_top 79 = .ok (.if_icmp .ge 10, 3) := by decide +kernel
theorem dX8_top_82 : decode cX8_top 82 = .ok (.aload_n 0, 1) := by decide +kernel
theorem dX8_top_83 : decode cX8_top 83 = .ok (.getfield 179, 3) := by decide +kernel
theorem dX8_top_86 : decode cX8_top 86 = .ok (.goto 4, 3) := by decide +kernel
theorem dX8_top_89 : decode cX8_top 89 = .ok (.iload_n 1, 1) := by decide +kernel
theorem dX8_top_90 : decode cX8_top 90 = .ok (.istore 4, 2) := by decide +kernel
theorem dX8_top_92 : decode cX8_top 92 = .ok (.iload 4, 2) := by decide +kernel
theorem dX8_top_94 : decode cX8_top 94 = .ok (.ifCond .le 84, 3) := by decide +kernel
theorem dX8_top_97 : decode cX8_top 97 = .ok (.aload_n 0, 1) := by decide +kernel
theorem dX8_top_98 : decode cX8_top 98 = .ok (.iload_n 2, 1) := by decide +kernel
theorem dX8_top_99 : decode cX8_top 99 = .ok (.iload_n 3, 1) := by decide +kernel
theorem dX8_top_100 : decode cX8_top 100 = .ok (.aload_n 0, 1) := by decide +kernel
theorem dX8_top_101 : decode cX8_top 101 = .ok (.getfield 51, 3) := by decide +kernel
theorem dX8_top_104 : decode cX8_top 104 = .ok (.iload 4, 2) := by decide +kernel
theorem dX8_top_106 : decode cX8_top 106 = .ok (.iconst 1, 1) := by decide +kernel
theorem dX8_top_107 : decode cX8_top 107 = .ok (.isub, 1) := by decide +kernel
theorem dX8_top_108 : decode cX8_top 108 = .ok (.iaload, 1) := by decide +kernel
theorem dX8_top_109 : decode cX8_top 109 = .ok (.aload_n 0, 1) := by decide +kernel
theorem dX8_top_110 : decode cX8_top 110 = .ok (.getfield 54, 3) := by decide +kernel
theorem dX8_top_113 : decode cX8_top 113 = .ok (.iload 4, 2) := by decide +kernel
theorem dX8_top_115 : decode cX8_top 115 = .ok (.iconst 1, 1) := by decide +kernel
theorem dX8_top_116 : decode cX8_top 116 = .ok (.isub, 1) := by decide +kernel
theorem dX8_top_117 : decode cX8_top 117 = .ok (.iaload, 1) := by decide +kernel
theorem dX8_top_118 : decode cX8_top 118 = .ok (.invokevirtual 190, 3) := by decide +kernel
theorem dX8_top_121 : decode cX8_top 121 = .ok (.ifCond .eq 57, 3) := by decide +kernel
theorem dX8_top_124 : decode cX8_top 124 = .ok (.aload_n 0, 1) := by decide +kernel
theorem dX8_top_125 : decode cX8_top 125 = .ok (.getfield 51, 3) := by decide +kernel
theorem dX8_top_128 : decode cX8_top 128 = .ok (.iload 4, 2) := by decide +kernel
theorem dX8_top_130 : decode cX8_top 130 = .ok (.aload_n 0, 1) := by decide +kernel
theorem dX8_top_131 : decode cX8_top 131 = .ok (.getfield 51, 3) := by decide +kernel
theorem dX8_top_134 : decode cX8_top 134 = .ok (.iload 4, 2) := by decide +kernel
theorem dX8_top_136 : decode cX8_top 136 = .ok (.iconst 1, 1) := by decide +kernel
theorem dX8_top_137 : decode cX8_top 137 = .ok (.isub, 1) := by decide +kernel
theorem dX8_top_138 : decode cX8_top 138 = .ok (.iaload, 1) := by decide +kernel
theorem dX8_top_139 : decode cX8_top 139 = .ok (.iastore, 1) := by decide +kernel
theorem dX8_top_140 : decode cX8_top 140 = .ok (.aload_n 0, 1) := by decide +kernel
theorem dX8_top_141 : decode cX8_top 141 = .ok (.getfield 54, 3) := by decide +kernel
theorem dX8_top_144 : decode cX8_top 144 = .ok (.iload 4, 2) := by decide +kernel
theorem dX8_top_146 : decode cX8_top 146 = .ok (.aload_n 0, 1) := by decide +kernel
theorem dX8_top_147 : decode cX8_top 147 = .ok (.getfield 54, 3) := by decide +kernel
theorem dX8_top_150 : decode cX8_top 150 = .ok (.iload 4, 2) := by decide +kernel
theorem dX8_top_152 : decode cX8_top 152 = .ok (.iconst 1, 1) := by decide +kernel
theorem dX8_top_153 : decode cX8_top 153 = .ok (.isub, 1) := by decide +kernel
theorem dX8_top_154 : decode cX8_top 154 = .ok (.iaload, 1) := by decide +kernel
theorem dX8_top_155 : decode cX8_top 155 = .ok (.iastore, 1) := by decide +kernel
theorem dX8_top_156 : decode cX8_top 156 = .ok (.aload_n 0, 1) := by decide +kernel
theorem dX8_top_157 : decode cX8_top 157 = .ok (.getfield 57, 3) := by decide +kernel
theorem dX8_top_160 : decode cX8_top 160 = .ok (.iload 4, 2) := by decide +kernel
theorem dX8_top_162 : decode cX8_top 162 = .ok (.aload_n 0, 1) := by decide +kernel
theorem dX8_top_163 : decode cX8_top 163 = .ok (.getfield 57, 3) := by decide +kernel
theorem dX8_top_166 : decode cX8_top 166 = .ok (.iload 4, 2) := by decide +kernel
theorem dX8_top_168 : decode cX8_top 168 = .ok (.iconst 1, 1) := by decide +kernel
theorem dX8_top_169 : decode cX8_top 169 = .ok (.isub, 1) := by decide +kernel
theorem dX8_top_170 : decode cX8_top 170 = .ok (.iaload, 1) := by decide +kernel
theorem dX8_top_171 : decode cX8_top 171 = .ok (.iastore, 1) := by decide +kernel
theorem dX8_top_172 : decode cX8_top 172 = .ok (.iinc 4 (-1), 3) := by decide +kernel
theorem dX8_top_175 : decode cX8_top 175 = .ok (.goto (-83), 3) := by decide +kernel
theorem dX8_top_178 : decode cX8_top 178 = .ok (.aload_n 0, 1) := by decide +kernel
theorem dX8_top_179 : decode cX8_top 179 = .ok (.iload 4, 2) := by decide +kernel
theorem dX8_top_181 : decode cX8_top 181 = .ok (.iload_n 2, 1) := by decide +kernel
theorem dX8_top_182 : decode cX8_top 182 = .ok (.iload_n 3, 1) := by decide +kernel
theorem dX8_top_183 : decode cX8_top 183 = .ok (.invokevirtual 182, 3) := by decide +kernel
theorem dX8_top_186 : decode cX8_top 186 = .ok (.aload_n 0, 1) := by decide +kernel
theorem dX8_top_187 : decode cX8_top 187 = .ok (.getfield 179, 3) := by decide +kernel
theorem dX8_top_190 : decode cX8_top 190 = .ok (.iload_n 1, 1) := by decide +kernel
theorem dX8_top_191 : decode cX8_top 191 = .ok (.if_icmp .ge 13, 3) := by decide +kernel
theorem dX8_top_194 : decode cX8_top 194 = .ok (.aload_n 0, 1) := by decide +kernel
theorem dX8_top_195 : decode cX8_top 195 = .ok (.dup, 1) := by decide +kernel
theorem dX8_top_196 : decode cX8_top 196 = .ok (.getfield 179, 3) := by decide +kernel
theorem dX8_top_199 : decode cX8_top 199 = .ok (.iconst 1, 1) := by decide +kernel
theorem dX8_top_200 : decode cX8_top 200 = .ok (.iadd, 1) := by decide +kernel
theorem dX8_top_201 : decode cX8_top 201 = .ok (.putfield 179, 3) := by decide +kernel
theorem dX8_top_204 : decode cX8_top 204 = .ok (.iinc 3 1, 3) := by decide +kernel
theorem dX8_top_207 : decode cX8_top 207 = .ok (.goto (-171), 3) := by decide +kernel
theorem dX8_top_210 : decode cX8_top 210 = .ok (.iinc 2 1, 3) := by decide +kernel
theorem dX8_top_213 : decode cX8_top 213 = .ok (.goto (-189), 3) := by decide +kernel
theorem dX8_top_216 : decode cX8_top 216 = .ok (.aload_n 0, 1) := by decide +kernel
theorem dX8_top_217 : decode cX8_top 217 = .ok (.getfield 179, 3) := by decide +kernel
theorem dX8_top_220 : decode cX8_top 220 = .ok (.ireturn, 1) := by decide +kernel
theorem dX8_steps_0 : decode cX8_steps 0 = .ok (.iconst 0, 1) := by decide +kernel
theorem dX8_steps_1 : decode cX8_steps 1 = .ok (.istore_n 2, 1) := by decide +kernel
theorem dX8_steps_2 : decode cX8_steps 2 = .ok (.iload_n 2, 1) := by decide +kernel
theorem dX8_steps_3 : decode cX8_steps 3 = .ok (.bipush 60, 2) := by decide +kernel
theorem dX8_steps_5 : decode cX8_steps 5 = .ok (.if_icmp .ge 16, 3) := by decide +kernel
theorem dX8_steps_8 : decode cX8_steps 8 = .ok (.aload_n 0, 1) := by decide +kernel
theorem dX8_steps_9 : decode cX8_steps 9 = .ok (.getfield 63, 3) := by decide +kernel
theorem dX8_steps_12 : decode cX8_steps 12 = .ok (.iload_n 2, 1) := by decide +kernel
theorem dX8_steps_13 : decode cX8_steps 13 = .ok (.iconst (-1), 1) := by decide +kernel
theorem dX8_steps_14 : decode cX8_steps 14 = .ok (.iastore, 1) := by decide +kernel
theorem dX8_steps_15 : decode cX8_steps 15 = .ok (.iinc 2 1, 3) := by decide +kernel
theorem dX8_steps_18 : decode cX8_steps 18 = .ok (.goto (-16), 3) := by decide +kernel
theorem dX8_steps_21 : decode cX8_steps 21 = .ok (.aload_n 0, 1) := by decide +kernel
theorem dX8_steps_22 : decode cX8_steps 22 = .ok (.getfield 63, 3) := by decide +kernel
theorem dX8_steps_25 : decode cX8_steps 25 = .ok (.iload_n 1, 1) := by decide +kernel
theorem dX8_steps_26 : decode cX8_steps 26 = .ok (.iconst 0, 1) := by decide +kernel
theorem dX8_steps_27 : decode cX8_steps 27 = .ok (.iastore, 1) := by decide +kernel
theorem dX8_steps_28 : decode cX8_steps 28 = .ok (.iconst 1, 1) := by decide +kernel
theorem dX8_steps_29 : decode cX8_steps 29 = .ok (.istore_n 2, 1) := by decide +kernel
theorem dX8_steps_30 : decode cX8_steps 30 = .ok (.iconst 0, 1) := by decide +kernel
theorem dX8_steps_31 : decode cX8_steps 31 = .ok (.istore_n 3, 1) := by decide +kernel
theorem dX8_steps_32 : decode cX8_steps 32 = .ok (.iload_n 2, 1) := by decide +kernel
theorem dX8_steps_33 : decode cX8_steps 33 = .ok (.ifCond .eq 109, 3) := by decide +kernel
theorem dX8_steps_36 : decode cX8_steps 36 = .ok (.iconst 0, 1) := by decide +kernel
theorem dX8_steps_37 : decode cX8_steps 37 = .ok (.istore_n 2, 1) := by decide +kernel
theorem dX8_steps_38 : decode cX8_steps 38 = .ok (.iconst 0, 1) := by decide +kernel
theorem dX8_steps_39 : decode cX8_steps 39 = .ok (.istore 4, 2) := by decide +kernel
theorem dX8_steps_41 : decode cX8_steps 41 = .ok (.iload 4, 2) := by decide +kernel
theorem dX8_steps_43 : decode cX8_steps 43 = .ok (.aload_n 0, 1) := by decide +kernel
theorem dX8_steps_44 : decode cX8_steps 44 = .ok (.getfield 78, 3) := by decide +kernel
theorem dX8_steps_47 : decode cX8_steps 47 = .ok (.if_icmp .ge 89, 3) := by decide +kernel
theorem dX8_steps_50 : decode cX8_steps 50 = .ok (.aload_n 0, 1) := by decide +kernel
theorem dX8_steps_51 : decode cX8_steps 51 = .ok (.getfield 63, 3) := by decide +kernel
theorem dX8_steps_54 : decode cX8_steps 54 = .ok (.iload 4, 2) := by decide +kernel
theorem dX8_steps_56 : decode cX8_steps 56 = .ok (.iaload, 1) := by decide +kernel
theorem dX8_steps_57 : decode cX8_steps 57 = .ok (.iload_n 3, 1) := by decide +kernel
theorem dX8_steps_58 : decode cX8_steps 58 = .ok (.if_icmp .eq 6, 3) := by decide +kernel
theorem dX8_steps_61 : decode cX8_steps 61 = .ok (.goto 69, 3) := by decide +kernel
theorem dX8_steps_64 : decode cX8_steps 64 = .ok (.iconst 0, 1) := by decide +kernel
theorem dX8_steps_65 : decode cX8_steps 65 = .ok (.istore 5, 2) := by decide +kernel
theorem dX8_steps_67 : decode cX8_steps 67 = .ok (.iload 5, 2) := by decide +kernel
theorem dX8_steps_69 : decode cX8_steps 69 = .ok (.aload_n 0, 1) := by decide +kernel
theorem dX8_steps_70 : decode cX8_steps 70 = .ok (.getfield 78, 3) := by decide +kernel
theorem dX8_steps_73 : decode cX8_steps 73 = .ok (.if_icmp .ge 57, 3) := by decide +kernel
theorem dX8_steps_76 : decode cX8_steps 76 = .ok (.aload_n 0, 1) := by decide +kernel
theorem dX8_steps_77 : decode cX8_steps 77 = .ok (.getfield 63, 3) := by decide +kernel
theorem dX8_steps_80 : decode cX8_steps 80 = .ok (.iload 5, 2) := by decide +kernel
theorem dX8_steps_82 : decode cX8_steps 82 = .ok (.iaload, 1) := by decide +kernel
theorem dX8_steps_83 : decode cX8_steps 83 = .ok (.iconst (-1), 1) := by decide +kernel
theorem dX8_steps_84 : decode cX8_steps 84 = .ok (.if_icmp .ne 40, 3) := by decide +kernel
theorem dX8_steps_87 : decode cX8_steps 87 = .ok (.aload_n 0, 1) := by decide +kernel
theorem dX8_steps_88 : decode cX8_steps 88 = .ok (.iload 4, 2) := by decide +kernel
theorem dX8_steps_90 : decode cX8_steps 90 = .ok (.iload 5, 2) := by decide +kernel
theorem dX8_steps_92 : decode cX8_steps 92 = .ok (.invokevirtual 171, 3) := by decide +kernel
theorem dX8_steps_95 : decode cX8_steps 95 = .ok (.ifCond .eq 29, 3) := by decide +kernel
theorem dX8_steps_98 : decode cX8_steps 98 = .ok (.aload_n 0, 1) := by decide +kernel
theorem dX8_steps_99 : decode cX8_steps 99 = .ok (.iload 4, 2) := by decide +kernel
theorem dX8_steps_101 : decode cX8_steps 101 = .ok (.iload 5, 2) := by decide +kernel
theorem dX8_steps_103 : decode cX8_steps 103 = .ok (.invokevirtual 168, 3) := by decide +kernel
theorem dX8_steps_106 : decode cX8_steps 106 = .ok (.ifCond .ne 6, 3) := by decide +kernel
theorem dX8_steps_109 : decode cX8_steps 109 = .ok (.goto 15, 3) := by decide +kernel
theorem dX8_steps_112 : decode cX8_steps 112 = .ok (.aload_n 0, 1) := by decide +kernel
theorem dX8_steps_113 : decode cX8_steps 113 = .ok (.getfield 63, 3) := by decide +kernel
theorem dX8_steps_116 : decode cX8_steps 116 = .ok (.iload 5, 2) := by decide +kernel
theorem dX8_steps_118 : decode cX8_steps 118 = .ok (.iload_n 3, 1) := by decide +kernel
theorem dX8_steps_119 : decode cX8_steps 119 = .ok (.iconst 1, 1) := by decide +kernel
theorem dX8_steps_120 : decode cX8_steps 120 = .ok (.iadd, 1) := by decide +kernel
theorem dX8_steps_121 : decode cX8_steps 121 = .ok (.iastore, 1) := by decide +kernel
theorem dX8_steps_122 : decode cX8_steps 122 = .ok (.iconst 1, 1) := by decide +kernel
theorem dX8_steps_123 : decode cX8_steps 123 = .ok (.istore_n 2, 1) := by decide +kernel
theorem dX8_steps_124 : decode cX8_steps 124 = .ok (.iinc 5 1, 3) := by decide +kernel
theorem dX8_steps_127 : decode cX8_steps 127 = .ok (.goto (-60), 3) := by decide +kernel
theorem dX8_steps_130 : decode cX8_steps 130 = .ok (.iinc 4 1, 3) := by decide +kernel
theorem dX8_steps_133 : decode cX8_steps 133 = .ok (.goto (-92), 3) := by decide +kernel
theorem dX8_steps_136 : decode cX8_steps 136 = .ok (.iinc 3 1, 3) := by decide +kernel
theorem dX8_steps_139 : decode cX8_steps 139 = .ok (.goto (-107), 3) := by decide +kernel
theorem dX8_steps_142 : decode cX8_steps 142 = .ok (.return_, 1) := by decide +kernel
theorem dX8_about_0 : decode cX8_about 0 = .ok (.aload_n 0, 1) := by decide +kernel
theorem dX8_about_1 : decode cX8_about 1 = .ok (.iconst 0, 1) := by decide +kernel
theorem dX8_about_2 : decode cX8_about 2 = .ok (.putfield 75, 3) := by decide +kernel
theorem dX8_about_5 : decode cX8_about 5 = .ok (.aload_n 0, 1) := by decide +kernel
theorem dX8_about_6 : decode cX8_about 6 = .ok (.iload_n 1, 1) := by decide +kernel
theorem dX8_about_7 : decode cX8_about 7 = .ok (.invokevirtual 85, 3) := by decide +kernel
theorem dX8_about_10 : decode cX8_about 10 = .ok (.ifCond .ne 5, 3) := by decide +kernel
theorem dX8_about_13 : decode cX8_about 13 = .ok (.iconst (-1), 1) := by decide +kernel
theorem dX8_about_14 : decode cX8_about 14 = .ok (.ireturn, 1) := by decide +kernel
theorem dX8_about_15 : decode cX8_about 15 = .ok (.iconst 0, 1) := by decide +kernel
theorem dX8_about_16 : decode cX8_about 16 = .ok (.istore_n 3, 1) := by decide +kernel
theorem dX8_about_17 : decode cX8_about 17 = .ok (.iload_n 2, 1) := by decide +kernel
theorem dX8_about_18 : decode cX8_about 18 = .ok (.tableswitch 154 0 5 #[38, 45, 51, 63, 87, 110], 38) := by decide +kernel
theorem dX8_about_56 : decode cX8_about 56 = .ok (.aload_n 0, 1) := by decide +kernel
theorem dX8_about_57 : decode cX8_about 57 = .ok (.getfield 13, 3) := by decide +kernel
theorem dX8_about_60 : decode cX8_about 60 = .ok (.iload_n 1, 1) := by decide +kernel
theorem dX8_about_61 : decode cX8_about 61 = .ok (.iaload, 1) := by decide +kernel
theorem dX8_about_62 : decode cX8_about 62 = .ok (.ireturn, 1) := by decide +kernel
theorem dX8_about_63 : decode cX8_about 63 = .ok (.aload_n 0, 1) := by decide +kernel
theorem dX8_about_64 : decode cX8_about 64 = .ok (.iload_n 1, 1) := by decide +kernel
theorem dX8_about_65 : decode cX8_about 65 = .ok (.invokevirtual 136, 3) := by decide +kernel
theorem dX8_about_68 : decode cX8_about 68 = .ok (.ireturn, 1) := by decide +kernel
theorem dX8_about_69 : decode cX8_about 69 = .ok (.aload_n 0, 1) := by decide +kernel
theorem dX8_about_70 : decode cX8_about 70 = .ok (.aload_n 0, 1) := by decide +kernel
theorem dX8_about_71 : decode cX8_about 71 = .ok (.iload_n 1, 1) := by decide +kernel
theorem dX8_about_72 : decode cX8_about 72 = .ok (.invokevirtual 136, 3) := by decide +kernel
theorem dX8_about_75 : decode cX8_about 75 = .ok (.i2l, 1) := by decide +kernel
theorem dX8_about_76 : decode cX8_about 76 = .ok (.invokevirtual 153, 3) := by decide +kernel
theorem dX8_about_79 : decode cX8_about 79 = .ok (.l2i, 1) := by decide +kernel
theorem dX8_about_80 : decode cX8_about 80 = .ok (.ireturn, 1) := by decide +kernel
theorem dX8_about_81 : decode cX8_about 81 = .ok (.aload_n 0, 1) := by decide +kernel
theorem dX8_about_82 : decode cX8_about 82 = .ok (.iload_n 1, 1) := by decide +kernel
theorem dX8_about_83 : decode cX8_about 83 = .ok (.aload_n 0, 1) := by decide +kernel
theorem dX8_about_84 : decode cX8_about 84 = .ok (.getfield 42, 3) := by decide +kernel
theorem dX8_about_87 : decode cX8_about 87 = .ok (.invokevirtual 157, 3) := by decide +kernel
theorem dX8_about_90 : decode cX8_about 90 = .ok (.aload_n 0, 1) := by decide +kernel
end
section
theorem dX8_about_91 : decode cX8_about 91 = .ok (.aload_n 0, 1) := by decide +kernel
theorem dX8_about_92 : decode cX8_about 92 = .ok (.getfield 42, 3) := by decide +kernel
theorem dX8_about_95 : decode cX8_about 95 = .ok (.aload_n 0, 1) := by decide +kernel
theorem dX8_about_96 : decode cX8_about 96 = .ok (.getfield 13, 3) := by decide +kernel
theorem dX8_about_99 : decode cX8_about 99 = .ok (.iload_n 1, 1) := by decide +kernel
theorem dX8_about_100 : decode cX8_about 100 = .ok (.iaload, 1) := by decide +kernel
theorem dX8_about_101 : decode cX8_about 101 = .ok (.invokevirtual 161, 3) := by decide +kernel
theorem dX8_about_104 : decode cX8_about 104 = .ok (.ireturn, 1) := by decide +kernel
theorem dX8_about_105 : decode cX8_about 105 = .ok (.aload_n 0, 1) := by decide +kernel
theorem dX8_about_106 : decode cX8_about 106 = .ok (.iload_n 1, 1) := by decide +kernel
theorem dX8_about_107 : decode cX8_about 107 = .ok (.invokevirtual 194, 3) := by decide +kernel
theorem dX8_about_110 : decode cX8_about 110 = .ok (.aload_n 0, 1) := by decide +kernel
theorem dX8_about_111 : decode cX8_about 111 = .ok (.getfield 63, 3) := by decide +kernel
theorem dX8_about_114 : decode cX8_about 114 = .ok (.iload_n 3, 1) := by decide +kernel
theorem dX8_about_115 : decode cX8_about 115 = .ok (.iaload, 1) := by decide +kernel
theorem dX8_about_116 : decode cX8_about 116 = .ok (.iconst (-1), 1) := by decide +kernel
theorem dX8_about_117 : decode cX8_about 117 = .ok (.if_icmp .ne 9, 3) := by decide +kernel
theorem dX8_about_120 : decode cX8_about 120 = .ok (.iinc 3 1, 3) := by decide +kernel
theorem dX8_about_123 : decode cX8_about 123 = .ok (.goto (-13), 3) := by decide +kernel
theorem dX8_about_126 : decode cX8_about 126 = .ok (.iload_n 3, 1) := by decide +kernel
theorem dX8_about_127 : decode cX8_about 127 = .ok (.ireturn, 1) := by decide +kernel
theorem dX8_about_128 : decode cX8_about 128 = .ok (.aload_n 0, 1) := by decide +kernel
theorem dX8_about_129 : decode cX8_about 129 = .ok (.iload_n 1, 1) := by decide +kernel
theorem dX8_about_130 : decode cX8_about 130 = .ok (.invokevirtual 194, 3) := by decide +kernel
theorem dX8_about_133 : decode cX8_about 133 = .ok (.iconst 0, 1) := by decide +kernel
theorem dX8_about_134 : decode cX8_about 134 = .ok (.istore 4, 2) := by decide +kernel
theorem dX8_about_136 : decode cX8_about 136 = .ok (.iload 4, 2) := by decide +kernel
theorem dX8_about_138 : decode cX8_about 138 = .ok (.aload_n 0, 1) := by decide +kernel
theorem dX8_about_139 : decode cX8_about 139 = .ok (.getfield 78, 3) := by decide +kernel
theorem dX8_about_142 : decode cX8_about 142 = .ok (.if_icmp .ge 28, 3) := by decide +kernel
theorem dX8_about_145 : decode cX8_about 145 = .ok (.iload_n 3, 1) := by decide +kernel
theorem dX8_about_146 : decode cX8_about 146 = .ok (.aload_n 0, 1) := by decide +kernel
theorem dX8_about_147 : decode cX8_about 147 = .ok (.getfield 63, 3) := by decide +kernel
theorem dX8_about_150 : decode cX8_about 150 = .ok (.iload 4, 2) := by decide +kernel
theorem dX8_about_152 : decode cX8_about 152 = .ok (.iaload, 1) := by decide +kernel
theorem dX8_about_153 : decode cX8_about 153 = .ok (.iconst (-1), 1) := by decide +kernel
theorem dX8_about_154 : decode cX8_about 154 = .ok (.if_icmp .eq 7, 3) := by decide +kernel
theorem dX8_about_157 : decode cX8_about 157 = .ok (.iconst 1, 1) := by decide +kernel
theorem dX8_about_158 : decode cX8_about 158 = .ok (.goto 4, 3) := by decide +kernel
theorem dX8_about_161 : decode cX8_about 161 = .ok (.iconst 0, 1) := by decide +kernel
theorem dX8_about_162 : decode cX8_about 162 = .ok (.iadd, 1) := by decide +kernel
theorem dX8_about_163 : decode cX8_about 163 = .ok (.istore_n 3, 1) := by decide +kernel
theorem dX8_about_164 : decode cX8_about 164 = .ok (.iinc 4 1, 3) := by decide +kernel
theorem dX8_about_167 : decode cX8_about 167 = .ok (.goto (-31), 3) := by decide +kernel
theorem dX8_about_170 : decode cX8_about 170 = .ok (.iload_n 3, 1) := by decide +kernel
theorem dX8_about_171 : decode cX8_about 171 = .ok (.ireturn, 1) := by decide +kernel
theorem dX8_about_172 : decode cX8_about 172 = .ok (.iconst (-1), 1) := by decide +kernel
theorem dX8_about_173 : decode cX8_about 173 = .ok (.ireturn, 1) := by decide +kernel
theorem dX8_at_0 : decode cX8_at 0 = .ok (.aload_n 0, 1) := by decide +kernel
theorem dX8_at_1 : decode cX8_at 1 = .ok (.iconst 0, 1) := by decide +kernel
theorem dX8_at_2 : decode cX8_at 2 = .ok (.putfield 75, 3) := by decide +kernel
theorem dX8_at_5 : decode cX8_at 5 = .ok (.aload_n 0, 1) := by decide +kernel
theorem dX8_at_6 : decode cX8_at 6 = .ok (.iload_n 1, 1) := by decide +kernel
theorem dX8_at_7 : decode cX8_at 7 = .ok (.invokevirtual 85, 3) := by decide +kernel
theorem dX8_at_10 : decode cX8_at 10 = .ok (.ifCond .eq 19, 3) := by decide +kernel
theorem dX8_at_13 : decode cX8_at 13 = .ok (.iload_n 2, 1) := by decide +kernel
theorem dX8_at_14 : decode cX8_at 14 = .ok (.iconst 0, 1) := by decide +kernel
theorem dX8_at_15 : decode cX8_at 15 = .ok (.aload_n 0, 1) := by decide +kernel
theorem dX8_at_16 : decode cX8_at 16 = .ok (.getfield 13, 3) := by decide +kernel
theorem dX8_at_19 : decode cX8_at 19 = .ok (.iload_n 1, 1) := by decide +kernel
theorem dX8_at_20 : decode cX8_at 20 = .ok (.iaload, 1) := by decide +kernel
theorem dX8_at_21 : decode cX8_at 21 = .ok (.iconst 1, 1) := by decide +kernel
theorem dX8_at_22 : decode cX8_at 22 = .ok (.isub, 1) := by decide +kernel
theorem dX8_at_23 : decode cX8_at 23 = .ok (.invokestatic 81, 3) := by decide +kernel
theorem dX8_at_26 : decode cX8_at 26 = .ok (.ifCond .ne 5, 3) := by decide +kernel
theorem dX8_at_29 : decode cX8_at 29 = .ok (.iconst (-1), 1) := by decide +kernel
theorem dX8_at_30 : decode cX8_at 30 = .ok (.ireturn, 1) := by decide +kernel
theorem dX8_at_31 : decode cX8_at 31 = .ok (.aload_n 0, 1) := by decide +kernel
theorem dX8_at_32 : decode cX8_at 32 = .ok (.iload_n 1, 1) := by decide +kernel
theorem dX8_at_33 : decode cX8_at 33 = .ok (.aload_n 0, 1) := by decide +kernel
theorem dX8_at_34 : decode cX8_at 34 = .ok (.getfield 42, 3) := by decide +kernel
theorem dX8_at_37 : decode cX8_at 37 = .ok (.invokevirtual 157, 3) := by decide +kernel
theorem dX8_at_40 : decode cX8_at 40 = .ok (.aload_n 0, 1) := by decide +kernel
theorem dX8_at_41 : decode cX8_at 41 = .ok (.getfield 42, 3) := by decide +kernel
theorem dX8_at_44 : decode cX8_at 44 = .ok (.iload_n 2, 1) := by decide +kernel
theorem dX8_at_45 : decode cX8_at 45 = .ok (.iaload, 1) := by decide +kernel
theorem dX8_at_46 : decode cX8_at 46 = .ok (.ireturn, 1) := by decide +kernel
theorem dX8_chain_0 : decode cX8_chain 0 = .ok (.aload_n 0, 1) := by decide +kernel
theorem dX8_chain_1 : decode cX8_chain 1 = .ok (.iconst 0, 1) := by decide +kernel
theorem dX8_chain_2 : decode cX8_chain 2 = .ok (.putfield 75, 3) := by decide +kernel
theorem dX8_chain_5 : decode cX8_chain 5 = .ok (.aload_n 0, 1) := by decide +kernel
theorem dX8_chain_6 : decode cX8_chain 6 = .ok (.iload_n 1, 1) := by decide +kernel
theorem dX8_chain_7 : decode cX8_chain 7 = .ok (.invokevirtual 85, 3) := by decide +kernel
theorem dX8_chain_10 : decode cX8_chain 10 = .ok (.ifCond .eq 11, 3) := by decide +kernel
theorem dX8_chain_13 : decode cX8_chain 13 = .ok (.aload_n 0, 1) := by decide +kernel
theorem dX8_chain_14 : decode cX8_chain 14 = .ok (.iload_n 2, 1) := by decide +kernel
theorem dX8_chain_15 : decode cX8_chain 15 = .ok (.invokevirtual 85, 3) := by decide +kernel
theorem dX8_chain_18 : decode cX8_chain 18 = .ok (.ifCond .ne 5, 3) := by decide +kernel
theorem dX8_chain_21 : decode cX8_chain 21 = .ok (.iconst (-1), 1) := by decide +kernel
theorem dX8_chain_22 : decode cX8_chain 22 = .ok (.ireturn, 1) := by decide +kernel
theorem dX8_chain_23 : decode cX8_chain 23 = .ok (.aload_n 0, 1) := by decide +kernel
theorem dX8_chain_24 : decode cX8_chain 24 = .ok (.iload_n 1, 1) := by decide +kernel
theorem dX8_chain_25 : decode cX8_chain 25 = .ok (.invokevirtual 194, 3) := by decide +kernel
theorem dX8_chain_28 : decode cX8_chain 28 = .ok (.aload_n 0, 1) := by decide +kernel
theorem dX8_chain_29 : decode cX8_chain 29 = .ok (.getfield 63, 3) := by decide +kernel
theorem dX8_chain_32 : decode cX8_chain 32 = .ok (.iload_n 2, 1) := by decide +kernel
theorem dX8_chain_33 : decode cX8_chain 33 = .ok (.iaload, 1) := by decide +kernel
theorem dX8_chain_34 : decode cX8_chain 34 = .ok (.ireturn, 1) := by decide +kernel
theorem dX8_next_0 : decode cX8_next 0 = .ok (.aload_n 0, 1) := by decide +kernel
theorem dX8_next_1 : decode cX8_next 1 = .ok (.iconst 0, 1) := by decide +kernel
theorem dX8_next_2 : decode cX8_next 2 = .ok (.putfield 75, 3) := by decide +kernel
theorem dX8_next_5 : decode cX8_next 5 = .ok (.aload_n 0, 1) := by decide +kernel
theorem dX8_next_6 : decode cX8_next 6 = .ok (.iload_n 1, 1) := by decide +kernel
theorem dX8_next_7 : decode cX8_next 7 = .ok (.iload_n 2, 1) := by decide +kernel
theorem dX8_next_8 : decode cX8_next 8 = .ok (.invokevirtual 171, 3) := by decide +kernel
theorem dX8_next_11 : decode cX8_next 11 = .ok (.ifCond .ne 5, 3) := by decide +kernel
theorem dX8_next_14 : decode cX8_next 14 = .ok (.iconst (-1), 1) := by decide +kernel
theorem dX8_next_15 : decode cX8_next 15 = .ok (.ireturn, 1) := by decide +kernel
theorem dX8_next_16 : decode cX8_next 16 = .ok (.aload_n 0, 1) := by decide +kernel
theorem dX8_next_17 : decode cX8_next 17 = .ok (.iload_n 2, 1) := by decide +kernel
theorem dX8_next_18 : decode cX8_next 18 = .ok (.invokevirtual 194, 3) := by decide +kernel
theorem dX8_next_21 : decode cX8_next 21 = .ok (.aload_n 0, 1) := by decide +kernel
theorem dX8_next_22 : decode cX8_next 22 = .ok (.getfield 63, 3) := by decide +kernel
theorem dX8_next_25 : decode cX8_next 25 = .ok (.iload_n 1, 1) := by decide +kernel
theorem dX8_next_26 : decode cX8_next 26 = .ok (.iaload, 1) := by decide +kernel
theorem dX8_next_27 : decode cX8_next 27 = .ok (.iconst (-1), 1) := by decide +kernel
theorem dX8_next_28 : decode cX8_next 28 = .ok (.if_icmp .ne 5, 3) := by decide +kernel
theorem dX8_next_31 : decode cX8_next 31 = .ok (.iconst (-1), 1) := by decide +kernel
theorem dX8_next_32 : decode cX8_next 32 = .ok (.ireturn, 1) := by decide +kernel
theorem dX8_next_33 : decode cX8_next 33 = .ok (.iconst 0, 1) := by decide +kernel
theorem dX8_next_34 : decode cX8_next 34 = .ok (.istore_n 3, 1) := by decide +kernel
theorem dX8_next_35 : decode cX8_next 35 = .ok (.iload_n 3, 1) := by decide +kernel
theorem dX8_next_36 : decode cX8_next 36 = .ok (.aload_n 0, 1) := by decide +kernel
theorem dX8_next_37 : decode cX8_next 37 = .ok (.getfield 78, 3) := by decide +kernel
theorem dX8_next_40 : decode cX8_next 40 = .ok (.if_icmp .ge 46, 3) := by decide +kernel
theorem dX8_next_43 : decode cX8_next 43 = .ok (.aload_n 0, 1) := by decide +kernel
theorem dX8_next_44 : decode cX8_next 44 = .ok (.getfield 63, 3) := by decide +kernel
theorem dX8_next_47 : decode cX8_next 47 = .ok (.iload_n 3, 1) := by decide +kernel
theorem dX8_next_48 : decode cX8_next 48 = .ok (.iaload, 1) := by decide +kernel
theorem dX8_next_49 : decode cX8_next 49 = .ok (.aload_n 0, 1) := by decide +kernel
theorem dX8_next_50 : decode cX8_next 50 = .ok (.getfield 63, 3) := by decide +kernel
theorem dX8_next_53 : decode cX8_next 53 = .ok (.iload_n 1, 1) := by decide +kernel
theorem dX8_next_54 : decode cX8_next 54 = .ok (.iaload, 1) := by decide +kernel
theorem dX8_next_55 : decode cX8_next 55 = .ok (.iconst 1, 1) := by decide +kernel
theorem dX8_next_56 : decode cX8_next 56 = .ok (.isub, 1) := by decide +kernel
theorem dX8_next_57 : decode cX8_next 57 = .ok (.if_icmp .ne 23, 3) := by decide +kernel
theorem dX8_next_60 : decode cX8_next 60 = .ok (.aload_n 0, 1) := by decide +kernel
theorem dX8_next_61 : decode cX8_next 61 = .ok (.iload_n 1, 1) := by decide +kernel
theorem dX8_next_62 : decode cX8_next 62 = .ok (.iload_n 3, 1) := by decide +kernel
theorem dX8_next_63 : decode cX8_next 63 = .ok (.invokevirtual 171, 3) := by decide +kernel
theorem dX8_next_66 : decode cX8_next 66 = .ok (.ifCond .eq 14, 3) := by decide +kernel
theorem dX8_next_69 : decode cX8_next 69 = .ok (.aload_n 0, 1) := by decide +kernel
theorem dX8_next_70 : decode cX8_next 70 = .ok (.iload_n 1, 1) := by decide +kernel
theorem dX8_next_71 : decode cX8_next 71 = .ok (.iload_n 3, 1) := by decide +kernel
theorem dX8_next_72 : decode cX8_next 72 = .ok (.invokevirtual 168, 3) := by decide +kernel
theorem dX8_next_75 : decode cX8_next 75 = .ok (.ifCond .eq 5, 3) := by decide +kernel
theorem dX8_next_78 : decode cX8_next 78 = .ok (.iload_n 3, 1) := by decide +kernel
theorem dX8_next_79 : decode cX8_next 79 = .ok (.ireturn, 1) := by decide +kernel
theorem dX8_next_80 : decode cX8_next 80 = .ok (.iinc 3 1, 3) := by decide +kernel
theorem dX8_next_83 : decode cX8_next 83 = .ok (.goto (-48), 3) := by decide +kernel
theorem dX8_next_86 : decode cX8_next 86 = .ok (.iconst (-1), 1) := by decide +kernel
theorem dX8_next_87 : decode cX8_next 87 = .ok (.ireturn, 1) := by decide +kernel
theorem dX8_grow_0 : decode cX8_grow 0 = .ok (.iload 4, 2) := by decide +kernel
theorem dX8_grow_2 : decode cX8_grow 2 = .ok (.aload_n 0, 1) := by decide +kernel
theorem dX8_grow_3 : decode cX8_grow 3 = .ok (.getfield 197, 3) := by decide +kernel
theorem dX8_grow_6 : decode cX8_grow 6 = .ok (.invokestatic 200, 3) := by decide +kernel
theorem dX8_grow_9 : decode cX8_grow 9 = .ok (.if_icmp .le 8, 3) := by decide +kernel
theorem dX8_grow_12 : decode cX8_grow 12 = .ok (.aload_n 0, 1) := by decide +kernel
theorem dX8_grow_13 : decode cX8_grow 13 = .ok (.iload_n 3, 1) := by decide +kernel
theorem dX8_grow_14 : decode cX8_grow 14 = .ok (.putfield 197, 3) := by decide +kernel
theorem dX8_grow_17 : decode cX8_grow 17 = .ok (.iload_n 1, 1) := by decide +kernel
theorem dX8_grow_18 : decode cX8_grow 18 = .ok (.istore 5, 2) := by decide +kernel
theorem dX8_grow_20 : decode cX8_grow 20 = .ok (.iload 5, 2) := by decide +kernel
theorem dX8_grow_22 : decode cX8_grow 22 = .ok (.aload_n 0, 1) := by decide +kernel
theorem dX8_grow_23 : decode cX8_grow 23 = .ok (.getfield 205, 3) := by decide +kernel
theorem dX8_grow_26 : decode cX8_grow 26 = .ok (.if_icmp .ge 69, 3) := by decide +kernel
theorem dX8_grow_29 : decode cX8_grow 29 = .ok (.iload_n 2, 1) := by decide +kernel
theorem dX8_grow_30 : decode cX8_grow 30 = .ok (.iload 5, 2) := by decide +kernel
theorem dX8_grow_32 : decode cX8_grow 32 = .ok (.ishr, 1) := by decide +kernel
theorem dX8_grow_33 : decode cX8_grow 33 = .ok (.iconst 1, 1) := by decide +kernel
theorem dX8_grow_34 : decode cX8_grow 34 = .ok (.iand, 1) := by decide +kernel
theorem dX8_grow_35 : decode cX8_grow 35 = .ok (.ifCond .ne 6, 3) := by decide +kernel
theorem dX8_grow_38 : decode cX8_grow 38 = .ok (.goto 51, 3) := by decide +kernel
theorem dX8_grow_41 : decode cX8_grow 41 = .ok (.iload 4, 2) := by decide +kernel
theorem dX8_grow_43 : decode cX8_grow 43 = .ok (.iload_n 2, 1) := by decide +kernel
theorem dX8_grow_44 : decode cX8_grow 44 = .ok (.iload 5, 2) := by decide +kernel
theorem dX8_grow_46 : decode cX8_grow 46 = .ok (.ishr, 1) := by decide +kernel
theorem dX8_grow_47 : decode cX8_grow 47 = .ok (.invokestatic 200, 3) := by decide +kernel
theorem dX8_grow_50 : decode cX8_grow 50 = .ok (.iadd, 1) := by decide +kernel
theorem dX8_grow_51 : decode cX8_grow 51 = .ok (.aload_n 0, 1) := by decide +kernel
theorem dX8_grow_52 : decode cX8_grow 52 = .ok (.getfield 197, 3) := by decide +kernel
theorem dX8_grow_55 : decode cX8_grow 55 = .ok (.invokestatic 200, 3) := by decide +kernel
theorem dX8_grow_58 : decode cX8_grow 58 = .ok (.if_icmp .gt 4, 3) := by decide +kernel
theorem dX8_grow_61 : decode cX8_grow 61 = .ok (.return_, 1) := by decide +kernel
theorem dX8_grow_62 : decode cX8_grow 62 = .ok (.aload_n 0, 1) := by decide +kernel
theorem dX8_grow_63 : decode cX8_grow 63 = .ok (.iload 5, 2) := by decide +kernel
theorem dX8_grow_65 : decode cX8_grow 65 = .ok (.iconst 1, 1) := by decide +kernel
theorem dX8_grow_66 : decode cX8_grow 66 = .ok (.iadd, 1) := by decide +kernel
theorem dX8_grow_67 : decode cX8_grow 67 = .ok (.iload_n 2, 1) := by decide +kernel
theorem dX8_grow_68 : decode cX8_grow 68 = .ok (.aload_n 0, 1) := by decide +kernel
theorem dX8_grow_69 : decode cX8_grow 69 = .ok (.getfield 69, 3) := by decide +kernel
theorem dX8_grow_72 : decode cX8_grow 72 = .ok (.iload 5, 2) := by decide +kernel
theorem dX8_grow_74 : decode cX8_grow 74 = .ok (.iaload, 1) := by decide +kernel
theorem dX8_grow_75 : decode cX8_grow 75 = .ok (.iand, 1) := by decide +kernel
theorem dX8_grow_76 : decode cX8_grow 76 = .ok (.iload_n 3, 1) := by decide +kernel
theorem dX8_grow_77 : decode cX8_grow 77 = .ok (.iconst 1, 1) := by decide +kernel
theorem dX8_grow_78 : decode cX8_grow 78 = .ok (.iload 5, 2) := by decide +kernel
theorem dX8_grow_80 : decode cX8_grow 80 = .ok (.ishl, 1) := by decide +kernel
theorem dX8_grow_81 : decode cX8_grow 81 = .ok (.ior, 1) := by decide +kernel
theorem dX8_grow_82 : decode cX8_grow 82 = .ok (.iload 4, 2) := by decide +kernel
theorem dX8_grow_84 : decode cX8_grow 84 = .ok (.iconst 1, 1) := by decide +kernel
theorem dX8_grow_85 : decode cX8_grow 85 = .ok (.iadd, 1) := by decide +kernel
theorem dX8_grow_86 : decode cX8_grow 86 = .ok (.invokevirtual 208, 3) := by decide +kernel
theorem dX8_grow_89 : decode cX8_grow 89 = .ok (.iinc 5 1, 3) := by decide +kernel
theorem dX8_grow_92 : decode cX8_grow 92 = .ok (.goto (-72), 3) := by decide +kernel
theorem dX8_grow_95 : decode cX8_grow 95 = .ok (.return_, 1) := by decide +kernel
theorem dX8_core_0 : decode cX8_core 0 = .ok (.aload_n 0, 1) := by decide +kernel
theorem dX8_core_1 : decode cX8_core 1 = .ok (.iconst 0, 1) := by decide +kernel
theorem dX8_core_2 : decode cX8_core 2 = .ok (.putfield 75, 3) := by decide +kernel
theorem dX8_core_5 : decode cX8_core 5 = .ok (.aload_n 0, 1) := by decide +kernel
theorem dX8_core_6 : decode cX8_core 6 = .ok (.iload_n 1, 1) := by decide +kernel
theorem dX8_core_7 : decode cX8_core 7 = .ok (.invokevirtual 85, 3) := by decide +kernel
theorem dX8_core_10 : decode cX8_core 10 = .ok (.ifCond .ne 5, 3) := by decide +kernel
theorem dX8_core_13 : decode cX8_core 13 = .ok (.iconst (-1), 1) := by decide +kernel
theorem dX8_core_14 : decode cX8_core 14 = .ok (.ireturn, 1) := by decide +kernel
theorem dX8_core_15 : decode cX8_core 15 = .ok (.aload_n 0, 1) := by decide +kernel
theorem dX8_core_16 : decode cX8_core 16 = .ok (.iload_n 1, 1) := by decide +kernel
theorem dX8_core_17 : decode cX8_core 17 = .ok (.invokevirtual 194, 3) := by decide +kernel
theorem dX8_core_20 : decode cX8_core 20 = .ok (.iconst 0, 1) := by decide +kernel
theorem dX8_core_21 : decode cX8_core 21 = .ok (.istore_n 2, 1) := by decide +kernel
theorem dX8_core_22 : decode cX8_core 22 = .ok (.iconst 0, 1) := by decide +kernel
theorem dX8_core_23 : decode cX8_core 23 = .ok (.istore_n 3, 1) := by decide +kernel
theorem dX8_core_24 : decode cX8_core 24 = .ok (.iload_n 3, 1) := by decide +kernel
theorem dX8_core_25 : decode cX8_core 25 = .ok (.aload_n 0, 1) := by decide +kernel
theorem dX8_core_26 : decode cX8_core 26 = .ok (.getfield 78, 3) := by decide +kernel
theorem dX8_core_29 : decode cX8_core 29 = .ok (.if_icmp .ge 27, 3) := by decide +kernel
theorem dX8_core_32 : decode cX8_core 32 = .ok (.iload_n 2, 1) := by decide +kernel
theorem dX8_core_33 : decode cX8_core 33 = .ok (.aload_n 0, 1) := by decide +kernel
theorem dX8_core_34 : decode cX8_core 34 = .ok (.getfield 63, 3) := by decide +kernel
theorem dX8_core_37 : decode cX8_core 37 = .ok (.iload_n 3, 1) := by decide +kernel
theorem dX8_core_38 : decode cX8_core 38 = .ok (.iaload, 1) := by decide +kernel
theorem dX8_core_39 : decode cX8_core 39 = .ok (.iconst (-1), 1) := by decide +kernel
theorem dX8_core_40 : decode cX8_core 40 = .ok (.if_icmp .eq 7, 3) := by decide +kernel
theorem dX8_core_43 : decode cX8_core 43 = .ok (.iconst 1, 1) := by decide +kernel
theorem dX8_core_44 : decode cX8_core 44 = .ok (.goto 4, 3) := by decide +kernel
theorem dX8_core_47 : decode cX8_core 47 = .ok (.iconst 0, 1) := by decide +kernel
theorem dX8_core_48 : decode cX8_core 48 = .ok (.iadd, 1) := by decide +kernel
theorem dX8_core_49 : decode cX8_core 49 = .ok (.istore_n 2, 1) := by decide +kernel
theorem dX8_core_50 : decode cX8_core 50 = .ok (.iinc 3 1, 3) := by decide +kernel
theorem dX8_core_53 : decode cX8_core 53 = .ok (.goto (-29), 3) := by decide +kernel
theorem dX8_core_56 : decode cX8_core 56 = .ok (.iload_n 2, 1) := by decide +kernel
theorem dX8_core_57 : decode cX8_core 57 = .ok (.bipush 20, 2) := by decide +kernel
theorem dX8_core_59 : decode cX8_core 59 = .ok (.if_icmp .le 6, 3) := by decide +kernel
theorem dX8_core_62 : decode cX8_core 62 = .ok (.bipush (-2), 2) := by decide +kernel
theorem dX8_core_64 : decode cX8_core 64 = .ok (.ireturn, 1) := by decide +kernel
theorem dX8_core_65 : decode cX8_core 65 = .ok (.aload_n 0, 1) := by decide +kernel
theorem dX8_core_66 : decode cX8_core 66 = .ok (.iconst 0, 1) := by decide +kernel
theorem dX8_core_67 : decode cX8_core 67 = .ok (.putfield 205, 3) := by decide +kernel
theorem dX8_core_70 : decode cX8_core 70 = .ok (.iconst 0, 1) := by decide +kernel
theorem dX8_core_71 : decode cX8_core 71 = .ok (.istore_n 3, 1) := by decide +kernel
theorem dX8_core_72 : decode cX8_core 72 = .ok (.iload_n 3, 1) := by decide +kernel
theorem dX8_core_73 : decode cX8_core 73 = .ok (.aload_n 0, 1) := by decide +kernel
theorem dX8_core_74 : decode cX8_core 74 = .ok (.getfield 78, 3) := by decide +kernel
theorem dX8_core_77 : decode cX8_core 77 = .ok (.if_icmp .ge 42, 3) := by decide +kernel
theorem dX8_core_80 : decode cX8_core 80 = .ok (.aload_n 0, 1) := by decide +kernel
theorem dX8_core_81 : decode cX8_core 81 = .ok (.getfield 63, 3) := by decide +kernel
theorem dX8_core_84 : decode cX8_core 84 = .ok (.iload_n 3, 1) := by decide +kernel
theorem dX8_core_85 : decode cX8_core 85 = .ok (.iaload, 1) := by decide +kernel
theorem dX8_core_86 : decode cX8_core 86 = .ok (.iconst (-1), 1) := by decide +kernel
theorem dX8_core_87 : decode cX8_core 87 = .ok (.if_icmp .ne 6, 3) := by decide +kernel
theorem dX8_core_90 : decode cX8_core 90 = .ok (.goto 23, 3) := by decide +kernel
theorem dX8_core_93 : decode cX8_core 93 = .ok (.aload_n 0, 1) := by decide +kernel
theorem dX8_core_94 : decode cX8_core 94 = .ok (.getfield 66, 3) := by decide +kernel
theorem dX8_core_97 : decode cX8_core 97 = .ok (.aload_n 0, 1) := by decide +kernel
theorem dX8_core_98 : decode cX8_core 98 = .ok (.getfield 205, 3) := by decide +kernel
theorem dX8_core_101 : decode cX8_core 101 = .ok (.iload_n 3, 1) := by decide +kernel
theorem dX8_core_102 : decode cX8_core 102 = .ok (.iastore, 1) := by decide +kernel
theorem dX8_core_103 : decode cX8_core 103 = .ok (.aload_n 0, 1) := by decide +kernel
theorem dX8_core_104 : decode cX8_core 104 = .ok (.dup, 1) := by decide +kernel
theorem dX8_core_105 : decode cX8_core 105 = .ok (.getfield 205, 3) := by decide +kernel
theorem dX8_core_108 : decode cX8_core 108 = .ok (.iconst 1, 1) := by decide +kernel
theorem dX8_core_109 : decode cX8_core 109 = .ok (.iadd, 1) := by decide +kernel
theorem dX8_core_110 : decode cX8_core 110 = .ok (.putfield 205, 3) := by decide +kernel
theorem dX8_core_113 : decode cX8_core 113 = .ok (.iinc 3 1, 3) := by decide +kernel
theorem dX8_core_116 : decode cX8_core 116 = .ok (.goto (-44), 3) := by decide +kernel
theorem dX8_core_119 : decode cX8_core 119 = .ok (.iconst 0, 1) := by decide +kernel
theorem dX8_core_120 : decode cX8_core 120 = .ok (.istore_n 3, 1) := by decide +kernel
theorem dX8_core_121 : decode cX8_core 121 = .ok (.iload_n 3, 1) := by decide +kernel
theorem dX8_core_122 : decode cX8_core 122 = .ok (.aload_n 0, 1) := by decide +kernel
theorem dX8_core_123 : decode cX8_core 123 = .ok (.getfield 205, 3) := by decide +kernel
theorem dX8_core_126 : decode cX8_core 126 = .ok (.if_icmp .ge 73, 3) := by decide +kernel
theorem dX8_core_129 : decode cX8_core 129 = .ok (.aload_n 0, 1) := by decide +kernel
theorem dX8_core_130 : decode cX8_core 130 = .ok (.getfield 69, 3) := by decide +kernel
theorem dX8_core_133 : decode cX8_core 133 = .ok (.iload_n 3, 1) := by decide +kernel
theorem dX8_core_134 : decode cX8_core 134 = .ok (.iconst 0, 1) := by decide +kernel
theorem dX8_core_135 : decode cX8_core 135 = .ok (.iastore, 1) := by decide +kernel
theorem dX8_core_136 : decode cX8_core 136 = .ok (.iconst 0, 1) := by decide +kernel
theorem dX8_core_137 : decode cX8_core 137 = .ok (.istore 4, 2) := by decide +kernel
theorem dX8_core_139 : decode cX8_core 139 = .ok (.iload 4, 2) := by decide +kernel
theorem dX8_core_141 : decode cX8_core 141 = .ok (.aload_n 0, 1) := by decide +kernel
theorem dX8_core_142 : decode cX8_core 142 = .ok (.getfield 205, 3) := by decide +kernel
theorem dX8_core_145 : decode cX8_core 145 = .ok (.if_icmp .ge 48, 3) := by decide +kernel
theorem dX8_core_148 : decode cX8_core 148 = .ok (.iload 4, 2) := by decide +kernel
theorem dX8_core_150 : decode cX8_core 150 = .ok (.iload_n 3, 1) := by decide +kernel
theorem dX8_core_151 : decode cX8_core 151 = .ok (.if_icmp .eq 36, 3) := by decide +kernel
theorem dX8_core_154 : decode cX8_core 154 = .ok (.aload_n 0, 1) := by decide +kernel
theorem dX8_core_155 : decode cX8_core 155 = .ok (.aload_n 0, 1) := by decide +kernel
theorem dX8_core_156 : decode cX8_core 156 = .ok (.getfield 66, 3) := by decide +kernel
theorem dX8_core_159 : decode cX8_core 159 = .ok (.iload_n 3, 1) := by decide +kernel
theorem dX8_core_160 : decode cX8_core 160 = .ok (.iaload, 1) := by decide +kernel
theorem dX8_core_161 : decode cX8_core 161 = .ok (.aload_n 0, 1) := by decide +kernel
theorem dX8_core_162 : decode cX8_core 162 = .ok (.getfield 66, 3) := by decide +kernel
theorem dX8_core_165 : decode cX8_core 165 = .ok (.iload 4, 2) := by decide +kernel
theorem dX8_core_167 : decode cX8_core 167 = .ok (.iaload, 1) := by decide +kernel
theorem dX8_core_168 : decode cX8_core 168 = .ok (.invokevirtual 168, 3) := by decide +kernel
theorem dX8_core_171 : decode cX8_core 171 = .ok (.ifCond .eq 16, 3) := by decide +kernel
theorem dX8_core_174 : decode cX8_core 174 = .ok (.aload_n 0, 1) := by decide +kernel
theorem dX8_core_175 : decode cX8_core 175 = .ok (.getfield 69, 3) := by decide +kernel
theorem dX8_core_178 : decode cX8_core 178 = .ok (.iload_n 3, 1) := by decide +kernel
theorem dX8_core_179 : decode cX8_core 179 = .ok (.dup2, 1) := by decide +kernel
theorem dX8_core_180 : decode cX8_core 180 = .ok (.iaload, 1) := by decide +kernel
theorem dX8_core_181 : decode cX8_core 181 = .ok (.iconst 1, 1) := by decide +kernel
theorem dX8_core_182 : decode cX8_core 182 = .ok (.iload 4, 2) := by decide +kernel
theorem dX8_core_184 : decode cX8_core 184 = .ok (.ishl, 1) := by decide +kernel
theorem dX8_core_185 : decode cX8_core 185 = .ok (.ior, 1) := by decide +kernel
theorem dX8_core_186 : decode cX8_core 186 = .ok (.iastore, 1) := by decide +kernel
theorem dX8_core_187 : decode cX8_core 187 = .ok (.iinc 4 1, 3) := by decide +kernel
theorem dX8_core_190 : decode cX8_core 190 = .ok (.goto (-51), 3) := by decide +kernel
theorem dX8_core_193 : decode cX8_core 193 = .ok (.iinc 3 1, 3) := by decide +kernel
theorem dX8_core_196 : decode cX8_core 196 = .ok (.goto (-75), 3) := by decide +kernel
theorem dX8_core_199 : decode cX8_core 199 = .ok (.aload_n 0, 1) := by decide +kernel
theorem dX8_core_200 : decode cX8_core 200 = .ok (.iconst 0, 1) := by decide +kernel
theorem dX8_core_201 : decode cX8_core 201 = .ok (.putfield 197, 3) := by decide +kernel
theorem dX8_core_204 : decode cX8_core 204 = .ok (.aload_n 0, 1) := by decide +kernel
theorem dX8_core_205 : decode cX8_core 205 = .ok (.iconst 0, 1) := by decide +kernel
theorem dX8_core_206 : decode cX8_core 206 = .ok (.iconst 1, 1) := by decide +kernel
theorem dX8_core_207 : decode cX8_core 207 = .ok (.aload_n 0, 1) := by decide +kernel
theorem dX8_core_208 : decode cX8_core 208 = .ok (.getfield 205, 3) := by decide +kernel
theorem dX8_core_211 : decode cX8_core 211 = .ok (.ishl, 1) := by decide +kernel
theorem dX8_core_212 : decode cX8_core 212 = .ok (.iconst 1, 1) := by decide +kernel
theorem dX8_core_213 : decode cX8_core 213 = .ok (.isub, 1) := by decide +kernel
theorem dX8_core_214 : decode cX8_core 214 = .ok (.iconst 0, 1) := by decide +kernel
theorem dX8_core_215 : decode cX8_core 215 = .ok (.iconst 0, 1) := by decide +kernel
theorem dX8_core_216 : decode cX8_core 216 = .ok (.invokevirtual 208, 3) := by decide +kernel
theorem dX8_core_219 : decode cX8_core 219 = .ok (.aload_n 0, 1) := by decide +kernel
theorem dX8_core_220 : decode cX8_core 220 = .ok (.iconst 0, 1) := by decide +kernel
theorem dX8_core_221 : decode cX8_core 221 = .ok (.putfield 212, 3) := by decide +kernel
theorem dX8_core_224 : decode cX8_core 224 = .ok (.iconst 0, 1) := by decide +kernel
theorem dX8_core_225 : decode cX8_core 225 = .ok (.istore_n 3, 1) := by decide +kernel
theorem dX8_core_226 : decode cX8_core 226 = .ok (.iload_n 3, 1) := by decide +kernel
theorem dX8_core_227 : decode cX8_core 227 = .ok (.aload_n 0, 1) := by decide +kernel
theorem dX8_core_228 : decode cX8_core 228 = .ok (.getfield 205, 3) := by decide +kernel
theorem dX8_core_231 : decode cX8_core 231 = .ok (.if_icmp .ge 48, 3) := by decide +kernel
theorem dX8_core_234 : decode cX8_core 234 = .ok (.aload_n 0, 1) := by decide +kernel
theorem dX8_core_235 : decode cX8_core 235 = .ok (.getfield 197, 3) := by decide +kernel
theorem dX8_core_238 : decode cX8_core 238 = .ok (.iload_n 3, 1) := by decide +kernel
theorem dX8_core_239 : decode cX8_core 239 = .ok (.ishr, 1) := by decide +kernel
theorem dX8_core_240 : decode cX8_core 240 = .ok (.iconst 1, 1) := by decide +kernel
theorem dX8_core_241 : decode cX8_core 241 = .ok (.iand, 1) := by decide +kernel
theorem dX8_core_242 : decode cX8_core 242 = .ok (.ifCond .ne 6, 3) := by decide +kernel
theorem dX8_core_245 : decode cX8_core 245 = .ok (.goto 28, 3) := by decide +kernel
theorem dX8_core_248 : decode cX8_core 248 = .ok (.aload_n 0, 1) := by decide +kernel
theorem dX8_core_249 : decode cX8_core 249 = .ok (.getfield 72, 3) := by decide +kernel
theorem dX8_core_252 : decode cX8_core 252 = .ok (.aload_n 0, 1) := by decide +kernel
theorem dX8_core_253 : decode cX8_core 253 = .ok (.getfield 212, 3) := by decide +kernel
theorem dX8_core_256 : decode cX8_core 256 = .ok (.aload_n 0, 1) := by decide +kernel
theorem dX8_core_257 : decode cX8_core 257 = .ok (.getfield 66, 3) := by decide +kernel
theorem dX8_core_260 : decode cX8_core 260 = .ok (.iload_n 3, 1) := by decide +kernel
theorem dX8_core_261 : decode cX8_core 261 = .ok (.iaload, 1) := by decide +kernel
theorem dX8_core_262 : decode cX8_core 262 = .ok (.iastore, 1) := by decide +kernel
theorem dX8_core_263 : decode cX8_core 263 = .ok (.aload_n 0, 1) := by decide +kernel
theorem dX8_core_264 : decode cX8_core 264 = .ok (.dup, 1) := by decide +kernel
theorem dX8_core_265 : decode cX8_core 265 = .ok (.getfield 212, 3) := by decide +kernel
theorem dX8_core_268 : decode cX8_core 268 = .ok (.iconst 1, 1) := by decide +kernel
theorem dX8_core_269 : decode cX8_core 269 = .ok (.iadd, 1) := by decide +kernel
theorem dX8_core_270 : decode cX8_core 270 = .ok (.putfield 212, 3) := by decide +kernel
theorem dX8_core_273 : decode cX8_core 273 = .ok (.iinc 3 1, 3) := by decide +kernel
theorem dX8_core_276 : decode cX8_core 276 = .ok (.goto (-50), 3) := by decide +kernel
theorem dX8_core_279 : decode cX8_core 279 = .ok (.aload_n 0, 1) := by decide +kernel
theorem dX8_core_280 : decode cX8_core 280 = .ok (.getfield 212, 3) := by decide +kernel
theorem dX8_core_283 : decode cX8_core 283 = .ok (.ireturn, 1) := by decide +kernel
theorem dX8_member_0 : decode cX8_member 0 = .ok (.aload_n 0, 1) := by decide +kernel
theorem dX8_member_1 : decode cX8_member 1 = .ok (.iconst 0, 1) := by decide +kernel
theorem dX8_member_2 : decode cX8_member 2 = .ok (.putfield 75, 3) := by decide +kernel
theorem dX8_member_5 : decode cX8_member 5 = .ok (.iload_n 1, 1) := by decide +kernel
theorem dX8_member_6 : decode cX8_member 6 = .ok (.iconst 0, 1) := by decide +kernel
theorem dX8_member_7 : decode cX8_member 7 = .ok (.aload_n 0, 1) := by decide +kernel
theorem dX8_member_8 : decode cX8_member 8 = .ok (.getfield 212, 3) := by decide +kernel
theorem dX8_member_11 : decode cX8_member 11 = .ok (.iconst 1, 1) := by decide +kernel
theorem dX8_member_12 : decode cX8_member 12 = .ok (.isub, 1) := by decide +kernel
theorem dX8_member_13 : decode cX8_member 13 = .ok (.invokestatic 81, 3) := by decide +kernel
theorem dX8_member_16 : decode cX8_member 16 = .ok (.ifCond .eq 12, 3) := by decide +kernel
theorem dX8_member_19 : decode cX8_member 19 = .ok (.aload_n 0, 1) := by decide +kernel
theorem dX8_member_20 : decode cX8_member 20 = .ok (.getfield 72, 3) := by decide +kernel
theorem dX8_member_23 : decode cX8_member 23 = .ok (.iload_n 1, 1) := by decide +kernel
theorem dX8_member_24 : decode cX8_member 24 = .ok (.iaload, 1) := by decide +kernel
theorem dX8_member_25 : decode cX8_member 25 = .ok (.goto 4, 3) := by decide +kernel
theorem dX8_member_28 : decode cX8_member 28 = .ok (.iconst (-1), 1) := by decide +kernel
theorem dX8_member_29 : decode cX8_member 29 = .ok (.ireturn, 1) := by decide +kernel
theorem dX8_count_0 : decode cX8_count 0 = .ok (.aload_n 0, 1) := by decide +kernel
theorem dX8_count_1 : decode cX8_count 1 = .ok (.iconst 0, 1) := by decide +kernel
theorem dX8_count_2 : decode cX8_count 2 = .ok (.putfield 75, 3) := by decide +kernel
theorem dX8_count_5 : decode cX8_count 5 = .ok (.iconst 0, 1) := by decide +kernel
theorem dX8_count_6 : decode cX8_count 6 = .ok (.istore_n 2, 1) := by decide +kernel
theorem dX8_count_7 : decode cX8_count 7 = .ok (.iload_n 1, 1) := by decide +kernel
theorem dX8_count_8 : decode cX8_count 8 = .ok (.tableswitch 268 0 13 #[72, 107, 147, 147, 147, 147, 147, 147, 174, 243, 248, 253, 258, 263], 72) := by decide +kernel
theorem dX8_count_80 : decode cX8_count 80 = .ok (.iconst 0, 1) := by decide +kernel
theorem dX8_count_81 : decode cX8_count 81 = .ok (.istore_n 3, 1) := by decide +kernel
theorem dX8_count_82 : decode cX8_count 82 = .ok (.iload_n 3, 1) := by decide +kernel
theorem dX8_count_83 : decode cX8_count 83 = .ok (.aload_n 0, 1) := by decide +kernel
theorem dX8_count_84 : decode cX8_count 84 = .ok (.getfield 78, 3) := by decide +kernel
theorem dX8_count_87 : decode cX8_count 87 = .ok (.if_icmp .ge 26, 3) := by decide +kernel
theorem dX8_count_90 : decode cX8_count 90 = .ok (.iload_n 2, 1) := by decide +kernel
theorem dX8_count_91 : decode cX8_count 91 = .ok (.aload_n 0, 1) := by decide +kernel
theorem dX8_count_92 : decode cX8_count 92 = .ok (.getfield 9, 3) := by decide +kernel
theorem dX8_count_95 : decode cX8_count 95 = .ok (.iload_n 3, 1) := by decide +kernel
theorem dX8_count_96 : decode cX8_count 96 = .ok (.baload, 1) := by decide +kernel
theorem dX8_count_97 : decode cX8_count 97 = .ok (.ifCond .eq 7, 3) := by decide +kernel
theorem dX8_count_100 : decode cX8_count 100 = .ok (.iconst 0, 1) := by decide +kernel
theorem dX8_count_101 : decode cX8_count 101 = .ok (.goto 4, 3) := by decide +kernel
theorem dX8_count_104 : decode cX8_count 104 = .ok (.iconst 1, 1) := by decide +kernel
theorem dX8_count_105 : decode cX8_count 105 = .ok (.iadd, 1) := by decide +kernel
theorem dX8_count_106 : decode cX8_count 106 = .ok (.istore_n 2, 1) := by decide +kernel
theorem dX8_count_107 : decode cX8_count 107 = .ok (.iinc 3 1, 3) := by decide +kernel
theorem dX8_count_110 : decode cX8_count 110 = .ok (.goto (-28), 3) := by decide +kernel
theorem dX8_count_113 : decode cX8_count 113 = .ok (.iload_n 2, 1) := by decide +kernel
theorem dX8_count_114 : decode cX8_count 114 = .ok (.ireturn, 1) := by decide +kernel
theorem dX8_count_115 : decode cX8_count 115 = .ok (.iconst 0, 1) := by decide +kernel
theorem dX8_count_116 : decode cX8_count 116 = .ok (.istore_n 3, 1) := by decide +kernel
theorem dX8_count_117 : decode cX8_count 117 = .ok (.iload_n 3, 1) := by decide +kernel
theorem dX8_count_118 : decode cX8_count 118 = .ok (.aload_n 0, 1) := by decide +kernel
theorem dX8_count_119 : decode cX8_count 119 = .ok (.getfield 78, 3) := by decide +kernel
theorem dX8_count_122 : decode cX8_count 122 = .ok (.if_icmp .ge 31, 3) := by decide +kernel
theorem dX8_count_125 : decode cX8_count 125 = .ok (.iload_n 2, 1) := by decide +kernel
theorem dX8_count_126 : decode cX8_count 126 = .ok (.aload_n 0, 1) := by decide +kernel
theorem dX8_count_127 : decode cX8_count 127 = .ok (.getfield 9, 3) := by decide +kernel
theorem dX8_count_130 : decode cX8_count 130 = .ok (.iload_n 3, 1) := by decide +kernel
theorem dX8_count_131 : decode cX8_count 131 = .ok (.baload, 1) := by decide +kernel
theorem dX8_count_132 : decode cX8_count 132 = .ok (.ifCond .eq 7, 3) := by decide +kernel
theorem dX8_count_135 : decode cX8_count 135 = .ok (.iconst 0, 1) := by decide +kernel
theorem dX8_count_136 : decode cX8_count 136 = .ok (.goto 9, 3) := by decide +kernel
theorem dX8_count_139 : decode cX8_count 139 = .ok (.aload_n 0, 1) := by decide +kernel
theorem dX8_count_140 : decode cX8_count 140 = .ok (.getfield 13, 3) := by decide +kernel
theorem dX8_count_143 : decode cX8_count 143 = .ok (.iload_n 3, 1) := by decide +kernel
theorem dX8_count_144 : decode cX8_count 144 = .ok (.iaload, 1) := by decide +kernel
theorem dX8_count_145 : decode cX8_count 145 = .ok (.iadd, 1) := by decide +kernel
theorem dX8_count_146 : decode cX8_count 146 = .ok (.istore_n 2, 1) := by decide +kernel
theorem dX8_count_147 : decode cX8_count 147 = .ok (.iinc 3 1, 3) := by decide +kernel
theorem dX8_count_150 : decode cX8_count 150 = .ok (.goto (-33), 3) := by decide +kernel
theorem dX8_count_153 : decode cX8_count 153 = .ok (.iload_n 2, 1) := by decide +kernel
theorem dX8_count_154 : decode cX8_count 154 = .ok (.ireturn, 1) := by decide +kernel
theorem dX8_count_155 : decode cX8_count 155 = .ok (.aload_n 0, 1) := by decide +kernel
theorem dX8_count_156 : decode cX8_count 156 = .ok (.getfield 60, 3) := by decide +kernel
theorem dX8_count_159 : decode cX8_count 159 = .ok (.iload_n 1, 1) := by decide +kernel
theorem dX8_count_160 : decode cX8_count 160 = .ok (.iconst 2, 1) := by decide +kernel
theorem dX8_count_161 : decode cX8_count 161 = .ok (.if_icmp .ne 7, 3) := by decide +kernel
theorem dX8_count_164 : decode cX8_count 164 = .ok (.iconst 0, 1) := by decide +kernel
theorem dX8_count_165 : decode cX8_count 165 = .ok (.goto 15, 3) := by decide +kernel
theorem dX8_count_168 : decode cX8_count 168 = .ok (.iload_n 1, 1) := by decide +kernel
theorem dX8_count_169 : decode cX8_count 169 = .ok (.iconst 3, 1) := by decide +kernel
theorem dX8_count_170 : decode cX8_count 170 = .ok (.if_icmp .ne 7, 3) := by decide +kernel
theorem dX8_count_173 : decode cX8_count 173 = .ok (.iconst 1, 1) := by decide +kernel
theorem dX8_count_174 : decode cX8_count 174 = .ok (.goto 6, 3) := by decide +kernel
theorem dX8_count_177 : decode cX8_count 177 = .ok (.iload_n 1, 1) := by decide +kernel
theorem dX8_count_178 : decode cX8_count 178 = .ok (.iconst 2, 1) := by decide +kernel
theorem dX8_count_179 : decode cX8_count 179 = .ok (.isub, 1) := by decide +kernel
theorem dX8_count_180 : decode cX8_count 180 = .ok (.iaload, 1) := by decide +kernel
theorem dX8_count_181 : decode cX8_count 181 = .ok (.ireturn, 1) := by decide +kernel
theorem dX8_count_182 : decode cX8_count 182 = .ok (.iconst 0, 1) := by decide +kernel
theorem dX8_count_183 : decode cX8_count 183 = .ok (.istore_n 3, 1) := by decide +kernel
theorem dX8_count_184 : decode cX8_count 184 = .ok (.iload_n 3, 1) := by decide +kernel
theorem dX8_count_185 : decode cX8_count 185 = .ok (.aload_n 0, 1) := by decide +kernel
theorem dX8_count_186 : decode cX8_count 186 = .ok (.getfield 78, 3) := by decide +kernel
theorem dX8_count_189 : decode cX8_count 189 = .ok (.if_icmp .ge 60, 3) := by decide +kernel
theorem dX8_count_192 : decode cX8_count 192 = .ok (.aload_n 0, 1) := by decide +kernel
theorem dX8_count_193 : decode cX8_count 193 = .ok (.getfield 9, 3) := by decide +kernel
theorem dX8_count_196 : decode cX8_count 196 = .ok (.iload_n 3, 1) := by decide +kernel
theorem dX8_count_197 : decode cX8_count 197 = .ok (.baload, 1) := by decide +kernel
theorem dX8_count_198 : decode cX8_count 198 = .ok (.ifCond .eq 6, 3) := by decide +kernel
theorem dX8_count_201 : decode cX8_count 201 = .ok (.goto 42, 3) := by decide +kernel
theorem dX8_count_204 : decode cX8_count 204 = .ok (.aload_n 0, 1) := by decide +kernel
theorem dX8_count_205 : decode cX8_count 205 = .ok (.iload_n 3, 1) := by decide +kernel
theorem dX8_count_206 : decode cX8_count 206 = .ok (.invokevirtual 194, 3) := by decide +kernel
theorem dX8_count_209 : decode cX8_count 209 = .ok (.iconst 0, 1) := by decide +kernel
theorem dX8_count_210 : decode cX8_count 210 = .ok (.istore 4, 2) := by decide +kernel
theorem dX8_count_212 : decode cX8_count 212 = .ok (.aload_n 0, 1) := by decide +kernel
theorem dX8_count_213 : decode cX8_count 213 = .ok (.getfield 63, 3) := by decide +kernel
theorem dX8_count_216 : decode cX8_count 216 = .ok (.iload 4, 2) := by decide +kernel
theorem dX8_count_218 : decode cX8_count 218 = .ok (.iaload, 1) := by decide +kernel
theorem dX8_count_219 : decode cX8_count 219 = .ok (.iconst (-1), 1) := by decide +kernel
theorem dX8_count_220 : decode cX8_count 220 = .ok (.if_icmp .ne 9, 3) := by decide +kernel
theorem dX8_count_223 : decode cX8_count 223 = .ok (.iinc 4 1, 3) := by decide +kernel
theorem dX8_count_226 : decode cX8_count 226 = .ok (.goto (-14), 3) := by decide +kernel
theorem dX8_count_229 : decode cX8_count 229 = .ok (.iload_n 2, 1) := by decide +kernel
theorem dX8_count_230 : decode cX8_count 230 = .ok (.iload 4, 2) := by decide +kernel
theorem dX8_count_232 : decode cX8_count 232 = .ok (.iload_n 3, 1) := by decide +kernel
theorem dX8_count_233 : decode cX8_count 233 = .ok (.if_icmp .ne 7, 3) := by decide +kernel
theorem dX8_count_236 : decode cX8_count 236 = .ok (.iconst 1, 1) := by decide +kernel
theorem dX8_count_237 : decode cX8_count 237 = .ok (.goto 4, 3) := by decide +kernel
theorem dX8_count_240 : decode cX8_count 240 = .ok (.iconst 0, 1) := by decide +kernel
theorem dX8_count_241 : decode cX8_count 241 = .ok (.iadd, 1) := by decide +kernel
theorem dX8_count_242 : decode cX8_count 242 = .ok (.istore_n 2, 1) := by decide +kernel
theorem dX8_count_243 : decode cX8_count 243 = .ok (.iinc 3 1, 3) := by decide +kernel
theorem dX8_count_246 : decode cX8_count 246 = .ok (.goto (-62), 3) := by decide +kernel
theorem dX8_count_249 : decode cX8_count 249 = .ok (.iload_n 2, 1) := by decide +kernel
theorem dX8_count_250 : decode cX8_count 250 = .ok (.ireturn, 1) := by decide +kernel
theorem dX8_count_251 : decode cX8_count 251 = .ok (.aload_n 0, 1) := by decide +kernel
theorem dX8_count_252 : decode cX8_count 252 = .ok (.getfield 32, 3) := by decide +kernel
theorem dX8_count_255 : decode cX8_count 255 = .ok (.ireturn, 1) := by decide +kernel
theorem dX8_count_256 : decode cX8_count 256 = .ok (.aload_n 0, 1) := by decide +kernel
theorem dX8_count_257 : decode cX8_count 257 = .ok (.getfield 36, 3) := by decide +kernel
theorem dX8_count_260 : decode cX8_count 260 = .ok (.ireturn, 1) := by decide +kernel
theorem dX8_count_261 : decode cX8_count 261 = .ok (.aload_n 0, 1) := by decide +kernel
theorem dX8_count_262 : decode cX8_count 262 = .ok (.getfield 39, 3) := by decide +kernel
theorem dX8_count_265 : decode cX8_count 265 = .ok (.ireturn, 1) := by decide +kernel
theorem dX8_count_266 : decode cX8_count 266 = .ok (.aload_n 0, 1) := by decide +kernel
theorem dX8_count_267 : decode cX8_count 267 = .ok (.getfield 117, 3) := by decide +kernel
theorem dX8_count_270 : decode cX8_count 270 = .ok (.ireturn, 1) := by decide +kernel
theorem dX8_count_271 : decode cX8_count 271 = .ok (.aload_n 0, 1) := by decide +kernel
theorem dX8_count_272 : decode cX8_count 272 = .ok (.getfield 179, 3) := by decide +kernel
theorem dX8_count_275 : decode cX8_count 275 = .ok (.ireturn, 1) := by decide +kernel
theorem dX8_count_276 : decode cX8_count 276 = .ok (.iconst (-1), 1) := by decide +kernel
theorem dX8_count_277 : decode cX8_count 277 = .ok (.ireturn, 1) := by decide +kernel
theorem dJ6_bitCount_0f7a4_0 : decode cJ6_bitCount_0f7a4 0 = .ok (.iload_n 0, 1) := by decide +kernel
theorem dJ6_bitCount_0f7a4_1 : decode cJ6_bitCount_0f7a4 1 = .ok (.iload_n 0, 1) := by decide +kernel
theorem dJ6_bitCount_0f7a4_2 : decode cJ6_bitCount_0f7a4 2 = .ok (.iconst 1, 1) := by decide +kernel
theorem dJ6_bitCount_0f7a4_3 : decode cJ6_bitCount_0f7a4 3 = .ok (.iushr, 1) := by decide +kernel
theorem dJ6_bitCount_0f7a4_4 : decode cJ6_bitCount_0f7a4 4 = .ok (.ldc_w 265, 3) := by decide +kernel
theorem dJ6_bitCount_0f7a4_7 : decode cJ6_bitCount_0f7a4 7 = .ok (.iand, 1) := by decide +kernel
theorem dJ6_bitCount_0f7a4_8 : decode cJ6_bitCount_0f7a4 8 = .ok (.isub, 1) := by decide +kernel
theorem dJ6_bitCount_0f7a4_9 : decode cJ6_bitCount_0f7a4 9 = .ok (.istore_n 0, 1) := by decide +kernel
theorem dJ6_bitCount_0f7a4_10 : decode cJ6_bitCount_0f7a4 10 = .ok (.iload_n 0, 1) := by decide +kernel
theorem dJ6_bitCount_0f7a4_11 : decode cJ6_bitCount_0f7a4 11 = .ok (.ldc_w 266, 3) := by decide +kernel
theorem dJ6_bitCount_0f7a4_14 : decode cJ6_bitCount_0f7a4 14 = .ok (.iand, 1) := by decide +kernel
theorem dJ6_bitCount_0f7a4_15 : decode cJ6_bitCount_0f7a4 15 = .ok (.iload_n 0, 1) := by decide +kernel
theorem dJ6_bitCount_0f7a4_16 : decode cJ6_bitCount_0f7a4 16 = .ok (.iconst 2, 1) := by decide +kernel
theorem dJ6_bitCount_0f7a4_17 : decode cJ6_bitCount_0f7a4 17 = .ok (.iushr, 1) := by decide +kernel
theorem dJ6_bitCount_0f7a4_18 : decode cJ6_bitCount_0f7a4 18 = .ok (.ldc_w 266, 3) := by decide +kernel
theorem dJ6_bitCount_0f7a4_21 : decode cJ6_bitCount_0f7a4 21 = .ok (.iand, 1) := by decide +kernel
theorem dJ6_bitCount_0f7a4_22 : decode cJ6_bitCount_0f7a4 22 = .ok (.iadd, 1) := by decide +kernel
theorem dJ6_bitCount_0f7a4_23 : decode cJ6_bitCount_0f7a4 23 = .ok (.istore_n 0, 1) := by decide +kernel
theorem dJ6_bitCount_0f7a4_24 : decode cJ6_bitCount_0f7a4 24 = .ok (.iload_n 0, 1) := by decide +kernel
theorem dJ6_bitCount_0f7a4_25 : decode cJ6_bitCount_0f7a4 25 = .ok (.iload_n 0, 1) := by decide +kernel
theorem dJ6_bitCount_0f7a4_26 : decode cJ6_bitCount_0f7a4 26 = .ok (.iconst 4, 1) := by decide +kernel
theorem dJ6_bitCount_0f7a4_27 : decode cJ6_bitCount_0f7a4 27 = .ok (.iushr, 1) := by decide +kernel
theorem dJ6_bitCount_0f7a4_28 : decode cJ6_bitCount_0f7a4 28 = .ok (.iadd, 1) := by decide +kernel
theorem dJ6_bitCount_0f7a4_29 : decode cJ6_bitCount_0f7a4 29 = .ok (.ldc_w 267, 3) := by decide +kernel
theorem dJ6_bitCount_0f7a4_32 : decode cJ6_bitCount_0f7a4 32 = .ok (.iand, 1) := by decide +kernel
theorem dJ6_bitCount_0f7a4_33 : decode cJ6_bitCount_0f7a4 33 = .ok (.istore_n 0, 1) := by decide +kernel
theorem dJ6_bitCount_0f7a4_34 : decode cJ6_bitCount_0f7a4 34 = .ok (.iload_n 0, 1) := by decide +kernel
theorem dJ6_bitCount_0f7a4_35 : decode cJ6_bitCount_0f7a4 35 = .ok (.iload_n 0, 1) := by decide +kernel
theorem dJ6_bitCount_0f7a4_36 : decode cJ6_bitCount_0f7a4 36 = .ok (.bipush 8, 2) := by decide +kernel
theorem dJ6_bitCount_0f7a4_38 : decode cJ6_bitCount_0f7a4 38 = .ok (.iushr, 1) := by decide +kernel
theorem dJ6_bitCount_0f7a4_39 : decode cJ6_bitCount_0f7a4 39 = .ok (.iadd, 1) := by decide +kernel
theorem dJ6_bitCount_0f7a4_40 : decode cJ6_bitCount_0f7a4 40 = .ok (.istore_n 0, 1) := by decide +kernel
theorem dJ6_bitCount_0f7a4_41 : decode cJ6_bitCount_0f7a4 41 = .ok (.iload_n 0, 1) := by decide +kernel
theorem dJ6_bitCount_0f7a4_42 : decode cJ6_bitCount_0f7a4 42 = .ok (.iload_n 0, 1) := by decide +kernel
theorem dJ6_bitCount_0f7a4_43 : decode cJ6_bitCount_0f7a4 43 = .ok (.bipush 16, 2) := by decide +kernel
theorem dJ6_bitCount_0f7a4_45 : decode cJ6_bitCount_0f7a4 45 = .ok (.iushr, 1) := by decide +kernel
theorem dJ6_bitCount_0f7a4_46 : decode cJ6_bitCount_0f7a4 46 = .ok (.iadd, 1) := by decide +kernel
theorem dJ6_bitCount_0f7a4_47 : decode cJ6_bitCount_0f7a4 47 = .ok (.istore_n 0, 1) := by decide +kernel
theorem dJ6_bitCount_0f7a4_48 : decode cJ6_bitCount_0f7a4 48 = .ok (.iload_n 0, 1) := by decide +kernel
theorem dJ6_bitCount_0f7a4_49 : decode cJ6_bitCount_0f7a4 49 = .ok (.bipush 63, 2) := by decide +kernel
theorem dJ6_bitCount_0f7a4_51 : decode cJ6_bitCount_0f7a4 51 = .ok (.iand, 1) := by decide +kernel
theorem dJ6_bitCount_0f7a4_52 : decode cJ6_bitCount_0f7a4 52 = .ok (.ireturn, 1) := by decide +kernel
theorem dJ13_bitCount_95d88_0 : decode cJ13_bitCount_95d88 0 = .ok (.lload_n 0, 1) := by decide +kernel
theorem dJ13_bitCount_95d88_1 : decode cJ13_bitCount_95d88 1 = .ok (.lload_n 0, 1) := by decide +kernel
theorem dJ13_bitCount_95d88_2 : decode cJ13_bitCount_95d88 2 = .ok (.iconst 1, 1) := by decide +kernel
theorem dJ13_bitCount_95d88_3 : decode cJ13_bitCount_95d88 3 = .ok (.lushr, 1) := by decide +kernel
theorem dJ13_bitCount_95d88_4 : decode cJ13_bitCount_95d88 4 = .ok (.ldc2_w 314, 3) := by decide +kernel
theorem dJ13_bitCount_95d88_7 : decode cJ13_bitCount_95d88 7 = .ok (.land, 1) := by decide +kernel
theorem dJ13_bitCount_95d88_8 : decode cJ13_bitCount_95d88 8 = .ok (.lsub, 1) := by decide +kernel
theorem dJ13_bitCount_95d88_9 : decode cJ13_bitCount_95d88 9 = .ok (.lstore_n 0, 1) := by decide +kernel
theorem dJ13_bitCount_95d88_10 : decode cJ13_bitCount_95d88 10 = .ok (.lload_n 0, 1) := by decide +kernel
theorem dJ13_bitCount_95d88_11 : decode cJ13_bitCount_95d88 11 = .ok (.ldc2_w 316, 3) := by decide +kernel
theorem dJ13_bitCount_95d88_14 : decode cJ13_bitCount_95d88 14 = .ok (.land, 1) := by decide +kernel
theorem dJ13_bitCount_95d88_15 : decode cJ13_bitCount_95d88 15 = .ok (.lload_n 0, 1) := by decide +kernel
theorem dJ13_bitCount_95d88_16 : decode cJ13_bitCount_95d88 16 = .ok (.iconst 2, 1) := by decide +kernel
theorem dJ13_bitCount_95d88_17 : decode cJ13_bitCount_95d88 17 = .ok (.lushr, 1) := by decide +kernel
theorem dJ13_bitCount_95d88_18 : decode cJ13_bitCount_95d88 18 = .ok (.ldc2_w 316, 3) := by decide +kernel
theorem dJ13_bitCount_95d88_21 : decode cJ13_bitCount_95d88 21 = .ok (.land, 1) := by decide +kernel
theorem dJ13_bitCount_95d88_22 : decode cJ13_bitCount_95d88 22 = .ok (.ladd, 1) := by decide +kernel
theorem dJ13_bitCount_95d88_23 : decode cJ13_bitCount_95d88 23 = .ok (.lstore_n 0, 1) := by decide +kernel
theorem dJ13_bitCount_95d88_24 : decode cJ13_bitCount_95d88 24 = .ok (.lload_n 0, 1) := by decide +kernel
theorem dJ13_bitCount_95d88_25 : decode cJ13_bitCount_95d88 25 = .ok (.lload_n 0, 1) := by decide +kernel
theorem dJ13_bitCount_95d88_26 : decode cJ13_bitCount_95d88 26 = .ok (.iconst 4, 1) := by decide +kernel
theorem dJ13_bitCount_95d88_27 : decode cJ13_bitCount_95d88 27 = .ok (.lushr, 1) := by decide +kernel
theorem dJ13_bitCount_95d88_28 : decode cJ13_bitCount_95d88 28 = .ok (.ladd, 1) := by decide +kernel
theorem dJ13_bitCount_95d88_29 : decode cJ13_bitCount_95d88 29 = .ok (.ldc2_w 318, 3) := by decide +kernel
theorem dJ13_bitCount_95d88_32 : decode cJ13_bitCount_95d88 32 = .ok (.land, 1) := by decide +kernel
theorem dJ13_bitCount_95d88_33 : decode cJ13_bitCount_95d88 33 = .ok (.lstore_n 0, 1) := by decide +kernel
theorem dJ13_bitCount_95d88_34 : decode cJ13_bitCount_95d88 34 = .ok (.lload_n 0, 1) := by decide +kernel
theorem dJ13_bitCount_95d88_35 : decode cJ13_bitCount_95d88 35 = .ok (.lload_n 0, 1) := by decide +kernel
theorem dJ13_bitCount_95d88_36 : decode cJ13_bitCount_95d88 36 = .ok (.bipush 8, 2) := by decide +kernel
theorem dJ13_bitCount_95d88_38 : decode cJ13_bitCount_95d88 38 = .ok (.lushr, 1) := by decide +kernel
theorem dJ13_bitCount_95d88_39 : decode cJ13_bitCount_95d88 39 = .ok (.ladd, 1) := by decide +kernel
theorem dJ13_bitCount_95d88_40 : decode cJ13_bitCount_95d88 40 = .ok (.lstore_n 0, 1) := by decide +kernel
theorem dJ13_bitCount_95d88_41 : decode cJ13_bitCount_95d88 41 = .ok (.lload_n 0, 1) := by decide +kernel
theorem dJ13_bitCount_95d88_42 : decode cJ13_bitCount_95d88 42 = .ok (.lload_n 0, 1) := by decide +kernel
theorem dJ13_bitCount_95d88_43 : decode cJ13_bitCount_95d88 43 = .ok (.bipush 16, 2) := by decide +kernel
theorem dJ13_bitCount_95d88_45 : decode cJ13_bitCount_95d88 45 = .ok (.lushr, 1) := by decide +kernel
theorem dJ13_bitCount_95d88_46 : decode cJ13_bitCount_95d88 46 = .ok (.ladd, 1) := by decide +kernel
theorem dJ13_bitCount_95d88_47 : decode cJ13_bitCount_95d88 47 = .ok (.lstore_n 0, 1) := by decide +kernel
theorem dJ13_bitCount_95d88_48 : decode cJ13_bitCount_95d88 48 = .ok (.lload_n 0, 1) := by decide +kernel
theorem dJ13_bitCount_95d88_49 : decode cJ13_bitCount_95d88 49 = .ok (.lload_n 0, 1) := by decide +kernel
theorem dJ13_bitCount_95d88_50 : decode cJ13_bitCount_95d88 50 = .ok (.bipush 32, 2) := by decide +kernel
theorem dJ13_bitCount_95d88_52 : decode cJ13_bitCount_95d88 52 = .ok (.lushr, 1) := by decide +kernel
theorem dJ13_bitCount_95d88_53 : decode cJ13_bitCount_95d88 53 = .ok (.ladd, 1) := by decide +kernel
theorem dJ13_bitCount_95d88_54 : decode cJ13_bitCount_95d88 54 = .ok (.lstore_n 0, 1) := by decide +kernel
theorem dJ13_bitCount_95d88_55 : decode cJ13_bitCount_95d88 55 = .ok (.lload_n 0, 1) := by decide +kernel
theorem dJ13_bitCount_95d88_56 : decode cJ13_bitCount_95d88 56 = .ok (.l2i, 1) := by decide +kernel
theorem dJ13_bitCount_95d88_57 : decode cJ13_bitCount_95d88 57 = .ok (.bipush 127, 2) := by decide +kernel
theorem dJ13_bitCount_95d88_59 : decode cJ13_bitCount_95d88 59 = .ok (.iand, 1) := by decide +kernel
theorem dJ13_bitCount_95d88_60 : decode cJ13_bitCount_95d88 60 = .ok (.ireturn, 1) := by decide +kernel
theorem dJ9_min_7cf53_0 : decode cJ9_min_7cf53 0 = .ok (.iload_n 0, 1) := by decide +kernel
theorem dJ9_min_7cf53_1 : decode cJ9_min_7cf53 1 = .ok (.iload_n 1, 1) := by decide +kernel
theorem dJ9_min_7cf53_2 : decode cJ9_min_7cf53 2 = .ok (.if_icmp .gt 7, 3) := by decide +kernel
theorem dJ9_min_7cf53_5 : decode cJ9_min_7cf53 5 = .ok (.iload_n 0, 1) := by decide +kernel
theorem dJ9_min_7cf53_6 : decode cJ9_min_7cf53 6 = .ok (.goto 4, 3) := by decide +kernel
theorem dJ9_min_7cf53_9 : decode cJ9_min_7cf53 9 = .ok (.iload_n 1, 1) := by decide +kernel
theorem dJ9_min_7cf53_10 : decode cJ9_min_7cf53 10 = .ok (.ireturn, 1) := by decide +kernel
theorem dJ9_min_f86c9_0 : decode cJ9_min_f86c9 0 = .ok (.lload_n 0, 1) := by decide +kernel
theorem dJ9_min_f86c9_1 : decode cJ9_min_f86c9 1 = .ok (.lload_n 2, 1) := by decide +kernel
theorem dJ9_min_f86c9_2 : decode cJ9_min_f86c9 2 = .ok (.lcmp, 1) := by decide +kernel
theorem dJ9_min_f86c9_3 : decode cJ9_min_f86c9 3 = .ok (.ifCond .gt 7, 3) := by decide +kernel
theorem dJ9_min_f86c9_6 : decode cJ9_min_f86c9 6 = .ok (.lload_n 0, 1) := by decide +kernel
theorem dJ9_min_f86c9_7 : decode cJ9_min_f86c9 7 = .ok (.goto 4, 3) := by decide +kernel
theorem dJ9_min_f86c9_10 : decode cJ9_min_f86c9 10 = .ok (.lload_n 2, 1) := by decide +kernel
theorem dJ9_min_f86c9_11 : decode cJ9_min_f86c9 11 = .ok (.lreturn, 1) := by decide +kernel
theorem dL_pair_0 : decode cL_pair 0 = .ok (.aload_n 3, 1) := by decide +kernel
theorem dL_pair_1 : decode cL_pair 1 = .ok (.iconst 0, 1) := by decide +kernel
theorem dL_pair_2 : decode cL_pair 2 = .ok (.aload_n 0, 1) := by decide +kernel
theorem dL_pair_3 : decode cL_pair 3 = .ok (.iload_n 1, 1) := by decide +kernel
theorem dL_pair_4 : decode cL_pair 4 = .ok (.iload_n 2, 1) := by decide +kernel
theorem dL_pair_5 : decode cL_pair 5 = .ok (.invokevirtual 7, 3) := by decide +kernel
theorem dL_pair_8 : decode cL_pair 8 = .ok (.i2l, 1) := by decide +kernel
theorem dL_pair_9 : decode cL_pair 9 = .ok (.lastore, 1) := by decide +kernel
theorem dL_pair_10 : decode cL_pair 10 = .ok (.goto 7, 3) := by decide +kernel
theorem dL_pair_13 : decode cL_pair 13 = .ok (.astore 4, 2) := by decide +kernel
theorem dL_pair_15 : decode cL_pair 15 = .ok (.iconst 1, 1) := by decide +kernel
theorem dL_pair_16 : decode cL_pair 16 = .ok (.ireturn, 1) := by decide +kernel
theorem dL_pair_17 : decode cL_pair 17 = .ok (.iconst 0, 1) := by decide +kernel
theorem dL_pair_18 : decode cL_pair 18 = .ok (.ireturn, 1) := by decide +kernel
theorem dL_law_0 : decode cL_law 0 = .ok (.new 8, 3) := by decide +kernel
theorem dL_law_3 : decode cL_law 3 = .ok (.dup, 1) := by decide +kernel
theorem dL_law_4 : decode cL_law 4 = .ok (.invokespecial 15, 3) := by decide +kernel
theorem dL_law_7 : decode cL_law 7 = .ok (.astore_n 1, 1) := by decide +kernel
theorem dL_law_8 : decode cL_law 8 = .ok (.new 16, 3) := by decide +kernel
theorem dL_law_11 : decode cL_law 11 = .ok (.dup, 1) := by decide +kernel
theorem dL_law_12 : decode cL_law 12 = .ok (.invokespecial 18, 3) := by decide +kernel
theorem dL_law_15 : decode cL_law 15 = .ok (.astore_n 2, 1) := by decide +kernel
theorem dL_law_16 : decode cL_law 16 = .ok (.iconst 1, 1) := by decide +kernel
theorem dL_law_17 : decode cL_law 17 = .ok (.newarray .long, 2) := by decide +kernel
theorem dL_law_19 : decode cL_law 19 = .ok (.astore_n 3, 1) := by decide +kernel
theorem dL_law_20 : decode cL_law 20 = .ok (.iconst 0, 1) := by decide +kernel
theorem dL_law_21 : decode cL_law 21 = .ok (.istore 4, 2) := by decide +kernel
theorem dL_law_23 : decode cL_law 23 = .ok (.iload 4, 2) := by decide +kernel
theorem dL_law_25 : decode cL_law 25 = .ok (.aload_n 0, 1) := by decide +kernel
theorem dL_law_26 : decode cL_law 26 = .ok (.arraylength, 1) := by decide +kernel
theorem dL_law_27 : decode cL_law 27 = .ok (.bipush 6, 2) := by decide +kernel
theorem dL_law_29 : decode cL_law 29 = .ok (.isub, 1) := by decide +kernel
theorem dL_law_30 : decode cL_law 30 = .ok (.if_icmp .gt 911, 3) := by decide +kernel
theorem dL_law_33 : decode cL_law 33 = .ok (.aload_n 0, 1) := by decide +kernel
theorem dL_law_34 : decode cL_law 34 = .ok (.iload 4, 2) := by decide +kernel
theorem dL_law_36 : decode cL_law 36 = .ok (.iaload, 1) := by decide +kernel
theorem dL_law_37 : decode cL_law 37 = .ok (.bipush 31, 2) := by decide +kernel
theorem dL_law_39 : decode cL_law 39 = .ok (.iand, 1) := by decide +kernel
theorem dL_law_40 : decode cL_law 40 = .ok (.tableswitch 895 0 22 #[108, 121, 146, 183, 220, 257, 330, 355, 392, 441, 454, 479, 516, 553, 603, 640, 653, 721, 746, 771, 796, 833, 870], 108) := by decide +kernel
theorem dL_law_148 : decode cL_law 148 = .ok (.aload_n 1, 1) := by decide +kernel
theorem dL_law_149 : decode cL_law 149 = .ok (.invokevirtual 19, 3) := by decide +kernel
theorem dL_law_152 : decode cL_law 152 = .ok (.aload_n 2, 1) := by decide +kernel
theorem dL_law_153 : decode cL_law 153 = .ok (.invokevirtual 23, 3) := by decide +kernel
theorem dL_law_156 : decode cL_law 156 = .ok (.if_icmp .eq 779, 3) := by decide +kernel
theorem dL_law_159 : decode cL_law 159 = .ok (.iconst 0, 1) := by decide +kernel
theorem dL_law_160 : decode cL_law 160 = .ok (.ireturn, 1) := by decide +kernel
theorem dL_law_161 : decode cL_law 161 = .ok (.aload_n 1, 1) := by decide +kernel
theorem dL_law_162 : decode cL_law 162 = .ok (.aload_n 0, 1) := by decide +kernel
theorem dL_law_163 : decode cL_law 163 = .ok (.iload 4, 2) := by decide +kernel
theorem dL_law_165 : decode cL_law 165 = .ok (.iconst 1, 1) := by decide +kernel
theorem dL_law_166 : decode cL_law 166 = .ok (.iadd, 1) := by decide +kernel
theorem dL_law_167 : decode cL_law 167 = .ok (.iaload, 1) := by decide +kernel
theorem dL_law_168 : decode cL_law 168 = .ok (.invokevirtual 24, 3) := by decide +kernel
theorem dL_law_171 : decode cL_law 171 = .ok (.aload_n 2, 1) := by decide +kernel
theorem dL_law_172 : decode cL_law 172 = .ok (.aload_n 0, 1) := by decide +kernel
theorem dL_law_173 : decode cL_law 173 = .ok (.iload 4, 2) := by decide +kernel
theorem dL_law_175 : decode cL_law 175 = .ok (.iconst 1, 1) := by decide +kernel
theorem dL_law_176 : decode cL_law 176 = .ok (.iadd, 1) := by decide +kernel
theorem dL_law_177 : decode cL_law 177 = .ok (.iaload, 1) := by decide +kernel
theorem dL_law_178 : decode cL_law 178 = .ok (.invokevirtual 28, 3) := by decide +kernel
theorem dL_law_181 : decode cL_law 181 = .ok (.if_icmp .eq 754, 3) := by decide +kernel
theorem dL_law_184 : decode cL_law 184 = .ok (.iconst 0, 1) := by decide +kernel
theorem dL_law_185 : decode cL_law 185 = .ok (.ireturn, 1) := by decide +kernel
theorem dL_law_186 : decode cL_law 186 = .ok (.aload_n 1, 1) := by decide +kernel
theorem dL_law_187 : decode cL_law 187 = .ok (.aload_n 0, 1) := by decide +kernel
theorem dL_law_188 : decode cL_law 188 = .ok (.iload 4, 2) := by decide +kernel
theorem dL_law_190 : decode cL_law 190 = .ok (.iconst 1, 1) := by decide +kernel
theorem dL_law_191 : decode cL_law 191 = .ok (.iadd, 1) := by decide +kernel
theorem dL_law_192 : decode cL_law 192 = .ok (.iaload, 1) := by decide +kernel
theorem dL_law_193 : decode cL_law 193 = .ok (.aload_n 0, 1) := by decide +kernel
theorem dL_law_194 : decode cL_law 194 = .ok (.iload 4, 2) := by decide +kernel
theorem dL_law_196 : decode cL_law 196 = .ok (.iconst 2, 1) := by decide +kernel
theorem dL_law_197 : decode cL_law 197 = .ok (.iadd, 1) := by decide +kernel
theorem dL_law_198 : decode cL_law 198 = .ok (.iaload, 1) := by decide +kernel
theorem dL_law_199 : decode cL_law 199 = .ok (.invokevirtual 29, 3) := by decide +kernel
theorem dL_law_202 : decode cL_law 202 = .ok (.aload_n 2, 1) := by decide +kernel
theorem dL_law_203 : decode cL_law 203 = .ok (.aload_n 0, 1) := by decide +kernel
theorem dL_law_204 : decode cL_law 204 = .ok (.iload 4, 2) := by decide +kernel
theorem dL_law_206 : decode cL_law 206 = .ok (.iconst 1, 1) := by decide +kernel
theorem dL_law_207 : decode cL_law 207 = .ok (.iadd, 1) := by decide +kernel
theorem dL_law_208 : decode cL_law 208 = .ok (.iaload, 1) := by decide +kernel
theorem dL_law_209 : decode cL_law 209 = .ok (.aload_n 0, 1) := by decide +kernel
theorem dL_law_210 : decode cL_law 210 = .ok (.iload 4, 2) := by decide +kernel
theorem dL_law_212 : decode cL_law 212 = .ok (.iconst 2, 1) := by decide +kernel
theorem dL_law_213 : decode cL_law 213 = .ok (.iadd, 1) := by decide +kernel
theorem dL_law_214 : decode cL_law 214 = .ok (.iaload, 1) := by decide +kernel
theorem dL_law_215 : decode cL_law 215 = .ok (.invokevirtual 33, 3) := by decide +kernel
theorem dL_law_218 : decode cL_law 218 = .ok (.if_icmp .eq 717, 3) := by decide +kernel
theorem dL_law_221 : decode cL_law 221 = .ok (.iconst 0, 1) := by decide +kernel
theorem dL_law_222 : decode cL_law 222 = .ok (.ireturn, 1) := by decide +kernel
theorem dL_law_223 : decode cL_law 223 = .ok (.aload_n 1, 1) := by decide +kernel
theorem dL_law_224 : decode cL_law 224 = .ok (.aload_n 0, 1) := by decide +kernel
theorem dL_law_225 : decode cL_law 225 = .ok (.iload 4, 2) := by decide +kernel
theorem dL_law_227 : decode cL_law 227 = .ok (.iconst 1, 1) := by decide +kernel
theorem dL_law_228 : decode cL_law 228 = .ok (.iadd, 1) := by decide +kernel
theorem dL_law_229 : decode cL_law 229 = .ok (.iaload, 1) := by decide +kernel
theorem dL_law_230 : decode cL_law 230 = .ok (.aload_n 0, 1) := by decide +kernel
theorem dL_law_231 : decode cL_law 231 = .ok (.iload 4, 2) := by decide +kernel
theorem dL_law_233 : decode cL_law 233 = .ok (.iconst 2, 1) := by decide +kernel
theorem dL_law_234 : decode cL_law 234 = .ok (.iadd, 1) := by decide +kernel
theorem dL_law_235 : decode cL_law 235 = .ok (.iaload, 1) := by decide +kernel
theorem dL_law_236 : decode cL_law 236 = .ok (.invokevirtual 34, 3) := by decide +kernel
theorem dL_law_239 : decode cL_law 239 = .ok (.aload_n 2, 1) := by decide +kernel
theorem dL_law_240 : decode cL_law 240 = .ok (.aload_n 0, 1) := by decide +kernel
theorem dL_law_241 : decode cL_law 241 = .ok (.iload 4, 2) := by decide +kernel
theorem dL_law_243 : decode cL_law 243 = .ok (.iconst 1, 1) := by decide +kernel
theorem dL_law_244 : decode cL_law 244 = .ok (.iadd, 1) := by decide +kernel
theorem dL_law_245 : decode cL_law 245 = .ok (.iaload, 1) := by decide +kernel
theorem dL_law_246 : decode cL_law 246 = .ok (.aload_n 0, 1) := by decide +kernel
theorem dL_law_247 : decode cL_law 247 = .ok (.iload 4, 2) := by decide +kernel
theorem dL_law_249 : decode cL_law 249 = .ok (.iconst 2, 1) := by decide +kernel
theorem dL_law_250 : decode cL_law 250 = .ok (.iadd, 1) := by decide +kernel
theorem dL_law_251 : decode cL_law 251 = .ok (.iaload, 1) := by decide +kernel
theorem dL_law_252 : decode cL_law 252 = .ok (.invokevirtual 37, 3) := by decide +kernel
theorem dL_law_255 : decode cL_law 255 = .ok (.if_icmp .eq 680, 3) := by decide +kernel
theorem dL_law_258 : decode cL_law 258 = .ok (.iconst 0, 1) := by decide +kernel
theorem dL_law_259 : decode cL_law 259 = .ok (.ireturn, 1) := by decide +kernel
theorem dL_law_260 : decode cL_law 260 = .ok (.aload_n 1, 1) := by decide +kernel
theorem dL_law_261 : decode cL_law 261 = .ok (.aload_n 0, 1) := by decide +kernel
theorem dL_law_262 : decode cL_law 262 = .ok (.iload 4, 2) := by decide +kernel
theorem dL_law_264 : decode cL_law 264 = .ok (.iconst 1, 1) := by decide +kernel
theorem dL_law_265 : decode cL_law 265 = .ok (.iadd, 1) := by decide +kernel
theorem dL_law_266 : decode cL_law 266 = .ok (.iaload, 1) := by decide +kernel
theorem dL_law_267 : decode cL_law 267 = .ok (.aload_n 0, 1) := by decide +kernel
theorem dL_law_268 : decode cL_law 268 = .ok (.iload 4, 2) := by decide +kernel
theorem dL_law_270 : decode cL_law 270 = .ok (.iconst 2, 1) := by decide +kernel
theorem dL_law_271 : decode cL_law 271 = .ok (.iadd, 1) := by decide +kernel
theorem dL_law_272 : decode cL_law 272 = .ok (.iaload, 1) := by decide +kernel
theorem dL_law_273 : decode cL_law 273 = .ok (.invokevirtual 38, 3) := by decide +kernel
theorem dL_law_276 : decode cL_law 276 = .ok (.aload_n 2, 1) := by decide +kernel
theorem dL_law_277 : decode cL_law 277 = .ok (.aload_n 0, 1) := by decide +kernel
theorem dL_law_278 : decode cL_law 278 = .ok (.iload 4, 2) := by decide +kernel
theorem dL_law_280 : decode cL_law 280 = .ok (.iconst 1, 1) := by decide +kernel
theorem dL_law_281 : decode cL_law 281 = .ok (.iadd, 1) := by decide +kernel
theorem dL_law_282 : decode cL_law 282 = .ok (.iaload, 1) := by decide +kernel
theorem dL_law_283 : decode cL_law 283 = .ok (.aload_n 0, 1) := by decide +kernel
theorem dL_law_284 : decode cL_law 284 = .ok (.iload 4, 2) := by decide +kernel
theorem dL_law_286 : decode cL_law 286 = .ok (.iconst 2, 1) := by decide +kernel
theorem dL_law_287 : decode cL_law 287 = .ok (.iadd, 1) := by decide +kernel
theorem dL_law_288 : decode cL_law 288 = .ok (.iaload, 1) := by decide +kernel
theorem dL_law_289 : decode cL_law 289 = .ok (.invokevirtual 41, 3) := by decide +kernel
theorem dL_law_292 : decode cL_law 292 = .ok (.if_icmp .eq 643, 3) := by decide +kernel
theorem dL_law_295 : decode cL_law 295 = .ok (.iconst 0, 1) := by decide +kernel
theorem dL_law_296 : decode cL_law 296 = .ok (.ireturn, 1) := by decide +kernel
theorem dL_law_297 : decode cL_law 297 = .ok (.aload_n 1, 1) := by decide +kernel
theorem dL_law_298 : decode cL_law 298 = .ok (.aload_n 0, 1) := by decide +kernel
theorem dL_law_299 : decode cL_law 299 = .ok (.iload 4, 2) := by decide +kernel
theorem dL_law_301 : decode cL_law 301 = .ok (.iconst 1, 1) := by decide +kernel
theorem dL_law_302 : decode cL_law 302 = .ok (.iadd, 1) := by decide +kernel
theorem dL_law_303 : decode cL_law 303 = .ok (.iaload, 1) := by decide +kernel
theorem dL_law_304 : decode cL_law 304 = .ok (.aload_n 0, 1) := by decide +kernel
theorem dL_law_305 : decode cL_law 305 = .ok (.iload 4, 2) := by decide +kernel
theorem dL_law_307 : decode cL_law 307 = .ok (.iconst 2, 1) := by decide +kernel
theorem dL_law_308 : decode cL_law 308 = .ok (.iadd, 1) := by decide +kernel
theorem dL_law_309 : decode cL_law 309 = .ok (.iaload, 1) := by decide +kernel
theorem dL_law_310 : decode cL_law 310 = .ok (.aload_n 0, 1) := by decide +kernel
theorem dL_law_311 : decode cL_law 311 = .ok (.iload 4, 2) := by decide +kernel
theorem dL_law_313 : decode cL_law 313 = .ok (.iconst 3, 1) := by decide +kernel
theorem dL_law_314 : decode cL_law 314 = .ok (.iadd, 1) := by decide +kernel
theorem dL_law_315 : decode cL_law 315 = .ok (.iaload, 1) := by decide +kernel
theorem dL_law_316 : decode cL_law 316 = .ok (.aload_n 0, 1) := by decide +kernel
theorem dL_law_317 : decode cL_law 317 = .ok (.iload 4, 2) := by decide +kernel
theorem dL_law_319 : decode cL_law 319 = .ok (.iconst 4, 1) := by decide +kernel
theorem dL_law_320 : decode cL_law 320 = .ok (.iadd, 1) := by decide +kernel
theorem dL_law_321 : decode cL_law 321 = .ok (.iaload, 1) := by decide +kernel
theorem dL_law_322 : decode cL_law 322 = .ok (.aload_n 0, 1) := by decide +kernel
theorem dL_law_323 : decode cL_law 323 = .ok (.iload 4, 2) := by decide +kernel
theorem dL_law_325 : decode cL_law 325 = .ok (.iconst 5, 1) := by decide +kernel
theorem dL_law_326 : decode cL_law 326 = .ok (.iadd, 1) := by decide +kernel
theorem dL_law_327 : decode cL_law 327 = .ok (.iaload, 1) := by decide +kernel
theorem dL_law_328 : decode cL_law 328 = .ok (.invokevirtual 42, 3) := by decide +kernel
theorem dL_law_331 : decode cL_law 331 = .ok (.aload_n 2, 1) := by decide +kernel
theorem dL_law_332 : decode cL_law 332 = .ok (.aload_n 0, 1) := by decide +kernel
theorem dL_law_333 : decode cL_law 333 = .ok (.iload 4, 2) := by decide +kernel
theorem dL_law_335 : decode cL_law 335 = .ok (.iconst 1, 1) := by decide +kernel
theorem dL_law_336 : decode cL_law 336 = .ok (.iadd, 1) := by decide +kernel
theorem dL_law_337 : decode cL_law 337 = .ok (.iaload, 1) := by decide +kernel
theorem dL_law_338 : decode cL_law 338 = .ok (.aload_n 0, 1) := by decide +kernel
theorem dL_law_339 : decode cL_law 339 = .ok (.iload 4, 2) := by decide +kernel
theorem dL_law_341 : decode cL_law 341 = .ok (.iconst 2, 1) := by decide +kernel
theorem dL_law_342 : decode cL_law 342 = .ok (.iadd, 1) := by decide +kernel
end
section
theorem dL_law_343 : decode cL_law 343 = .ok (.iaload, 1) := by decide +kernel
theorem dL_law_344 : decode cL_law 344 = .ok (.aload_n 0, 1) := by decide +kernel
theorem dL_law_345 : decode cL_law 345 = .ok (.iload 4, 2) := by decide +kernel
theorem dL_law_347 : decode cL_law 347 = .ok (.iconst 3, 1) := by decide +kernel
theorem dL_law_348 : decode cL_law 348 = .ok (.iadd, 1) := by decide +kernel
theorem dL_law_349 : decode cL_law 349 = .ok (.iaload, 1) := by decide +kernel
theorem dL_law_350 : decode cL_law 350 = .ok (.aload_n 0, 1) := by decide +kernel
theorem dL_law_351 : decode cL_law 351 = .ok (.iload 4, 2) := by decide +kernel
theorem dL_law_353 : decode cL_law 353 = .ok (.iconst 4, 1) := by decide +kernel
theorem dL_law_354 : decode cL_law 354 = .ok (.iadd, 1) := by decide +kernel
theorem dL_law_355 : decode cL_law 355 = .ok (.iaload, 1) := by decide +kernel
theorem dL_law_356 : decode cL_law 356 = .ok (.aload_n 0, 1) := by decide +kernel
theorem dL_law_357 : decode cL_law 357 = .ok (.iload 4, 2) := by decide +kernel
theorem dL_law_359 : decode cL_law 359 = .ok (.iconst 5, 1) := by decide +kernel
theorem dL_law_360 : decode cL_law 360 = .ok (.iadd, 1) := by decide +kernel
theorem dL_law_361 : decode cL_law 361 = .ok (.iaload, 1) := by decide +kernel
theorem dL_law_362 : decode cL_law 362 = .ok (.invokevirtual 46, 3) := by decide +kernel
theorem dL_law_365 : decode cL_law 365 = .ok (.if_icmp .eq 570, 3) := by decide +kernel
theorem dL_law_368 : decode cL_law 368 = .ok (.iconst 0, 1) := by decide +kernel
theorem dL_law_369 : decode cL_law 369 = .ok (.ireturn, 1) := by decide +kernel
theorem dL_law_370 : decode cL_law 370 = .ok (.aload_n 1, 1) := by decide +kernel
theorem dL_law_371 : decode cL_law 371 = .ok (.aload_n 0, 1) := by decide +kernel
theorem dL_law_372 : decode cL_law 372 = .ok (.iload 4, 2) := by decide +kernel
theorem dL_law_374 : decode cL_law 374 = .ok (.iconst 1, 1) := by decide +kernel
theorem dL_law_375 : decode cL_law 375 = .ok (.iadd, 1) := by decide +kernel
theorem dL_law_376 : decode cL_law 376 = .ok (.iaload, 1) := by decide +kernel
theorem dL_law_377 : decode cL_law 377 = .ok (.invokevirtual 47, 3) := by decide +kernel
theorem dL_law_380 : decode cL_law 380 = .ok (.aload_n 2, 1) := by decide +kernel
theorem dL_law_381 : decode cL_law 381 = .ok (.aload_n 0, 1) := by decide +kernel
theorem dL_law_382 : decode cL_law 382 = .ok (.iload 4, 2) := by decide +kernel
theorem dL_law_384 : decode cL_law 384 = .ok (.iconst 1, 1) := by decide +kernel
theorem dL_law_385 : decode cL_law 385 = .ok (.iadd, 1) := by decide +kernel
theorem dL_law_386 : decode cL_law 386 = .ok (.iaload, 1) := by decide +kernel
theorem dL_law_387 : decode cL_law 387 = .ok (.invokevirtual 51, 3) := by decide +kernel
theorem dL_law_390 : decode cL_law 390 = .ok (.if_icmp .eq 545, 3) := by decide +kernel
theorem dL_law_393 : decode cL_law 393 = .ok (.iconst 0, 1) := by decide +kernel
theorem dL_law_394 : decode cL_law 394 = .ok (.ireturn, 1) := by decide +kernel
theorem dL_law_395 : decode cL_law 395 = .ok (.aload_n 1, 1) := by decide +kernel
theorem dL_law_396 : decode cL_law 396 = .ok (.aload_n 0, 1) := by decide +kernel
theorem dL_law_397 : decode cL_law 397 = .ok (.iload 4, 2) := by decide +kernel
theorem dL_law_399 : decode cL_law 399 = .ok (.iconst 1, 1) := by decide +kernel
theorem dL_law_400 : decode cL_law 400 = .ok (.iadd, 1) := by decide +kernel
theorem dL_law_401 : decode cL_law 401 = .ok (.iaload, 1) := by decide +kernel
theorem dL_law_402 : decode cL_law 402 = .ok (.aload_n 0, 1) := by decide +kernel
theorem dL_law_403 : decode cL_law 403 = .ok (.iload 4, 2) := by decide +kernel
theorem dL_law_405 : decode cL_law 405 = .ok (.iconst 2, 1) := by decide +kernel
theorem dL_law_406 : decode cL_law 406 = .ok (.iadd, 1) := by decide +kernel
theorem dL_law_407 : decode cL_law 407 = .ok (.iaload, 1) := by decide +kernel
theorem dL_law_408 : decode cL_law 408 = .ok (.invokevirtual 52, 3) := by decide +kernel
theorem dL_law_411 : decode cL_law 411 = .ok (.aload_n 2, 1) := by decide +kernel
theorem dL_law_412 : decode cL_law 412 = .ok (.aload_n 0, 1) := by decide +kernel
theorem dL_law_413 : decode cL_law 413 = .ok (.iload 4, 2) := by decide +kernel
theorem dL_law_415 : decode cL_law 415 = .ok (.iconst 1, 1) := by decide +kernel
theorem dL_law_416 : decode cL_law 416 = .ok (.iadd, 1) := by decide +kernel
theorem dL_law_417 : decode cL_law 417 = .ok (.iaload, 1) := by decide +kernel
theorem dL_law_418 : decode cL_law 418 = .ok (.aload_n 0, 1) := by decide +kernel
theorem dL_law_419 : decode cL_law 419 = .ok (.iload 4, 2) := by decide +kernel
theorem dL_law_421 : decode cL_law 421 = .ok (.iconst 2, 1) := by decide +kernel
theorem dL_law_422 : decode cL_law 422 = .ok (.iadd, 1) := by decide +kernel
theorem dL_law_423 : decode cL_law 423 = .ok (.iaload, 1) := by decide +kernel
theorem dL_law_424 : decode cL_law 424 = .ok (.invokevirtual 55, 3) := by decide +kernel
theorem dL_law_427 : decode cL_law 427 = .ok (.if_icmp .eq 508, 3) := by decide +kernel
theorem dL_law_430 : decode cL_law 430 = .ok (.iconst 0, 1) := by decide +kernel
theorem dL_law_431 : decode cL_law 431 = .ok (.ireturn, 1) := by decide +kernel
theorem dL_law_432 : decode cL_law 432 = .ok (.aload_n 1, 1) := by decide +kernel
theorem dL_law_433 : decode cL_law 433 = .ok (.aload_n 0, 1) := by decide +kernel
theorem dL_law_434 : decode cL_law 434 = .ok (.iload 4, 2) := by decide +kernel
theorem dL_law_436 : decode cL_law 436 = .ok (.iconst 1, 1) := by decide +kernel
theorem dL_law_437 : decode cL_law 437 = .ok (.iadd, 1) := by decide +kernel
theorem dL_law_438 : decode cL_law 438 = .ok (.iaload, 1) := by decide +kernel
theorem dL_law_439 : decode cL_law 439 = .ok (.aload_n 0, 1) := by decide +kernel
theorem dL_law_440 : decode cL_law 440 = .ok (.iload 4, 2) := by decide +kernel
theorem dL_law_442 : decode cL_law 442 = .ok (.iconst 2, 1) := by decide +kernel
theorem dL_law_443 : decode cL_law 443 = .ok (.iadd, 1) := by decide +kernel
theorem dL_law_444 : decode cL_law 444 = .ok (.iaload, 1) := by decide +kernel
theorem dL_law_445 : decode cL_law 445 = .ok (.aload_n 0, 1) := by decide +kernel
theorem dL_law_446 : decode cL_law 446 = .ok (.iload 4, 2) := by decide +kernel
theorem dL_law_448 : decode cL_law 448 = .ok (.iconst 3, 1) := by decide +kernel
theorem dL_law_449 : decode cL_law 449 = .ok (.iadd, 1) := by decide +kernel
theorem dL_law_450 : decode cL_law 450 = .ok (.iaload, 1) := by decide +kernel
theorem dL_law_451 : decode cL_law 451 = .ok (.invokevirtual 56, 3) := by decide +kernel
theorem dL_law_454 : decode cL_law 454 = .ok (.aload_n 2, 1) := by decide +kernel
theorem dL_law_455 : decode cL_law 455 = .ok (.aload_n 0, 1) := by decide +kernel
theorem dL_law_456 : decode cL_law 456 = .ok (.iload 4, 2) := by decide +kernel
theorem dL_law_458 : decode cL_law 458 = .ok (.iconst 1, 1) := by decide +kernel
theorem dL_law_459 : decode cL_law 459 = .ok (.iadd, 1) := by decide +kernel
theorem dL_law_460 : decode cL_law 460 = .ok (.iaload, 1) := by decide +kernel
theorem dL_law_461 : decode cL_law 461 = .ok (.aload_n 0, 1) := by decide +kernel
theorem dL_law_462 : decode cL_law 462 = .ok (.iload 4, 2) := by decide +kernel
theorem dL_law_464 : decode cL_law 464 = .ok (.iconst 2, 1) := by decide +kernel
theorem dL_law_465 : decode cL_law 465 = .ok (.iadd, 1) := by decide +kernel
theorem dL_law_466 : decode cL_law 466 = .ok (.iaload, 1) := by decide +kernel
theorem dL_law_467 : decode cL_law 467 = .ok (.aload_n 0, 1) := by decide +kernel
theorem dL_law_468 : decode cL_law 468 = .ok (.iload 4, 2) := by decide +kernel
theorem dL_law_470 : decode cL_law 470 = .ok (.iconst 3, 1) := by decide +kernel
theorem dL_law_471 : decode cL_law 471 = .ok (.iadd, 1) := by decide +kernel
theorem dL_law_472 : decode cL_law 472 = .ok (.iaload, 1) := by decide +kernel
theorem dL_law_473 : decode cL_law 473 = .ok (.invokevirtual 60, 3) := by decide +kernel
theorem dL_law_476 : decode cL_law 476 = .ok (.if_icmp .eq 459, 3) := by decide +kernel
theorem dL_law_479 : decode cL_law 479 = .ok (.iconst 0, 1) := by decide +kernel
theorem dL_law_480 : decode cL_law 480 = .ok (.ireturn, 1) := by decide +kernel
theorem dL_law_481 : decode cL_law 481 = .ok (.aload_n 1, 1) := by decide +kernel
theorem dL_law_482 : decode cL_law 482 = .ok (.invokevirtual 61, 3) := by decide +kernel
theorem dL_law_485 : decode cL_law 485 = .ok (.aload_n 2, 1) := by decide +kernel
theorem dL_law_486 : decode cL_law 486 = .ok (.invokevirtual 64, 3) := by decide +kernel
theorem dL_law_489 : decode cL_law 489 = .ok (.if_icmp .eq 446, 3) := by decide +kernel
theorem dL_law_492 : decode cL_law 492 = .ok (.iconst 0, 1) := by decide +kernel
theorem dL_law_493 : decode cL_law 493 = .ok (.ireturn, 1) := by decide +kernel
theorem dL_law_494 : decode cL_law 494 = .ok (.aload_n 1, 1) := by decide +kernel
theorem dL_law_495 : decode cL_law 495 = .ok (.aload_n 0, 1) := by decide +kernel
theorem dL_law_496 : decode cL_law 496 = .ok (.iload 4, 2) := by decide +kernel
theorem dL_law_498 : decode cL_law 498 = .ok (.iconst 1, 1) := by decide +kernel
theorem dL_law_499 : decode cL_law 499 = .ok (.iadd, 1) := by decide +kernel
theorem dL_law_500 : decode cL_law 500 = .ok (.iaload, 1) := by decide +kernel
theorem dL_law_501 : decode cL_law 501 = .ok (.invokevirtual 65, 3) := by decide +kernel
theorem dL_law_504 : decode cL_law 504 = .ok (.aload_n 2, 1) := by decide +kernel
theorem dL_law_505 : decode cL_law 505 = .ok (.aload_n 0, 1) := by decide +kernel
theorem dL_law_506 : decode cL_law 506 = .ok (.iload 4, 2) := by decide +kernel
theorem dL_law_508 : decode cL_law 508 = .ok (.iconst 1, 1) := by decide +kernel
theorem dL_law_509 : decode cL_law 509 = .ok (.iadd, 1) := by decide +kernel
theorem dL_law_510 : decode cL_law 510 = .ok (.iaload, 1) := by decide +kernel
theorem dL_law_511 : decode cL_law 511 = .ok (.invokevirtual 68, 3) := by decide +kernel
theorem dL_law_514 : decode cL_law 514 = .ok (.if_icmp .eq 421, 3) := by decide +kernel
theorem dL_law_517 : decode cL_law 517 = .ok (.iconst 0, 1) := by decide +kernel
theorem dL_law_518 : decode cL_law 518 = .ok (.ireturn, 1) := by decide +kernel
theorem dL_law_519 : decode cL_law 519 = .ok (.aload_n 1, 1) := by decide +kernel
theorem dL_law_520 : decode cL_law 520 = .ok (.aload_n 0, 1) := by decide +kernel
theorem dL_law_521 : decode cL_law 521 = .ok (.iload 4, 2) := by decide +kernel
theorem dL_law_523 : decode cL_law 523 = .ok (.iconst 1, 1) := by decide +kernel
theorem dL_law_524 : decode cL_law 524 = .ok (.iadd, 1) := by decide +kernel
theorem dL_law_525 : decode cL_law 525 = .ok (.iaload, 1) := by decide +kernel
theorem dL_law_526 : decode cL_law 526 = .ok (.aload_n 0, 1) := by decide +kernel
theorem dL_law_527 : decode cL_law 527 = .ok (.iload 4, 2) := by decide +kernel
theorem dL_law_529 : decode cL_law 529 = .ok (.iconst 2, 1) := by decide +kernel
theorem dL_law_530 : decode cL_law 530 = .ok (.iadd, 1) := by decide +kernel
theorem dL_law_531 : decode cL_law 531 = .ok (.iaload, 1) := by decide +kernel
theorem dL_law_532 : decode cL_law 532 = .ok (.invokevirtual 69, 3) := by decide +kernel
theorem dL_law_535 : decode cL_law 535 = .ok (.aload_n 2, 1) := by decide +kernel
theorem dL_law_536 : decode cL_law 536 = .ok (.aload_n 0, 1) := by decide +kernel
theorem dL_law_537 : decode cL_law 537 = .ok (.iload 4, 2) := by decide +kernel
theorem dL_law_539 : decode cL_law 539 = .ok (.iconst 1, 1) := by decide +kernel
theorem dL_law_540 : decode cL_law 540 = .ok (.iadd, 1) := by decide +kernel
theorem dL_law_541 : decode cL_law 541 = .ok (.iaload, 1) := by decide +kernel
theorem dL_law_542 : decode cL_law 542 = .ok (.aload_n 0, 1) := by decide +kernel
theorem dL_law_543 : decode cL_law 543 = .ok (.iload 4, 2) := by decide +kernel
theorem dL_law_545 : decode cL_law 545 = .ok (.iconst 2, 1) := by decide +kernel
theorem dL_law_546 : decode cL_law 546 = .ok (.iadd, 1) := by decide +kernel
theorem dL_law_547 : decode cL_law 547 = .ok (.iaload, 1) := by decide +kernel
theorem dL_law_548 : decode cL_law 548 = .ok (.invokevirtual 72, 3) := by decide +kernel
theorem dL_law_551 : decode cL_law 551 = .ok (.if_icmp .eq 384, 3) := by decide +kernel
theorem dL_law_554 : decode cL_law 554 = .ok (.iconst 0, 1) := by decide +kernel
theorem dL_law_555 : decode cL_law 555 = .ok (.ireturn, 1) := by decide +kernel
theorem dL_law_556 : decode cL_law 556 = .ok (.aload_n 1, 1) := by decide +kernel
theorem dL_law_557 : decode cL_law 557 = .ok (.aload_n 0, 1) := by decide +kernel
theorem dL_law_558 : decode cL_law 558 = .ok (.iload 4, 2) := by decide +kernel
theorem dL_law_560 : decode cL_law 560 = .ok (.iconst 1, 1) := by decide +kernel
theorem dL_law_561 : decode cL_law 561 = .ok (.iadd, 1) := by decide +kernel
theorem dL_law_562 : decode cL_law 562 = .ok (.iaload, 1) := by decide +kernel
theorem dL_law_563 : decode cL_law 563 = .ok (.aload_n 0, 1) := by decide +kernel
theorem dL_law_564 : decode cL_law 564 = .ok (.iload 4, 2) := by decide +kernel
theorem dL_law_566 : decode cL_law 566 = .ok (.iconst 2, 1) := by decide +kernel
theorem dL_law_567 : decode cL_law 567 = .ok (.iadd, 1) := by decide +kernel
theorem dL_law_568 : decode cL_law 568 = .ok (.iaload, 1) := by decide +kernel
theorem dL_law_569 : decode cL_law 569 = .ok (.invokevirtual 73, 3) := by decide +kernel
theorem dL_law_572 : decode cL_law 572 = .ok (.aload_n 2, 1) := by decide +kernel
theorem dL_law_573 : decode cL_law 573 = .ok (.aload_n 0, 1) := by decide +kernel
theorem dL_law_574 : decode cL_law 574 = .ok (.iload 4, 2) := by decide +kernel
theorem dL_law_576 : decode cL_law 576 = .ok (.iconst 1, 1) := by decide +kernel
theorem dL_law_577 : decode cL_law 577 = .ok (.iadd, 1) := by decide +kernel
theorem dL_law_578 : decode cL_law 578 = .ok (.iaload, 1) := by decide +kernel
theorem dL_law_579 : decode cL_law 579 = .ok (.aload_n 0, 1) := by decide +kernel
theorem dL_law_580 : decode cL_law 580 = .ok (.iload 4, 2) := by decide +kernel
theorem dL_law_582 : decode cL_law 582 = .ok (.iconst 2, 1) := by decide +kernel
theorem dL_law_583 : decode cL_law 583 = .ok (.iadd, 1) := by decide +kernel
theorem dL_law_584 : decode cL_law 584 = .ok (.iaload, 1) := by decide +kernel
theorem dL_law_585 : decode cL_law 585 = .ok (.invokevirtual 76, 3) := by decide +kernel
theorem dL_law_588 : decode cL_law 588 = .ok (.if_icmp .eq 347, 3) := by decide +kernel
theorem dL_law_591 : decode cL_law 591 = .ok (.iconst 0, 1) := by decide +kernel
theorem dL_law_592 : decode cL_law 592 = .ok (.ireturn, 1) := by decide +kernel
theorem dL_law_593 : decode cL_law 593 = .ok (.aload_n 1, 1) := by decide +kernel
theorem dL_law_594 : decode cL_law 594 = .ok (.aload_n 0, 1) := by decide +kernel
theorem dL_law_595 : decode cL_law 595 = .ok (.iload 4, 2) := by decide +kernel
theorem dL_law_597 : decode cL_law 597 = .ok (.iconst 1, 1) := by decide +kernel
theorem dL_law_598 : decode cL_law 598 = .ok (.iadd, 1) := by decide +kernel
theorem dL_law_599 : decode cL_law 599 = .ok (.iaload, 1) := by decide +kernel
theorem dL_law_600 : decode cL_law 600 = .ok (.aload_n 0, 1) := by decide +kernel
theorem dL_law_601 : decode cL_law 601 = .ok (.iload 4, 2) := by decide +kernel
theorem dL_law_603 : decode cL_law 603 = .ok (.iconst 2, 1) := by decide +kernel
theorem dL_law_604 : decode cL_law 604 = .ok (.iadd, 1) := by decide +kernel
theorem dL_law_605 : decode cL_law 605 = .ok (.iaload, 1) := by decide +kernel
theorem dL_law_606 : decode cL_law 606 = .ok (.aload_n 0, 1) := by decide +kernel
theorem dL_law_607 : decode cL_law 607 = .ok (.iload 4, 2) := by decide +kernel
theorem dL_law_609 : decode cL_law 609 = .ok (.iconst 3, 1) := by decide +kernel
theorem dL_law_610 : decode cL_law 610 = .ok (.iadd, 1) := by decide +kernel
theorem dL_law_611 : decode cL_law 611 = .ok (.iaload, 1) := by decide +kernel
theorem dL_law_612 : decode cL_law 612 = .ok (.invokevirtual 77, 3) := by decide +kernel
theorem dL_law_615 : decode cL_law 615 = .ok (.aload_n 2, 1) := by decide +kernel
theorem dL_law_616 : decode cL_law 616 = .ok (.aload_n 0, 1) := by decide +kernel
theorem dL_law_617 : decode cL_law 617 = .ok (.iload 4, 2) := by decide +kernel
theorem dL_law_619 : decode cL_law 619 = .ok (.iconst 1, 1) := by decide +kernel
theorem dL_law_620 : decode cL_law 620 = .ok (.iadd, 1) := by decide +kernel
theorem dL_law_621 : decode cL_law 621 = .ok (.iaload, 1) := by decide +kernel
theorem dL_law_622 : decode cL_law 622 = .ok (.aload_n 0, 1) := by decide +kernel
theorem dL_law_623 : decode cL_law 623 = .ok (.iload 4, 2) := by decide +kernel
theorem dL_law_625 : decode cL_law 625 = .ok (.iconst 2, 1) := by decide +kernel
theorem dL_law_626 : decode cL_law 626 = .ok (.iadd, 1) := by decide +kernel
theorem dL_law_627 : decode cL_law 627 = .ok (.iaload, 1) := by decide +kernel
theorem dL_law_628 : decode cL_law 628 = .ok (.aload_n 0, 1) := by decide +kernel
theorem dL_law_629 : decode cL_law 629 = .ok (.iload 4, 2) := by decide +kernel
theorem dL_law_631 : decode cL_law 631 = .ok (.iconst 3, 1) := by decide +kernel
theorem dL_law_632 : decode cL_law 632 = .ok (.iadd, 1) := by decide +kernel
theorem dL_law_633 : decode cL_law 633 = .ok (.iaload, 1) := by decide +kernel
theorem dL_law_634 : decode cL_law 634 = .ok (.invokevirtual 81, 3) := by decide +kernel
theorem dL_law_637 : decode cL_law 637 = .ok (.lcmp, 1) := by decide +kernel
theorem dL_law_638 : decode cL_law 638 = .ok (.ifCond .eq 297, 3) := by decide +kernel
theorem dL_law_641 : decode cL_law 641 = .ok (.iconst 0, 1) := by decide +kernel
theorem dL_law_642 : decode cL_law 642 = .ok (.ireturn, 1) := by decide +kernel
theorem dL_law_643 : decode cL_law 643 = .ok (.aload_n 1, 1) := by decide +kernel
theorem dL_law_644 : decode cL_law 644 = .ok (.aload_n 0, 1) := by decide +kernel
theorem dL_law_645 : decode cL_law 645 = .ok (.iload 4, 2) := by decide +kernel
theorem dL_law_647 : decode cL_law 647 = .ok (.iconst 1, 1) := by decide +kernel
theorem dL_law_648 : decode cL_law 648 = .ok (.iadd, 1) := by decide +kernel
theorem dL_law_649 : decode cL_law 649 = .ok (.iaload, 1) := by decide +kernel
theorem dL_law_650 : decode cL_law 650 = .ok (.aload_n 0, 1) := by decide +kernel
theorem dL_law_651 : decode cL_law 651 = .ok (.iload 4, 2) := by decide +kernel
theorem dL_law_653 : decode cL_law 653 = .ok (.iconst 2, 1) := by decide +kernel
theorem dL_law_654 : decode cL_law 654 = .ok (.iadd, 1) := by decide +kernel
theorem dL_law_655 : decode cL_law 655 = .ok (.iaload, 1) := by decide +kernel
theorem dL_law_656 : decode cL_law 656 = .ok (.invokevirtual 82, 3) := by decide +kernel
theorem dL_law_659 : decode cL_law 659 = .ok (.aload_n 2, 1) := by decide +kernel
theorem dL_law_660 : decode cL_law 660 = .ok (.aload_n 0, 1) := by decide +kernel
theorem dL_law_661 : decode cL_law 661 = .ok (.iload 4, 2) := by decide +kernel
theorem dL_law_663 : decode cL_law 663 = .ok (.iconst 1, 1) := by decide +kernel
theorem dL_law_664 : decode cL_law 664 = .ok (.iadd, 1) := by decide +kernel
theorem dL_law_665 : decode cL_law 665 = .ok (.iaload, 1) := by decide +kernel
theorem dL_law_666 : decode cL_law 666 = .ok (.aload_n 0, 1) := by decide +kernel
theorem dL_law_667 : decode cL_law 667 = .ok (.iload 4, 2) := by decide +kernel
theorem dL_law_669 : decode cL_law 669 = .ok (.iconst 2, 1) := by decide +kernel
theorem dL_law_670 : decode cL_law 670 = .ok (.iadd, 1) := by decide +kernel
theorem dL_law_671 : decode cL_law 671 = .ok (.iaload, 1) := by decide +kernel
theorem dL_law_672 : decode cL_law 672 = .ok (.invokevirtual 85, 3) := by decide +kernel
theorem dL_law_675 : decode cL_law 675 = .ok (.if_icmp .eq 260, 3) := by decide +kernel
theorem dL_law_678 : decode cL_law 678 = .ok (.iconst 0, 1) := by decide +kernel
theorem dL_law_679 : decode cL_law 679 = .ok (.ireturn, 1) := by decide +kernel
theorem dL_law_680 : decode cL_law 680 = .ok (.aload_n 1, 1) := by decide +kernel
theorem dL_law_681 : decode cL_law 681 = .ok (.invokevirtual 86, 3) := by decide +kernel
theorem dL_law_684 : decode cL_law 684 = .ok (.aload_n 2, 1) := by decide +kernel
theorem dL_law_685 : decode cL_law 685 = .ok (.invokevirtual 89, 3) := by decide +kernel
theorem dL_law_688 : decode cL_law 688 = .ok (.if_icmp .eq 247, 3) := by decide +kernel
theorem dL_law_691 : decode cL_law 691 = .ok (.iconst 0, 1) := by decide +kernel
theorem dL_law_692 : decode cL_law 692 = .ok (.ireturn, 1) := by decide +kernel
theorem dL_law_693 : decode cL_law 693 = .ok (.aload_n 1, 1) := by decide +kernel
theorem dL_law_694 : decode cL_law 694 = .ok (.aload_n 0, 1) := by decide +kernel
theorem dL_law_695 : decode cL_law 695 = .ok (.iload 4, 2) := by decide +kernel
theorem dL_law_697 : decode cL_law 697 = .ok (.iconst 1, 1) := by decide +kernel
theorem dL_law_698 : decode cL_law 698 = .ok (.iadd, 1) := by decide +kernel
theorem dL_law_699 : decode cL_law 699 = .ok (.iaload, 1) := by decide +kernel
theorem dL_law_700 : decode cL_law 700 = .ok (.aload_n 0, 1) := by decide +kernel
theorem dL_law_701 : decode cL_law 701 = .ok (.iload 4, 2) := by decide +kernel
theorem dL_law_703 : decode cL_law 703 = .ok (.iconst 2, 1) := by decide +kernel
theorem dL_law_704 : decode cL_law 704 = .ok (.iadd, 1) := by decide +kernel
theorem dL_law_705 : decode cL_law 705 = .ok (.iaload, 1) := by decide +kernel
theorem dL_law_706 : decode cL_law 706 = .ok (.aload_n 3, 1) := by decide +kernel
theorem dL_law_707 : decode cL_law 707 = .ok (.invokestatic 90, 3) := by decide +kernel
theorem dL_law_710 : decode cL_law 710 = .ok (.istore 5, 2) := by decide +kernel
theorem dL_law_712 : decode cL_law 712 = .ok (.aload_n 2, 1) := by decide +kernel
theorem dL_law_713 : decode cL_law 713 = .ok (.aload_n 0, 1) := by decide +kernel
theorem dL_law_714 : decode cL_law 714 = .ok (.iload 4, 2) := by decide +kernel
theorem dL_law_716 : decode cL_law 716 = .ok (.iconst 1, 1) := by decide +kernel
theorem dL_law_717 : decode cL_law 717 = .ok (.iadd, 1) := by decide +kernel
theorem dL_law_718 : decode cL_law 718 = .ok (.iaload, 1) := by decide +kernel
theorem dL_law_719 : decode cL_law 719 = .ok (.aload_n 0, 1) := by decide +kernel
theorem dL_law_720 : decode cL_law 720 = .ok (.iload 4, 2) := by decide +kernel
theorem dL_law_722 : decode cL_law 722 = .ok (.iconst 2, 1) := by decide +kernel
theorem dL_law_723 : decode cL_law 723 = .ok (.iadd, 1) := by decide +kernel
theorem dL_law_724 : decode cL_law 724 = .ok (.iaload, 1) := by decide +kernel
theorem dL_law_725 : decode cL_law 725 = .ok (.invokevirtual 95, 3) := by decide +kernel
theorem dL_law_728 : decode cL_law 728 = .ok (.istore 6, 2) := by decide +kernel
theorem dL_law_730 : decode cL_law 730 = .ok (.aload_n 2, 1) := by decide +kernel
theorem dL_law_731 : decode cL_law 731 = .ok (.invokevirtual 96, 3) := by decide +kernel
theorem dL_law_734 : decode cL_law 734 = .ok (.iload 5, 2) := by decide +kernel
theorem dL_law_736 : decode cL_law 736 = .ok (.if_icmp .eq 5, 3) := by decide +kernel
theorem dL_law_739 : decode cL_law 739 = .ok (.iconst 0, 1) := by decide +kernel
theorem dL_law_740 : decode cL_law 740 = .ok (.ireturn, 1) := by decide +kernel
theorem dL_law_741 : decode cL_law 741 = .ok (.iload 5, 2) := by decide +kernel
theorem dL_law_743 : decode cL_law 743 = .ok (.ifCond .ne 15, 3) := by decide +kernel
theorem dL_law_746 : decode cL_law 746 = .ok (.aload_n 3, 1) := by decide +kernel
theorem dL_law_747 : decode cL_law 747 = .ok (.iconst 0, 1) := by decide +kernel
theorem dL_law_748 : decode cL_law 748 = .ok (.laload, 1) := by decide +kernel
theorem dL_law_749 : decode cL_law 749 = .ok (.iload 6, 2) := by decide +kernel
theorem dL_law_751 : decode cL_law 751 = .ok (.i2l, 1) := by decide +kernel
theorem dL_law_752 : decode cL_law 752 = .ok (.lcmp, 1) := by decide +kernel
theorem dL_law_753 : decode cL_law 753 = .ok (.ifCond .eq 5, 3) := by decide +kernel
theorem dL_law_756 : decode cL_law 756 = .ok (.iconst 0, 1) := by decide +kernel
theorem dL_law_757 : decode cL_law 757 = .ok (.ireturn, 1) := by decide +kernel
theorem dL_law_758 : decode cL_law 758 = .ok (.goto 177, 3) := by decide +kernel
theorem dL_law_761 : decode cL_law 761 = .ok (.aload_n 1, 1) := by decide +kernel
theorem dL_law_762 : decode cL_law 762 = .ok (.aload_n 0, 1) := by decide +kernel
theorem dL_law_763 : decode cL_law 763 = .ok (.iload 4, 2) := by decide +kernel
theorem dL_law_765 : decode cL_law 765 = .ok (.iconst 1, 1) := by decide +kernel
theorem dL_law_766 : decode cL_law 766 = .ok (.iadd, 1) := by decide +kernel
theorem dL_law_767 : decode cL_law 767 = .ok (.iaload, 1) := by decide +kernel
theorem dL_law_768 : decode cL_law 768 = .ok (.invokevirtual 99, 3) := by decide +kernel
theorem dL_law_771 : decode cL_law 771 = .ok (.aload_n 2, 1) := by decide +kernel
theorem dL_law_772 : decode cL_law 772 = .ok (.aload_n 0, 1) := by decide +kernel
theorem dL_law_773 : decode cL_law 773 = .ok (.iload 4, 2) := by decide +kernel
theorem dL_law_775 : decode cL_law 775 = .ok (.iconst 1, 1) := by decide +kernel
theorem dL_law_776 : decode cL_law 776 = .ok (.iadd, 1) := by decide +kernel
theorem dL_law_777 : decode cL_law 777 = .ok (.iaload, 1) := by decide +kernel
theorem dL_law_778 : decode cL_law 778 = .ok (.invokevirtual 102, 3) := by decide +kernel
theorem dL_law_781 : decode cL_law 781 = .ok (.if_icmp .eq 154, 3) := by decide +kernel
theorem dL_law_784 : decode cL_law 784 = .ok (.iconst 0, 1) := by decide +kernel
theorem dL_law_785 : decode cL_law 785 = .ok (.ireturn, 1) := by decide +kernel
theorem dL_law_786 : decode cL_law 786 = .ok (.aload_n 1, 1) := by decide +kernel
theorem dL_law_787 : decode cL_law 787 = .ok (.aload_n 0, 1) := by decide +kernel
theorem dL_law_788 : decode cL_law 788 = .ok (.iload 4, 2) := by decide +kernel
theorem dL_law_790 : decode cL_law 790 = .ok (.iconst 1, 1) := by decide +kernel
theorem dL_law_791 : decode cL_law 791 = .ok (.iadd, 1) := by decide +kernel
theorem dL_law_792 : decode cL_law 792 = .ok (.iaload, 1) := by decide +kernel
theorem dL_law_793 : decode cL_law 793 = .ok (.invokevirtual 103, 3) := by decide +kernel
theorem dL_law_796 : decode cL_law 796 = .ok (.aload_n 2, 1) := by decide +kernel
theorem dL_law_797 : decode cL_law 797 = .ok (.aload_n 0, 1) := by decide +kernel
theorem dL_law_798 : decode cL_law 798 = .ok (.iload 4, 2) := by decide +kernel
theorem dL_law_800 : decode cL_law 800 = .ok (.iconst 1, 1) := by decide +kernel
theorem dL_law_801 : decode cL_law 801 = .ok (.iadd, 1) := by decide +kernel
theorem dL_law_802 : decode cL_law 802 = .ok (.iaload, 1) := by decide +kernel
theorem dL_law_803 : decode cL_law 803 = .ok (.invokevirtual 106, 3) := by decide +kernel
theorem dL_law_806 : decode cL_law 806 = .ok (.if_icmp .eq 129, 3) := by decide +kernel
theorem dL_law_809 : decode cL_law 809 = .ok (.iconst 0, 1) := by decide +kernel
theorem dL_law_810 : decode cL_law 810 = .ok (.ireturn, 1) := by decide +kernel
theorem dL_law_811 : decode cL_law 811 = .ok (.aload_n 1, 1) := by decide +kernel
theorem dL_law_812 : decode cL_law 812 = .ok (.aload_n 0, 1) := by decide +kernel
theorem dL_law_813 : decode cL_law 813 = .ok (.iload 4, 2) := by decide +kernel
theorem dL_law_815 : decode cL_law 815 = .ok (.iconst 1, 1) := by decide +kernel
theorem dL_law_816 : decode cL_law 816 = .ok (.iadd, 1) := by decide +kernel
theorem dL_law_817 : decode cL_law 817 = .ok (.iaload, 1) := by decide +kernel
theorem dL_law_818 : decode cL_law 818 = .ok (.invokevirtual 107, 3) := by decide +kernel
theorem dL_law_821 : decode cL_law 821 = .ok (.aload_n 2, 1) := by decide +kernel
theorem dL_law_822 : decode cL_law 822 = .ok (.aload_n 0, 1) := by decide +kernel
theorem dL_law_823 : decode cL_law 823 = .ok (.iload 4, 2) := by decide +kernel
theorem dL_law_825 : decode cL_law 825 = .ok (.iconst 1, 1) := by decide +kernel
theorem dL_law_826 : decode cL_law 826 = .ok (.iadd, 1) := by decide +kernel
theorem dL_law_827 : decode cL_law 827 = .ok (.iaload, 1) := by decide +kernel
theorem dL_law_828 : decode cL_law 828 = .ok (.invokevirtual 110, 3) := by decide +kernel
theorem dL_law_831 : decode cL_law 831 = .ok (.if_icmp .eq 104, 3) := by decide +kernel
theorem dL_law_834 : decode cL_law 834 = .ok (.iconst 0, 1) := by decide +kernel
theorem dL_law_835 : decode cL_law 835 = .ok (.ireturn, 1) := by decide +kernel
theorem dL_law_836 : decode cL_law 836 = .ok (.aload_n 1, 1) := by decide +kernel
theorem dL_law_837 : decode cL_law 837 = .ok (.aload_n 0, 1) := by decide +kernel
theorem dL_law_838 : decode cL_law 838 = .ok (.iload 4, 2) := by decide +kernel
theorem dL_law_840 : decode cL_law 840 = .ok (.iconst 1, 1) := by decide +kernel
theorem dL_law_841 : decode cL_law 841 = .ok (.iadd, 1) := by decide +kernel
theorem dL_law_842 : decode cL_law 842 = .ok (.iaload, 1) := by decide +kernel
theorem dL_law_843 : decode cL_law 843 = .ok (.aload_n 0, 1) := by decide +kernel
theorem dL_law_844 : decode cL_law 844 = .ok (.iload 4, 2) := by decide +kernel
theorem dL_law_846 : decode cL_law 846 = .ok (.iconst 2, 1) := by decide +kernel
theorem dL_law_847 : decode cL_law 847 = .ok (.iadd, 1) := by decide +kernel
theorem dL_law_848 : decode cL_law 848 = .ok (.iaload, 1) := by decide +kernel
theorem dL_law_849 : decode cL_law 849 = .ok (.invokevirtual 111, 3) := by decide +kernel
theorem dL_law_852 : decode cL_law 852 = .ok (.aload_n 2, 1) := by decide +kernel
theorem dL_law_853 : decode cL_law 853 = .ok (.aload_n 0, 1) := by decide +kernel
theorem dL_law_854 : decode cL_law 854 = .ok (.iload 4, 2) := by decide +kernel
theorem dL_law_856 : decode cL_law 856 = .ok (.iconst 1, 1) := by decide +kernel
theorem dL_law_857 : decode cL_law 857 = .ok (.iadd, 1) := by decide +kernel
theorem dL_law_858 : decode cL_law 858 = .ok (.iaload, 1) := by decide +kernel
theorem dL_law_859 : decode cL_law 859 = .ok (.aload_n 0, 1) := by decide +kernel
theorem dL_law_860 : decode cL_law 860 = .ok (.iload 4, 2) := by decide +kernel
theorem dL_law_862 : decode cL_law 862 = .ok (.iconst 2, 1) := by decide +kernel
theorem dL_law_863 : decode cL_law 863 = .ok (.iadd, 1) := by decide +kernel
theorem dL_law_864 : decode cL_law 864 = .ok (.iaload, 1) := by decide +kernel
theorem dL_law_865 : decode cL_law 865 = .ok (.invokevirtual 114, 3) := by decide +kernel
theorem dL_law_868 : decode cL_law 868 = .ok (.if_icmp .eq 67, 3) := by decide +kernel
theorem dL_law_871 : decode cL_law 871 = .ok (.iconst 0, 1) := by decide +kernel
theorem dL_law_872 : decode cL_law 872 = .ok (.ireturn, 1) := by decide +kernel
theorem dL_law_873 : decode cL_law 873 = .ok (.aload_n 1, 1) := by decide +kernel
theorem dL_law_874 : decode cL_law 874 = .ok (.aload_n 0, 1) := by decide +kernel
theorem dL_law_875 : decode cL_law 875 = .ok (.iload 4, 2) := by decide +kernel
theorem dL_law_877 : decode cL_law 877 = .ok (.iconst 1, 1) := by decide +kernel
theorem dL_law_878 : decode cL_law 878 = .ok (.iadd, 1) := by decide +kernel
theorem dL_law_879 : decode cL_law 879 = .ok (.iaload, 1) := by decide +kernel
theorem dL_law_880 : decode cL_law 880 = .ok (.aload_n 0, 1) := by decide +kernel
theorem dL_law_881 : decode cL_law 881 = .ok (.iload 4, 2) := by decide +kernel
theorem dL_law_883 : decode cL_law 883 = .ok (.iconst 2, 1) := by decide +kernel
theorem dL_law_884 : decode cL_law 884 = .ok (.iadd, 1) := by decide +kernel
theorem dL_law_885 : decode cL_law 885 = .ok (.iaload, 1) := by decide +kernel
theorem dL_law_886 : decode cL_law 886 = .ok (.invokevirtual 115, 3) := by decide +kernel
theorem dL_law_889 : decode cL_law 889 = .ok (.aload_n 2, 1) := by decide +kernel
theorem dL_law_890 : decode cL_law 890 = .ok (.aload_n 0, 1) := by decide +kernel
theorem dL_law_891 : decode cL_law 891 = .ok (.iload 4, 2) := by decide +kernel
theorem dL_law_893 : decode cL_law 893 = .ok (.iconst 1, 1) := by decide +kernel
theorem dL_law_894 : decode cL_law 894 = .ok (.iadd, 1) := by decide +kernel
theorem dL_law_895 : decode cL_law 895 = .ok (.iaload, 1) := by decide +kernel
theorem dL_law_896 : decode cL_law 896 = .ok (.aload_n 0, 1) := by decide +kernel
theorem dL_law_897 : decode cL_law 897 = .ok (.iload 4, 2) := by decide +kernel
theorem dL_law_899 : decode cL_law 899 = .ok (.iconst 2, 1) := by decide +kernel
theorem dL_law_900 : decode cL_law 900 = .ok (.iadd, 1) := by decide +kernel
theorem dL_law_901 : decode cL_law 901 = .ok (.iaload, 1) := by decide +kernel
theorem dL_law_902 : decode cL_law 902 = .ok (.invokevirtual 118, 3) := by decide +kernel
theorem dL_law_905 : decode cL_law 905 = .ok (.if_icmp .eq 30, 3) := by decide +kernel
theorem dL_law_908 : decode cL_law 908 = .ok (.iconst 0, 1) := by decide +kernel
theorem dL_law_909 : decode cL_law 909 = .ok (.ireturn, 1) := by decide +kernel
theorem dL_law_910 : decode cL_law 910 = .ok (.aload_n 1, 1) := by decide +kernel
theorem dL_law_911 : decode cL_law 911 = .ok (.aload_n 0, 1) := by decide +kernel
theorem dL_law_912 : decode cL_law 912 = .ok (.iload 4, 2) := by decide +kernel
theorem dL_law_914 : decode cL_law 914 = .ok (.iconst 1, 1) := by decide +kernel
theorem dL_law_915 : decode cL_law 915 = .ok (.iadd, 1) := by decide +kernel
theorem dL_law_916 : decode cL_law 916 = .ok (.iaload, 1) := by decide +kernel
theorem dL_law_917 : decode cL_law 917 = .ok (.invokevirtual 119, 3) := by decide +kernel
theorem dL_law_920 : decode cL_law 920 = .ok (.aload_n 2, 1) := by decide +kernel
theorem dL_law_921 : decode cL_law 921 = .ok (.aload_n 0, 1) := by decide +kernel
theorem dL_law_922 : decode cL_law 922 = .ok (.iload 4, 2) := by decide +kernel
theorem dL_law_924 : decode cL_law 924 = .ok (.iconst 1, 1) := by decide +kernel
theorem dL_law_925 : decode cL_law 925 = .ok (.iadd, 1) := by decide +kernel
theorem dL_law_926 : decode cL_law 926 = .ok (.iaload, 1) := by decide +kernel
theorem dL_law_927 : decode cL_law 927 = .ok (.invokevirtual 122, 3) := by decide +kernel
theorem dL_law_930 : decode cL_law 930 = .ok (.if_icmp .eq 5, 3) := by decide +kernel
theorem dL_law_933 : decode cL_law 933 = .ok (.iconst 0, 1) := by decide +kernel
theorem dL_law_934 : decode cL_law 934 = .ok (.ireturn, 1) := by decide +kernel
theorem dL_law_935 : decode cL_law 935 = .ok (.iinc 4 6, 3) := by decide +kernel
theorem dL_law_938 : decode cL_law 938 = .ok (.goto (-915), 3) := by decide +kernel
theorem dL_law_941 : decode cL_law 941 = .ok (.iconst 1, 1) := by decide +kernel
theorem dL_law_942 : decode cL_law 942 = .ok (.ireturn, 1) := by decide +kernel
end
section
/-! THE LAYER V: a machine over an abstract heap. X: all that stays during one activation; h: the cells by their addresses; z: the heap's size; lv: the locals by their slots -/
abbrev Gd : Type := va_G × (Nat → ClassId)
abbrev AH : Type := Nat → Option va_E
def tysG (G : Gd) : List (ClassId × FieldType) := [(G.2 0, .int), (G.2 1, .long), (G.2 2, .boolean), (G.2 3, .object "PairSieve$NumberSet")]
def KK (G : Gd) (U : State) : Prop := va_K G.1 vwCl (tysG G) U ∧ va_AO "PairSieve$NumberSet" U ∧ (∀ w ∈ NNf, va_Nw w U) ∧ ∀ w ∈ NNm, va_Nw w U
abbrev oI (G : Gd) (n : Nat) (f : Nat → Int32) : va_E := .inl (G.2 0, n, .inl f)
abbrev oJ (G : Gd) (n : Nat) (f : Nat → Int64) : va_E := .inl (G.2 1, n, .inr (.inl f))
abbrev oZ (G : Gd) (n : Nat) (f : Nat → Int32) : va_E := .inl (G.2 2, n, .inl f)
abbrev oN (G : Gd) (n : Nat) (f : Nat → Option Nat) : va_E := .inl (G.2 3, n, .inr (.inr (.inr (.inr f))))
abbrev oO (ci : Nat) (fs : List Value) : va_E := .inr (ci, fs)
def hv (G : Gd) (z : Nat) (h : AH) (H : Heap) : Prop := H.size = z ∧ ∀ (q : Nat) (e : va_E), h q = some e → va_at G.1 vwCl (q, e) H
def dm (h : AH) (z : Nat) : Nat → Prop := fun q => (∃ e, h q = some e) ∨ z ≤ q
def hup (h : AH) (a : Nat) (e : va_E) : AH := fun q => if q = a then some e else h q
theorem hup_s {h : AH} {a : Nat} {e : va_E} : hup h a e a = some e := if_pos rfl
theorem hup_n {h : AH} {a q : Nat} {e : va_E} (hq : q ≠ a) : hup h a e q = h q := if_neg hq
theorem hup_hup {h : AH} {a : Nat} {e e' : va_E} : hup (hup h a e) a e' = hup h a e' := by
  funext q
  unfold hup
  by_cases hq : q = a <;> simp [hq]
theorem hv.set {G : Gd} {z : Nat} {h : AH} {H H1 : Heap} {a : Nat} {e : va_E} (hh : hv G z h H) (he : va_at G.1 vwCl (a, e) H1) (z1 : H1.size = H.size) (oq : ∀ q : Nat, q ≠ a → H1[q]? = H[q]?) : hv G z (hup h a e) H1 := by
  refine ⟨z1.trans hh.1, fun q e' h' => ?_⟩
  by_cases hq : q = a
  · subst hq
    rw [hup_s] at h'
    cases h'
    exact he
  · rw [hup_n hq] at h'
    exact (hh.2 q e' h').kept (oq q hq)
theorem hv.push {G : Gd} {z : Nat} {h : AH} {H H1 : Heap} {e : va_E} (hh : hv G z h H) (he : va_at G.1 vwCl (z, e) H1) (z1 : H1.size = z + 1) (oq : ∀ q : Nat, q < z → H1[q]? = H[q]?) : hv G (z + 1) (hup h z e) H1 := by
  refine ⟨z1, fun q e' h' => ?_⟩
  by_cases hq : q = z
  · subst hq
    rw [hup_s] at h'
    cases h'
    exact he
  · rw [hup_n hq] at h'
    have hl : q < H.size := (hh.2 q e' h').lt
    rw [hh.1] at hl
    exact (hh.2 q e' h').kept (oq q hl)
/-- the locals: slot by slot; none: nothing is known of it -/
def lvh (ls : Array Slot) (lv : List (Option Value)) : Prop := ls.size = lv.length ∧ lv_wf ls ∧ ∀ (i : Nat) (v : Value), lv[i]? = some (some v) → ls[i]? = some (.val v)
def lvA (lv : List (Option Value)) : List (Nat × Value) := (List.range lv.length).filterMap (fun i => (lv[i]?.join).map (fun v => (i, v)))
theorem lvA_mem {lv : List (Option Value)} {i : Nat} {v : Value} : (i, v) ∈ lvA lv ↔ lv[i]? = some (some v) := by
  unfold lvA
  rw [List.mem_filterMap]
  constructor
  · rintro ⟨j, -, hj⟩
    cases hx : lv[j]? with
    | none => rw [hx] at hj; simp at hj
    | some o =>
      rw [hx] at hj
      cases o with
      | none => simp at hj
      | some w =>
        simp at hj
        obtain ⟨rfl, rfl⟩ := hj
        exact hx
  · intro h
    have hl : i < lv.length := (List.getElem?_eq_some_iff.mp h).1
    exact ⟨i, List.mem_range.mpr hl, by rw [h]; rfl⟩
theorem lvh.has {ls : Array Slot} {lv : List (Option Value)} (h : lvh ls lv) : lv_has ls lv.length (lvA lv) := ⟨h.1, h.2.1, fun q hq => h.2.2 q.1 q.2 (lvA_mem.mp hq)⟩
/-- a value of one slot, or of two, is put at i -/
def lvP (lv : List (Option Value)) (i : Nat) (v : Value) : List (Option Value) :=
  (match i with
    | 0 => lv
    | j + 1 => match lv[j]? with
      | some (some (.long _)) => lv.set j none
      | some (some (.double _)) => lv.set j none
      | _ => lv).set i (some v)
def lvQ (lv : List (Option Value)) (i : Nat) (v : Value) : List (Option Value) := (lvP lv i v).set (i + 1) none
theorem lvP_len (lv : List (Option Value)) (i : Nat) (v : Value) : (lvP lv i v).length = lv.length := by
  unfold lvP
  rw [List.length_set]
  split
  · rfl
  · split <;> simp
theorem lvP_at {lv : List (Option Value)} {i j : Nat} {v w : Value} (h : (lvP lv i v)[j]? = some (some w)) : (j = i ∧ w = v) ∨ (j ≠ i ∧ lv[j]? = some (some w) ∧ ¬ (j + 1 = i ∧ w.category = 2)) := by
  unfold lvP at h
  by_cases hj : j = i
  · subst hj
    left
    rw [List.getElem?_set] at h
    simp at h
    exact ⟨rfl, h.2.symm⟩
  · right
    rw [List.getElem?_set_ne (Ne.symm hj)] at h
    refine ⟨hj, ?_⟩
    cases i with
    | zero => exact ⟨h, by omega⟩
    | succ k =>
      simp only at h
      by_cases hk : j = k
      · subst hk
        cases hx : lv[j]? with
        | none => rw [hx] at h; simp only at h; rw [hx] at h; cases h
        | some o =>
          rw [hx] at h
          cases o with
          | none => simp only at h; rw [hx] at h; simp at h
          | some u =>
            cases u <;> simp only at h
            all_goals first
              | (rw [hx] at h; simp at h; subst h; exact ⟨rfl, by simp [Value.category]⟩)
              | (rw [List.getElem?_set] at h; simp at h)
      · have hne : ¬ (j + 1 = k + 1 ∧ w.category = 2) := by omega
        split at h
        · rw [List.getElem?_set_ne (Ne.symm hk)] at h; exact ⟨h, hne⟩
        · rw [List.getElem?_set_ne (Ne.symm hk)] at h; exact ⟨h, hne⟩
        · exact ⟨h, hne⟩
theorem lvh.put1 {ls ls' : Array Slot} {lv : List (Option Value)} {i : Nat} {v : Value} (h : lv_has ls' lv.length ((i, v) :: (lvA lv).filter (fun q => !(q.1 == i) && !(q.1 + 1 == i && q.2.category == 2)))) : lvh ls' (lvP lv i v) := by
  refine ⟨h.1.trans (lvP_len _ _ _).symm, h.2.1, fun j w hj => ?_⟩
  rcases lvP_at hj with ⟨rfl, rfl⟩ | ⟨h1, h2, h3⟩
  · exact h.2.2 (j, w) List.mem_cons_self
  · refine h.2.2 (j, w) (List.mem_cons_of_mem _ (List.mem_filter.mpr ⟨lvA_mem.mpr h2, ?_⟩))
    simp only [Bool.and_eq_true, Bool.not_eq_true', beq_eq_false_iff_ne, ne_eq, Bool.and_eq_false_iff]
    refine ⟨h1, ?_⟩
    by_cases hq : j + 1 = i
    · exact Or.inr (fun z => h3 ⟨hq, z⟩)
    · exact Or.inl hq
theorem lvh.put2 {ls ls' : Array Slot} {lv : List (Option Value)} {i : Nat} {v : Value} (h : lv_has ls' lv.length ((i, v) :: (lvA lv).filter (fun q => !(q.1 == i) && (!(q.1 == i + 1) && !(q.1 + 1 == i && q.2.category == 2))))) : lvh ls' (lvQ lv i v) := by
  refine ⟨by unfold lvQ; rw [List.length_set, lvP_len]; exact h.1, h.2.1, fun j w hj => ?_⟩
  unfold lvQ at hj
  by_cases hji : j = i + 1
  · subst hji
    rw [List.getElem?_set] at hj
    simp at hj
  · rw [List.getElem?_set_ne (Ne.symm hji)] at hj
    rcases lvP_at hj with ⟨rfl, rfl⟩ | ⟨h1, h2, h3⟩
    · exact h.2.2 (j, w) List.mem_cons_self
    · refine h.2.2 (j, w) (List.mem_cons_of_mem _ (List.mem_filter.mpr ⟨lvA_mem.mpr h2, ?_⟩))
      simp only [Bool.and_eq_true, Bool.not_eq_true', beq_eq_false_iff_ne, ne_eq, Bool.and_eq_false_iff]
      refine ⟨h1, hji, ?_⟩
      by_cases hq : j + 1 = i
      · exact Or.inr (fun z => h3 ⟨hq, z⟩)
      · exact Or.inl hq
/-- fewer values are known -/
theorem lvh.sub {ls : Array Slot} {lv lv' : List (Option Value)} (h : lvh ls lv) (hl : lv'.length = lv.length) (hs : ∀ (i : Nat) (v : Value), lv'[i]? = some (some v) → lv[i]? = some (some v)) : lvh ls lv' := ⟨h.1.trans hl.symm, h.2.1, fun i v hi => h.2.2 i v (hs i v hi)⟩
/-- the locals at a method's entry -/
def lvE : List Value → List (Option Value)
  | [] => []
  | v :: vs => if v.category = 2 then some v :: none :: lvE vs else some v :: lvE vs
def lvN (vs : List Value) (n : Nat) : List (Option Value) := lvE vs ++ List.replicate (n - (lvE vs).length) none
theorem lvE_args : ∀ (vs : List Value) (k i : Nat) (v : Value), (lvE vs)[i]? = some (some v) → (k + i, v) ∈ lv_args k vs
  | [], k, i, v, h => by simp [lvE] at h
  | w :: ws, k, i, v, h => by
    unfold lvE at h
    unfold lv_args
    by_cases hc : w.category = 2
    · rw [if_pos hc] at h ⊢
      match i, h with
      | 0, h => simp at h; subst h; exact List.mem_cons_self
      | 1, h => simp at h
      | j + 2, h =>
        simp only [List.getElem?_cons_succ] at h
        have := lvE_args ws (k + 2) j v h
        rw [show k + (j + 2) = k + 2 + j by omega]
        exact List.mem_cons_of_mem _ this
    · rw [if_neg hc] at h ⊢
      match i, h with
      | 0, h => simp at h; subst h; exact List.mem_cons_self
      | j + 1, h =>
        simp only [List.getElem?_cons_succ] at h
        have := lvE_args ws (k + 1) j v h
        rw [show k + (j + 1) = k + 1 + j by omega]
        exact List.mem_cons_of_mem _ this
theorem lvE_len : ∀ vs : List Value, (lvE vs).length = (lg_sl vs).length
  | [] => rfl
  | w :: ws => by
    have ih := lvE_len ws
    unfold lg_sl at ih
    unfold lvE lg_sl
    rw [List.flatMap_cons]
    by_cases hc : w.category = 2
    · rw [if_pos hc, if_pos hc]; simp [ih]
    · rw [if_neg hc, if_neg hc]; simp [ih]
theorem lvh.entry (vs : List Value) {n : Nat} (h : (lg_sl vs).length ≤ n) : lvh ((lg_sl vs ++ List.replicate (n - (lg_sl vs).length) Slot.unset).toArray) (lvN vs n) := by
  have e := lv_entry vs h
  refine ⟨?_, e.2.1, fun i v hi => ?_⟩
  · rw [e.1]; unfold lvN; rw [List.length_append, List.length_replicate, lvE_len]; omega
  · unfold lvN at hi
    by_cases hl : i < (lvE vs).length
    · rw [List.getElem?_append_left hl] at hi
      have := lvE_args vs 0 i v hi
      rw [Nat.zero_add] at this
      exact e.2.2 (i, v) this
    · rw [List.getElem?_append_right (by omega)] at hi
      have := List.eq_of_mem_replicate (List.mem_of_getElem? hi)
      cases this
/-! what stays in one activation -/
abbrev CX : Type := Program × Launch × Env × Room × State × MethodId × Array Value × List Frame × Method × Code × Gd × (Nat → Prop) × Heap × (State → Prop)
abbrev CX.p (X : CX) : Program := X.1
abbrev CX.l (X : CX) : Launch := X.2.1
abbrev CX.e (X : CX) : Env := X.2.2.1
abbrev CX.R (X : CX) : Room := X.2.2.2.1
abbrev CX.s (X : CX) : State := X.2.2.2.2.1
abbrev CX.m (X : CX) : MethodId := X.2.2.2.2.2.1
abbrev CX.a (X : CX) : Array Value := X.2.2.2.2.2.2.1
abbrev CX.b (X : CX) : List Frame := X.2.2.2.2.2.2.2.1
abbrev CX.mt (X : CX) : Method := X.2.2.2.2.2.2.2.2.1
abbrev CX.c (X : CX) : Code := X.2.2.2.2.2.2.2.2.2.1
abbrev CX.G (X : CX) : Gd := X.2.2.2.2.2.2.2.2.2.2.1
abbrev CX.A (X : CX) : Nat → Prop := X.2.2.2.2.2.2.2.2.2.2.2.1
abbrev CX.H (X : CX) : Heap := X.2.2.2.2.2.2.2.2.2.2.2.2.1
abbrev CX.Q (X : CX) : State → Prop := X.2.2.2.2.2.2.2.2.2.2.2.2.2
/-- the activation is sound: cc its code, nL its locals, own its class; d frames, mc cells, ms slots of room -/
def okX (X : CX) (cc : ByteArray) (nL : Nat) (own : String) (d mc ms : Nat) : Prop :=
  X.p.tables.exec = Jvm.exec ∧ X.c.code = cc ∧ X.c.maxLocals = nL ∧ X.s.vm.findClass own = some X.m.cls ∧ (∀ w ∈ GG, w.before X.a X.s = true) ∧ KK X.G X.s ∧ (∀ q, X.H.size ≤ q → X.A q) ∧ (d ≤ X.R.frames ∧ 40 * d ≤ X.R.locals ∧ mc ≤ X.R.cells ∧ ms ≤ X.R.slots) ∧ X.mt.locks = false
abbrev XW (X : CX) (H : Heap) (locs : List Loc) (k n : Nat) (g : JFrame) : Prop := W X.p X.l X.e X.R X.s X.m X.a X.b X.mt X.c H locs k n X.Q g
/-- from here (heap h of size z, k cells and n slots made, at pc, locals lv, stack st) the activation comes to its end -/
def V (X : CX) (k n z : Nat) (h : AH) (pc : Nat) (lv : List (Option Value)) (st : List Value) : Prop :=
  (∀ (q : Nat) (e : va_E), h q = some e → X.A q) → ∀ (H : Heap) (locs : List Loc) (ls : Array Slot), hv X.G z h H → va_S X.A X.H H locs → lvh ls lv → XW X H locs k n (F0 X.m pc ls st)
section VR
variable {X : CX} {cc : ByteArray} {nL : Nat} {own : String} {d mc ms : Nat} {k n z : Nat} {h : AH} {pc pc' : Nat} {lv lv' : List (Option Value)} {st st' : List Value}
theorem V.s (hs : ∀ (H : Heap) (locs : List Loc) (ls : Array Slot), lvh ls lv → XW X H locs k n (F0 X.m pc' ls st') → XW X H locs k n (F0 X.m pc ls st)) (kk : V X k n z h pc' lv st') : V X k n z h pc lv st :=
  fun hA H locs ls a b c => hs H locs ls c (kk hA H locs ls a b c)
/-- fewer locals are known -/
theorem V.loc (hl : lv'.length = lv.length) (hs : ∀ (i : Nat) (v : Value), lv'[i]? = some (some v) → lv[i]? = some (some v)) (kk : V X k n z h pc lv' st) : V X k n z h pc lv st :=
  fun hA H locs ls a b c => kk hA H locs ls a b (c.sub hl hs)
theorem V.widen {k' n' : Nat} (h1 : k ≤ k') (h2 : n ≤ n') (kk : V X k' n' z h pc lv st) : V X k n z h pc lv st :=
  fun hA H locs ls a b c => W.widen h1 h2 (kk hA H locs ls a b c)
/-- a cell is forgotten, or the heap is known by another name -/
theorem V.heap {h' : AH} (hs : ∀ (q : Nat) (e : va_E), h' q = some e → h q = some e) (kk : V X k n z h' pc lv st) : V X k n z h pc lv st :=
  fun hA H locs ls a b c => kk (fun q e he => hA q e (hs q e he)) H locs ls ⟨a.1, fun q e he => a.2 q e (hs q e he)⟩ b c
theorem V_iconst (hX : okX X cc nL own d mc ms) {i : Int} {v : Int32} (hd : decode cc pc = .ok (.iconst i, 1)) (hv : Int32.ofInt i = v) (hp : pc + 1 = pc') (kk : V X k n z h pc' lv (.int v :: st)) : V X k n z h pc lv (st) := by
  subst hp
  exact V.s (fun H locs ls _ w => lv_iconst hX.1 hX.2.1 hd hv w) kk
theorem V_bipush (hX : okX X cc nL own d mc ms) {i : Int} {v : Int32} (hd : decode cc pc = .ok (.bipush i, 2)) (hv : (Int8.ofInt i).toInt32 = v) (hp : pc + 2 = pc') (kk : V X k n z h pc' lv (.int v :: st)) : V X k n z h pc lv (st) := by
  subst hp
  exact V.s (fun H locs ls _ w => lv_bipush hX.1 hX.2.1 hd hv w) kk
theorem V_sipush (hX : okX X cc nL own d mc ms) {i : Int} {v : Int32} (hd : decode cc pc = .ok (.sipush i, 3)) (hv : (Int16.ofInt i).toInt32 = v) (hp : pc + 3 = pc') (kk : V X k n z h pc' lv (.int v :: st)) : V X k n z h pc lv (st) := by
  subst hp
  exact V.s (fun H locs ls _ w => lv_sipush hX.1 hX.2.1 hd hv w) kk
theorem V_lconst (hX : okX X cc nL own d mc ms) {i : Fin 2} {v : Int64} (hd : decode cc pc = .ok (.lconst i, 1)) (hv : Int64.ofNat (i : Nat) = v) (hp : pc + 1 = pc') (kk : V X k n z h pc' lv (.long v :: st)) : V X k n z h pc lv (st) := by
  subst hp
  exact V.s (fun H locs ls _ w => lv_lconst hX.1 hX.2.1 hd hv w) kk
theorem V_ldc (hX : okX X cc nL own d mc ms) {i : Nat} {v : Int32} (hd : decode cc pc = .ok (.ldc i, 2)) (hw : Cond.constant own i v ∈ GG) (hp : pc + 2 = pc') (kk : V X k n z h pc' lv (.int v :: st)) : V X k n z h pc lv (st) := by
  subst hp
  exact V.s (fun H locs ls _ w => lv_ldc hX.1 hX.2.1 hX.2.2.2.1 (hX.2.2.2.2.1 _ hw) hd w) kk
theorem V_ldcw (hX : okX X cc nL own d mc ms) {i : Nat} {v : Int32} (hd : decode cc pc = .ok (.ldc_w i, 3)) (hw : Cond.constant own i v ∈ GG) (hp : pc + 3 = pc') (kk : V X k n z h pc' lv (.int v :: st)) : V X k n z h pc lv (st) := by
  subst hp
  exact V.s (fun H locs ls _ w => lv_ldcw hX.1 hX.2.1 hX.2.2.2.1 (hX.2.2.2.2.1 _ hw) hd w) kk
theorem V_ldc2 (hX : okX X cc nL own d mc ms) {i : Nat} {v : Int64} (hd : decode cc pc = .ok (.ldc2_w i, 3)) (hw : Cond.constantLong own i v ∈ GG) (hp : pc + 3 = pc') (kk : V X k n z h pc' lv (.long v :: st)) : V X k n z h pc lv (st) := by
  subst hp
  exact V.s (fun H locs ls _ w => lv_ldc2 hX.1 hX.2.1 hX.2.2.2.1 (hX.2.2.2.2.1 _ hw) hd w) kk
theorem V_null (hX : okX X cc nL own d mc ms)  (hd : decode cc pc = .ok (.aconst_null, 1)) (hp : pc + 1 = pc') (kk : V X k n z h pc' lv (.null :: st)) : V X k n z h pc lv (st) := by
  subst hp
  exact V.s (fun H locs ls _ w => lv_null hX.1 hX.2.1 hd w) kk
theorem V_iload_n (hX : okX X cc nL own d mc ms) {i : Fin 4} {x : Int32} (hd : decode cc pc = .ok (.iload_n i, 1)) (hl : lv[(i : Nat)]? = some (some (.int x))) (hp : pc + 1 = pc') (kk : V X k n z h pc' lv (.int x :: st)) : V X k n z h pc lv st := by
  subst hp
  exact V.s (fun H locs ls c w => lv_iload_n hX.1 hX.2.1 hd rfl (c.2.2 _ _ hl) w) kk
theorem V_iload (hX : okX X cc nL own d mc ms) {i : Nat} {x : Int32} (hd : decode cc pc = .ok (.iload i, 2)) (hl : lv[i]? = some (some (.int x))) (hp : pc + 2 = pc') (kk : V X k n z h pc' lv (.int x :: st)) : V X k n z h pc lv st := by
  subst hp
  exact V.s (fun H locs ls c w => lv_iload hX.1 hX.2.1 hd (c.2.2 _ _ hl) w) kk
theorem V_lload_n (hX : okX X cc nL own d mc ms) {i : Fin 4} {x : Int64} (hd : decode cc pc = .ok (.lload_n i, 1)) (hl : lv[(i : Nat)]? = some (some (.long x))) (hp : pc + 1 = pc') (kk : V X k n z h pc' lv (.long x :: st)) : V X k n z h pc lv st := by
  subst hp
  exact V.s (fun H locs ls c w => lv_lload_n hX.1 hX.2.1 hd rfl (c.2.2 _ _ hl) w) kk
theorem V_lload (hX : okX X cc nL own d mc ms) {i : Nat} {x : Int64} (hd : decode cc pc = .ok (.lload i, 2)) (hl : lv[i]? = some (some (.long x))) (hp : pc + 2 = pc') (kk : V X k n z h pc' lv (.long x :: st)) : V X k n z h pc lv st := by
  subst hp
  exact V.s (fun H locs ls c w => lv_lload hX.1 hX.2.1 hd (c.2.2 _ _ hl) w) kk
theorem V_aload_n (hX : okX X cc nL own d mc ms) {i : Fin 4} {x : Nat} (hd : decode cc pc = .ok (.aload_n i, 1)) (hl : lv[(i : Nat)]? = some (some (.ref x))) (hp : pc + 1 = pc') (kk : V X k n z h pc' lv (.ref x :: st)) : V X k n z h pc lv st := by
  subst hp
  exact V.s (fun H locs ls c w => lv_aload_n hX.1 hX.2.1 hd rfl (c.2.2 _ _ hl) w) kk
theorem V_aload (hX : okX X cc nL own d mc ms) {i : Nat} {x : Nat} (hd : decode cc pc = .ok (.aload i, 2)) (hl : lv[i]? = some (some (.ref x))) (hp : pc + 2 = pc') (kk : V X k n z h pc' lv (.ref x :: st)) : V X k n z h pc lv st := by
  subst hp
  exact V.s (fun H locs ls c w => lv_aload hX.1 hX.2.1 hd (c.2.2 _ _ hl) w) kk
theorem V_aload_nN (hX : okX X cc nL own d mc ms) {i : Fin 4} (hd : decode cc pc = .ok (.aload_n i, 1)) (hl : lv[(i : Nat)]? = some (some .null)) (hp : pc + 1 = pc') (kk : V X k n z h pc' lv (.null :: st)) : V X k n z h pc lv st := by
  subst hp
  exact V.s (fun H locs ls c w => lv_aload_nN hX.1 hX.2.1 hd rfl (c.2.2 _ _ hl) w) kk
theorem V_aloadN (hX : okX X cc nL own d mc ms) {i : Nat} (hd : decode cc pc = .ok (.aload i, 2)) (hl : lv[i]? = some (some .null)) (hp : pc + 2 = pc') (kk : V X k n z h pc' lv (.null :: st)) : V X k n z h pc lv st := by
  subst hp
  exact V.s (fun H locs ls c w => lv_aloadN hX.1 hX.2.1 hd (c.2.2 _ _ hl) w) kk
theorem V_istore_n (hX : okX X cc nL own d mc ms) {i : Fin 4} {x : Int32} (hd : decode cc pc = .ok (.istore_n i, 1)) (hi : (i : Nat) < lv.length) (hl : lvP lv (i : Nat) (.int x) = lv') (hp : pc + 1 = pc') (kk : V X k n z h pc' lv' st) : V X k n z h pc lv (.int x :: st) := by
  subst hp; subst hl
  exact fun hA H locs ls a b c => lv_istore_n hX.1 hX.2.1 hd rfl c.has hi rfl (fun ls' c' => kk hA H locs ls' a b (lvh.put1 (ls := ls) c'))
theorem V_istore (hX : okX X cc nL own d mc ms) {i : Nat} {x : Int32} (hd : decode cc pc = .ok (.istore i, 2)) (hi : i < lv.length) (hl : lvP lv i (.int x) = lv') (hp : pc + 2 = pc') (kk : V X k n z h pc' lv' st) : V X k n z h pc lv (.int x :: st) := by
  subst hp; subst hl
  exact fun hA H locs ls a b c => lv_istore hX.1 hX.2.1 hd c.has hi rfl (fun ls' c' => kk hA H locs ls' a b (lvh.put1 (ls := ls) c'))
theorem V_lstore_n (hX : okX X cc nL own d mc ms) {i : Fin 4} {x : Int64} (hd : decode cc pc = .ok (.lstore_n i, 1)) (hi : (i : Nat) + 1 < lv.length) (hl : lvQ lv (i : Nat) (.long x) = lv') (hp : pc + 1 = pc') (kk : V X k n z h pc' lv' st) : V X k n z h pc lv (.long x :: st) := by
  subst hp; subst hl
  exact fun hA H locs ls a b c => lv_lstore_n hX.1 hX.2.1 hd rfl c.has hi rfl (fun ls' c' => kk hA H locs ls' a b (lvh.put2 (ls := ls) c'))
theorem V_lstore (hX : okX X cc nL own d mc ms) {i : Nat} {x : Int64} (hd : decode cc pc = .ok (.lstore i, 2)) (hi : i + 1 < lv.length) (hl : lvQ lv i (.long x) = lv') (hp : pc + 2 = pc') (kk : V X k n z h pc' lv' st) : V X k n z h pc lv (.long x :: st) := by
  subst hp; subst hl
  exact fun hA H locs ls a b c => lv_lstore hX.1 hX.2.1 hd c.has hi rfl (fun ls' c' => kk hA H locs ls' a b (lvh.put2 (ls := ls) c'))
theorem V_astore_n (hX : okX X cc nL own d mc ms) {i : Fin 4} {x : Nat} (hd : decode cc pc = .ok (.astore_n i, 1)) (hi : (i : Nat) < lv.length) (hl : lvP lv (i : Nat) (.ref x) = lv') (hp : pc + 1 = pc') (kk : V X k n z h pc' lv' st) : V X k n z h pc lv (.ref x :: st) := by
  subst hp; subst hl
  exact fun hA H locs ls a b c => lv_astore_n hX.1 hX.2.1 hd rfl c.has hi rfl (fun ls' c' => kk hA H locs ls' a b (lvh.put1 (ls := ls) c'))
theorem V_astore (hX : okX X cc nL own d mc ms) {i : Nat} {x : Nat} (hd : decode cc pc = .ok (.astore i, 2)) (hi : i < lv.length) (hl : lvP lv i (.ref x) = lv') (hp : pc + 2 = pc') (kk : V X k n z h pc' lv' st) : V X k n z h pc lv (.ref x :: st) := by
  subst hp; subst hl
  exact fun hA H locs ls a b c => lv_astore hX.1 hX.2.1 hd c.has hi rfl (fun ls' c' => kk hA H locs ls' a b (lvh.put1 (ls := ls) c'))
theorem V_astore_nN (hX : okX X cc nL own d mc ms) {i : Fin 4}  (hd : decode cc pc = .ok (.astore_n i, 1)) (hi : (i : Nat) < lv.length) (hl : lvP lv (i : Nat) (.null) = lv') (hp : pc + 1 = pc') (kk : V X k n z h pc' lv' st) : V X k n z h pc lv (.null :: st) := by
  subst hp; subst hl
  exact fun hA H locs ls a b c => lv_astore_nN hX.1 hX.2.1 hd rfl c.has hi rfl (fun ls' c' => kk hA H locs ls' a b (lvh.put1 (ls := ls) c'))
theorem V_astoreN (hX : okX X cc nL own d mc ms) {i : Nat}  (hd : decode cc pc = .ok (.astore i, 2)) (hi : i < lv.length) (hl : lvP lv i (.null) = lv') (hp : pc + 2 = pc') (kk : V X k n z h pc' lv' st) : V X k n z h pc lv (.null :: st) := by
  subst hp; subst hl
  exact fun hA H locs ls a b c => lv_astoreN hX.1 hX.2.1 hd c.has hi rfl (fun ls' c' => kk hA H locs ls' a b (lvh.put1 (ls := ls) c'))
theorem V_iinc (hX : okX X cc nL own d mc ms) {i : Nat} {j : Int} {x v : Int32} (hd : decode cc pc = .ok (.iinc i j, 3)) (hx : lv[i]? = some (some (.int x))) (hv : x + Int32.ofInt j = v) (hl : lvP lv i (.int v) = lv') (hp : pc + 3 = pc') (kk : V X k n z h pc' lv' st) : V X k n z h pc lv st := by
  subst hp; subst hl
  intro hA H locs ls a b c
  have hm : (i, Value.int x) ∈ lvA lv := lvA_mem.mpr hx
  obtain ⟨q, hq⟩ := List.getElem?_of_mem hm
  exact lv_iinc hX.1 hX.2.1 hd c.has hq hv (List.getElem?_eq_some_iff.mp hx).1 rfl (fun ls' c' => kk hA H locs ls' a b (lvh.put1 (ls := ls) c'))
theorem V_iadd (hX : okX X cc nL own d mc ms) {x y : Int32} (hd : decode cc pc = .ok (.iadd, 1)) (hp : pc + 1 = pc') (kk : V X k n z h pc' lv (.int (x + y) :: st)) : V X k n z h pc lv (.int y :: .int x :: st) := by
  subst hp
  exact V.s (fun H locs ls _ w => lv_iadd hX.1 hX.2.1 hd w) kk
theorem V_isub (hX : okX X cc nL own d mc ms) {x y : Int32} (hd : decode cc pc = .ok (.isub, 1)) (hp : pc + 1 = pc') (kk : V X k n z h pc' lv (.int (x - y) :: st)) : V X k n z h pc lv (.int y :: .int x :: st) := by
  subst hp
  exact V.s (fun H locs ls _ w => lv_isub hX.1 hX.2.1 hd w) kk
theorem V_imul (hX : okX X cc nL own d mc ms) {x y : Int32} (hd : decode cc pc = .ok (.imul, 1)) (hp : pc + 1 = pc') (kk : V X k n z h pc' lv (.int (x * y) :: st)) : V X k n z h pc lv (.int y :: .int x :: st) := by
  subst hp
  exact V.s (fun H locs ls _ w => lv_imul hX.1 hX.2.1 hd w) kk
theorem V_iand (hX : okX X cc nL own d mc ms) {x y : Int32} (hd : decode cc pc = .ok (.iand, 1)) (hp : pc + 1 = pc') (kk : V X k n z h pc' lv (.int (x &&& y) :: st)) : V X k n z h pc lv (.int y :: .int x :: st) := by
  subst hp
  exact V.s (fun H locs ls _ w => lv_iand hX.1 hX.2.1 hd w) kk
theorem V_ior (hX : okX X cc nL own d mc ms) {x y : Int32} (hd : decode cc pc = .ok (.ior, 1)) (hp : pc + 1 = pc') (kk : V X k n z h pc' lv (.int (x ||| y) :: st)) : V X k n z h pc lv (.int y :: .int x :: st) := by
  subst hp
  exact V.s (fun H locs ls _ w => lv_ior hX.1 hX.2.1 hd w) kk
theorem V_ixor (hX : okX X cc nL own d mc ms) {x y : Int32} (hd : decode cc pc = .ok (.ixor, 1)) (hp : pc + 1 = pc') (kk : V X k n z h pc' lv (.int (x ^^^ y) :: st)) : V X k n z h pc lv (.int y :: .int x :: st) := by
  subst hp
  exact V.s (fun H locs ls _ w => lv_ixor hX.1 hX.2.1 hd w) kk
theorem V_ladd (hX : okX X cc nL own d mc ms) {x y : Int64} (hd : decode cc pc = .ok (.ladd, 1)) (hp : pc + 1 = pc') (kk : V X k n z h pc' lv (.long (x + y) :: st)) : V X k n z h pc lv (.long y :: .long x :: st) := by
  subst hp
  exact V.s (fun H locs ls _ w => lv_ladd hX.1 hX.2.1 hd w) kk
theorem V_lsub (hX : okX X cc nL own d mc ms) {x y : Int64} (hd : decode cc pc = .ok (.lsub, 1)) (hp : pc + 1 = pc') (kk : V X k n z h pc' lv (.long (x - y) :: st)) : V X k n z h pc lv (.long y :: .long x :: st) := by
  subst hp
  exact V.s (fun H locs ls _ w => lv_lsub hX.1 hX.2.1 hd w) kk
theorem V_lmul (hX : okX X cc nL own d mc ms) {x y : Int64} (hd : decode cc pc = .ok (.lmul, 1)) (hp : pc + 1 = pc') (kk : V X k n z h pc' lv (.long (x * y) :: st)) : V X k n z h pc lv (.long y :: .long x :: st) := by
  subst hp
  exact V.s (fun H locs ls _ w => lv_lmul hX.1 hX.2.1 hd w) kk
theorem V_land (hX : okX X cc nL own d mc ms) {x y : Int64} (hd : decode cc pc = .ok (.land, 1)) (hp : pc + 1 = pc') (kk : V X k n z h pc' lv (.long (x &&& y) :: st)) : V X k n z h pc lv (.long y :: .long x :: st) := by
  subst hp
  exact V.s (fun H locs ls _ w => lv_land hX.1 hX.2.1 hd w) kk
theorem V_lor (hX : okX X cc nL own d mc ms) {x y : Int64} (hd : decode cc pc = .ok (.lor, 1)) (hp : pc + 1 = pc') (kk : V X k n z h pc' lv (.long (x ||| y) :: st)) : V X k n z h pc lv (.long y :: .long x :: st) := by
  subst hp
  exact V.s (fun H locs ls _ w => lv_lor hX.1 hX.2.1 hd w) kk
theorem V_lxor (hX : okX X cc nL own d mc ms) {x y : Int64} (hd : decode cc pc = .ok (.lxor, 1)) (hp : pc + 1 = pc') (kk : V X k n z h pc' lv (.long (x ^^^ y) :: st)) : V X k n z h pc lv (.long y :: .long x :: st) := by
  subst hp
  exact V.s (fun H locs ls _ w => lv_lxor hX.1 hX.2.1 hd w) kk
theorem V_irem (hX : okX X cc nL own d mc ms) {x y : Int32} (hd : decode cc pc = .ok (.irem, 1)) (hne : ¬ y = 0) (hp : pc + 1 = pc') (kk : V X k n z h pc' lv (.int (x - x / y * y) :: st)) : V X k n z h pc lv (.int y :: .int x :: st) := by
  subst hp
  exact V.s (fun H locs ls _ w => lv_irem hX.1 hX.2.1 hd hne w) kk
theorem V_ldiv (hX : okX X cc nL own d mc ms) {x y : Int64} (hd : decode cc pc = .ok (.ldiv, 1)) (hne : ¬ y = 0) (hp : pc + 1 = pc') (kk : V X k n z h pc' lv (.long (x / y) :: st)) : V X k n z h pc lv (.long y :: .long x :: st) := by
  subst hp
  exact V.s (fun H locs ls _ w => lv_ldiv hX.1 hX.2.1 hd hne w) kk
theorem V_lrem (hX : okX X cc nL own d mc ms) {x y : Int64} (hd : decode cc pc = .ok (.lrem, 1)) (hne : ¬ y = 0) (hp : pc + 1 = pc') (kk : V X k n z h pc' lv (.long (x - x / y * y) :: st)) : V X k n z h pc lv (.long y :: .long x :: st) := by
  subst hp
  exact V.s (fun H locs ls _ w => lv_lrem hX.1 hX.2.1 hd hne w) kk
theorem V_lneg (hX : okX X cc nL own d mc ms) {x : Int64} (hd : decode cc pc = .ok (.lneg, 1)) (hp : pc + 1 = pc') (kk : V X k n z h pc' lv (.long (-x) :: st)) : V X k n z h pc lv (.long x :: st) := by
  subst hp
  exact V.s (fun H locs ls _ w => lv_lneg hX.1 hX.2.1 hd w) kk
theorem V_ishl (hX : okX X cc nL own d mc ms) {x y : Int32} (hd : decode cc pc = .ok (.ishl, 1)) (hp : pc + 1 = pc') (kk : V X k n z h pc' lv (.int (x <<< (y &&& 31)) :: st)) : V X k n z h pc lv (.int y :: .int x :: st) := by
  subst hp
  exact V.s (fun H locs ls _ w => lv_ishl hX.1 hX.2.1 hd w) kk
theorem V_ishr (hX : okX X cc nL own d mc ms) {x y : Int32} (hd : decode cc pc = .ok (.ishr, 1)) (hp : pc + 1 = pc') (kk : V X k n z h pc' lv (.int (x >>> (y &&& 31)) :: st)) : V X k n z h pc lv (.int y :: .int x :: st) := by
  subst hp
  exact V.s (fun H locs ls _ w => lv_ishr hX.1 hX.2.1 hd w) kk
theorem V_iushr (hX : okX X cc nL own d mc ms) {x y : Int32} (hd : decode cc pc = .ok (.iushr, 1)) (hp : pc + 1 = pc') (kk : V X k n z h pc' lv (.int ((x.toUInt32 >>> (y.toUInt32 &&& Int32.toUInt32 31)).toInt32) :: st)) : V X k n z h pc lv (.int y :: .int x :: st) := by
  subst hp
  exact V.s (fun H locs ls _ w => lv_iushr hX.1 hX.2.1 hd rfl w) kk
theorem V_lushr (hX : okX X cc nL own d mc ms) {x : Int64} {y : Int32} (hd : decode cc pc = .ok (.lushr, 1)) (hp : pc + 1 = pc') (kk : V X k n z h pc' lv (.long ((x.toUInt64 >>> (y.toInt64.toUInt64 &&& Int64.toUInt64 63)).toInt64) :: st)) : V X k n z h pc lv (.int y :: .long x :: st) := by
  subst hp
  exact V.s (fun H locs ls _ w => lv_lushr hX.1 hX.2.1 hd rfl w) kk
theorem V_lshl (hX : okX X cc nL own d mc ms) {x : Int64} {y : Int32} (hd : decode cc pc = .ok (.lshl, 1)) (hp : pc + 1 = pc') (kk : V X k n z h pc' lv (.long (x <<< (y.toInt64 &&& 63)) :: st)) : V X k n z h pc lv (.int y :: .long x :: st) := by
  subst hp
  exact V.s (fun H locs ls _ w => lv_lshl hX.1 hX.2.1 hd rfl w) kk
theorem V_i2l (hX : okX X cc nL own d mc ms) {x : Int32} (hd : decode cc pc = .ok (.i2l, 1)) (hp : pc + 1 = pc') (kk : V X k n z h pc' lv (.long x.toInt64 :: st)) : V X k n z h pc lv (.int x :: st) := by
  subst hp
  exact V.s (fun H locs ls _ w => lv_i2l hX.1 hX.2.1 hd rfl w) kk
theorem V_l2i (hX : okX X cc nL own d mc ms) {x : Int64} (hd : decode cc pc = .ok (.l2i, 1)) (hp : pc + 1 = pc') (kk : V X k n z h pc' lv (.int x.toInt32 :: st)) : V X k n z h pc lv (.long x :: st) := by
  subst hp
  exact V.s (fun H locs ls _ w => lv_l2i hX.1 hX.2.1 hd rfl w) kk
theorem V_dup (hX : okX X cc nL own d mc ms) {va : Value} (hd : decode cc pc = .ok (.dup, 1)) (hc : va.category = 1) (hp : pc + 1 = pc') (kk : V X k n z h pc' lv (va :: va :: st)) : V X k n z h pc lv (va :: st) := by
  subst hp
  exact V.s (fun H locs ls _ w => lv_dup hX.1 hX.2.1 hd hc w) kk
theorem V_pop (hX : okX X cc nL own d mc ms) {va : Value} (hd : decode cc pc = .ok (.pop, 1)) (hc : va.category = 1) (hp : pc + 1 = pc') (kk : V X k n z h pc' lv (st)) : V X k n z h pc lv (va :: st) := by
  subst hp
  exact V.s (fun H locs ls _ w => lv_pop hX.1 hX.2.1 hd hc w) kk
theorem V_dup2_11 (hX : okX X cc nL own d mc ms) {va vb : Value} (hd : decode cc pc = .ok (.dup2, 1)) (hc : va.category = 1) (hc2 : vb.category = 1) (hp : pc + 1 = pc') (kk : V X k n z h pc' lv (va :: vb :: va :: vb :: st)) : V X k n z h pc lv (va :: vb :: st) := by
  subst hp
  exact V.s (fun H locs ls _ w => lv_dup2_11 hX.1 hX.2.1 hd hc hc2 w) kk
theorem V_dup2_2 (hX : okX X cc nL own d mc ms) {va : Value} (hd : decode cc pc = .ok (.dup2, 1)) (hc : va.category = 2) (hp : pc + 1 = pc') (kk : V X k n z h pc' lv (va :: va :: st)) : V X k n z h pc lv (va :: st) := by
  subst hp
  exact V.s (fun H locs ls _ w => lv_dup2_2 hX.1 hX.2.1 hd hc w) kk
theorem V_goto (hX : okX X cc nL own d mc ms) {off : Int} (hd : decode cc pc = .ok (.goto off, 3)) (ht : (pc : Int) + off = (pc' : Int)) (kk : V X k n z h pc' lv st) : V X k n z h pc lv st := V.s (fun H locs ls _ w => lv_goto hX.1 hX.2.1 hd ht w) kk
/-- two ways on -/
theorem V.br {C : Prop} {pt pf : Nat} {st'' : List Value} (hs : ∀ (H : Heap) (locs : List Loc) (ls : Array Slot), (C → XW X H locs k n (F0 X.m pt ls st')) → (¬ C → XW X H locs k n (F0 X.m pf ls st'')) → XW X H locs k n (F0 X.m pc ls st)) (kt : C → V X k n z h pt lv st') (kf : ¬ C → V X k n z h pf lv st'') : V X k n z h pc lv st :=
  fun hA H locs ls a b c => hs H locs ls (fun q => kt q hA H locs ls a b c) (fun q => kf q hA H locs ls a b c)
theorem V_if_eq (hX : okX X cc nL own d mc ms) {x : Int32} {off : Int} {pt : Nat} (hd : decode cc pc = .ok (.ifCond .eq off, 3)) (ht : (pc : Int) + off = (pt : Int)) (hp : pc + 3 = pc') (kt : x = 0 → V X k n z h pt lv st) (kf : ¬ (x = 0) → V X k n z h pc' lv st) : V X k n z h pc lv (.int x :: st) := by
  subst hp
  exact V.br (fun H locs ls a b => lv_if_eq hX.1 hX.2.1 hd ht a b) kt kf
theorem V_icmp_eq (hX : okX X cc nL own d mc ms) {x y : Int32} {off : Int} {pt : Nat} (hd : decode cc pc = .ok (.if_icmp .eq off, 3)) (ht : (pc : Int) + off = (pt : Int)) (hp : pc + 3 = pc') (kt : x = y → V X k n z h pt lv st) (kf : ¬ (x = y) → V X k n z h pc' lv st) : V X k n z h pc lv (.int y :: .int x :: st) := by
  subst hp
  exact V.br (fun H locs ls a b => lv_icmp_eq hX.1 hX.2.1 hd ht a b) kt kf
theorem V_if_ne (hX : okX X cc nL own d mc ms) {x : Int32} {off : Int} {pt : Nat} (hd : decode cc pc = .ok (.ifCond .ne off, 3)) (ht : (pc : Int) + off = (pt : Int)) (hp : pc + 3 = pc') (kt : ¬ x = 0 → V X k n z h pt lv st) (kf : x = 0 → V X k n z h pc' lv st) : V X k n z h pc lv (.int x :: st) := by
  subst hp
  exact V.br (fun H locs ls a b => lv_if_ne hX.1 hX.2.1 hd ht b a) kf kt
theorem V_icmp_ne (hX : okX X cc nL own d mc ms) {x y : Int32} {off : Int} {pt : Nat} (hd : decode cc pc = .ok (.if_icmp .ne off, 3)) (ht : (pc : Int) + off = (pt : Int)) (hp : pc + 3 = pc') (kt : ¬ x = y → V X k n z h pt lv st) (kf : x = y → V X k n z h pc' lv st) : V X k n z h pc lv (.int y :: .int x :: st) := by
  subst hp
  exact V.br (fun H locs ls a b => lv_icmp_ne hX.1 hX.2.1 hd ht b a) kf kt
theorem V_if_lt (hX : okX X cc nL own d mc ms) {x : Int32} {off : Int} {pt : Nat} (hd : decode cc pc = .ok (.ifCond .lt off, 3)) (ht : (pc : Int) + off = (pt : Int)) (hp : pc + 3 = pc') (kt : x < 0 → V X k n z h pt lv st) (kf : ¬ (x < 0) → V X k n z h pc' lv st) : V X k n z h pc lv (.int x :: st) := by
  subst hp
  exact V.br (fun H locs ls a b => lv_if_lt hX.1 hX.2.1 hd ht a b) kt kf
theorem V_icmp_lt (hX : okX X cc nL own d mc ms) {x y : Int32} {off : Int} {pt : Nat} (hd : decode cc pc = .ok (.if_icmp .lt off, 3)) (ht : (pc : Int) + off = (pt : Int)) (hp : pc + 3 = pc') (kt : x < y → V X k n z h pt lv st) (kf : ¬ (x < y) → V X k n z h pc' lv st) : V X k n z h pc lv (.int y :: .int x :: st) := by
  subst hp
  exact V.br (fun H locs ls a b => lv_icmp_lt hX.1 hX.2.1 hd ht a b) kt kf
theorem V_if_ge (hX : okX X cc nL own d mc ms) {x : Int32} {off : Int} {pt : Nat} (hd : decode cc pc = .ok (.ifCond .ge off, 3)) (ht : (pc : Int) + off = (pt : Int)) (hp : pc + 3 = pc') (kt : 0 ≤ x → V X k n z h pt lv st) (kf : ¬ (0 ≤ x) → V X k n z h pc' lv st) : V X k n z h pc lv (.int x :: st) := by
  subst hp
  exact V.br (fun H locs ls a b => lv_if_ge hX.1 hX.2.1 hd ht a b) kt kf
theorem V_icmp_ge (hX : okX X cc nL own d mc ms) {x y : Int32} {off : Int} {pt : Nat} (hd : decode cc pc = .ok (.if_icmp .ge off, 3)) (ht : (pc : Int) + off = (pt : Int)) (hp : pc + 3 = pc') (kt : y ≤ x → V X k n z h pt lv st) (kf : ¬ (y ≤ x) → V X k n z h pc' lv st) : V X k n z h pc lv (.int y :: .int x :: st) := by
  subst hp
  exact V.br (fun H locs ls a b => lv_icmp_ge hX.1 hX.2.1 hd ht a b) kt kf
theorem V_if_gt (hX : okX X cc nL own d mc ms) {x : Int32} {off : Int} {pt : Nat} (hd : decode cc pc = .ok (.ifCond .gt off, 3)) (ht : (pc : Int) + off = (pt : Int)) (hp : pc + 3 = pc') (kt : 0 < x → V X k n z h pt lv st) (kf : ¬ (0 < x) → V X k n z h pc' lv st) : V X k n z h pc lv (.int x :: st) := by
  subst hp
  exact V.br (fun H locs ls a b => lv_if_gt hX.1 hX.2.1 hd ht a b) kt kf
theorem V_icmp_gt (hX : okX X cc nL own d mc ms) {x y : Int32} {off : Int} {pt : Nat} (hd : decode cc pc = .ok (.if_icmp .gt off, 3)) (ht : (pc : Int) + off = (pt : Int)) (hp : pc + 3 = pc') (kt : y < x → V X k n z h pt lv st) (kf : ¬ (y < x) → V X k n z h pc' lv st) : V X k n z h pc lv (.int y :: .int x :: st) := by
  subst hp
  exact V.br (fun H locs ls a b => lv_icmp_gt hX.1 hX.2.1 hd ht a b) kt kf
theorem V_if_le (hX : okX X cc nL own d mc ms) {x : Int32} {off : Int} {pt : Nat} (hd : decode cc pc = .ok (.ifCond .le off, 3)) (ht : (pc : Int) + off = (pt : Int)) (hp : pc + 3 = pc') (kt : x ≤ 0 → V X k n z h pt lv st) (kf : ¬ (x ≤ 0) → V X k n z h pc' lv st) : V X k n z h pc lv (.int x :: st) := by
  subst hp
  exact V.br (fun H locs ls a b => lv_if_le hX.1 hX.2.1 hd ht a b) kt kf
theorem V_icmp_le (hX : okX X cc nL own d mc ms) {x y : Int32} {off : Int} {pt : Nat} (hd : decode cc pc = .ok (.if_icmp .le off, 3)) (ht : (pc : Int) + off = (pt : Int)) (hp : pc + 3 = pc') (kt : x ≤ y → V X k n z h pt lv st) (kf : ¬ (x ≤ y) → V X k n z h pc' lv st) : V X k n z h pc lv (.int y :: .int x :: st) := by
  subst hp
  exact V.br (fun H locs ls a b => lv_icmp_le hX.1 hX.2.1 hd ht a b) kt kf
/-! comparing longs and going on by it -/
theorem lg_lt (x y : Int64) : lg_cmp x y < 0 ↔ x < y := by
  unfold lg_cmp
  split
  · rename_i h; simp only [Int64.lt_iff_toInt_lt] at *; constructor
    · intro q; exact absurd q (by decide)
    · intro q; omega
  · split
    · rename_i h1 h2; simp only [Int64.lt_iff_toInt_lt] at *; constructor
      · intro q; exact absurd q (by decide)
      · intro q; subst h2; omega
    · rename_i h1 h2; constructor
      · intro _; simp only [Int64.lt_iff_toInt_lt] at *; have : x.toInt ≠ y.toInt := fun q => h2 (Int64.toInt_inj.mp q); omega
      · intro _; decide
theorem lg_eq (x y : Int64) : lg_cmp x y = 0 ↔ x = y := by
  unfold lg_cmp
  split
  · rename_i h; constructor
    · intro q; exact absurd q (by decide)
    · intro q; subst q; exact absurd h (Int64.lt_irrefl)
  · split
    · rename_i h1 h2; exact ⟨fun _ => h2, fun _ => rfl⟩
    · rename_i h1 h2; exact ⟨fun q => absurd q (by decide), fun q => absurd q h2⟩
theorem lg_gt (x y : Int64) : 0 < lg_cmp x y ↔ y < x := by
  unfold lg_cmp
  split
  · rename_i h; exact ⟨fun _ => h, fun _ => by decide⟩
  · split
    · rename_i h1 h2; exact ⟨fun q => absurd q (by decide), fun q => absurd q h1⟩
    · rename_i h1 h2; exact ⟨fun q => absurd q (by decide), fun q => absurd q h1⟩
theorem lg_le (x y : Int64) : lg_cmp x y ≤ 0 ↔ x ≤ y := by
  have h := lg_gt x y
  rw [← Int32.not_lt, h, Int64.not_lt]
theorem lg_ge (x y : Int64) : 0 ≤ lg_cmp x y ↔ y ≤ x := by
  have h := lg_lt x y
  rw [← Int32.not_lt, h, Int64.not_lt]
theorem V_lcmp_eq (hX : okX X cc nL own d mc ms) {x y : Int64} {off : Int} {p1 pt : Nat} (hd : decode cc pc = .ok (.lcmp, 1)) (hp1 : pc + 1 = p1) (hd2 : decode cc p1 = .ok (.ifCond .eq off, 3)) (ht : (p1 : Int) + off = (pt : Int)) (hp : p1 + 3 = pc') (kt : x = y → V X k n z h pt lv st) (kf : ¬ (x = y) → V X k n z h pc' lv st) : V X k n z h pc lv (.long y :: .long x :: st) := by
  subst hp1; subst hp
  refine V.s (fun H locs ls _ w => W.lcmp hX.1 hX.2.1 hd w) ?_
  exact V.br (fun H locs ls a b => lv_if_eq hX.1 hX.2.1 hd2 ht a b) (fun q => kt ((lg_eq x y).mp q)) (fun q => kf (fun q2 => q ((lg_eq x y).mpr q2)))
theorem V_lcmp_ne (hX : okX X cc nL own d mc ms) {x y : Int64} {off : Int} {p1 pt : Nat} (hd : decode cc pc = .ok (.lcmp, 1)) (hp1 : pc + 1 = p1) (hd2 : decode cc p1 = .ok (.ifCond .ne off, 3)) (ht : (p1 : Int) + off = (pt : Int)) (hp : p1 + 3 = pc') (kt : ¬ x = y → V X k n z h pt lv st) (kf : x = y → V X k n z h pc' lv st) : V X k n z h pc lv (.long y :: .long x :: st) := by
  subst hp1; subst hp
  refine V.s (fun H locs ls _ w => W.lcmp hX.1 hX.2.1 hd w) ?_
  exact V.br (fun H locs ls a b => lv_if_ne hX.1 hX.2.1 hd2 ht b a) (fun q => kf ((lg_eq x y).mp q)) (fun q => kt (fun q2 => q ((lg_eq x y).mpr q2)))
theorem V_lcmp_lt (hX : okX X cc nL own d mc ms) {x y : Int64} {off : Int} {p1 pt : Nat} (hd : decode cc pc = .ok (.lcmp, 1)) (hp1 : pc + 1 = p1) (hd2 : decode cc p1 = .ok (.ifCond .lt off, 3)) (ht : (p1 : Int) + off = (pt : Int)) (hp : p1 + 3 = pc') (kt : x < y → V X k n z h pt lv st) (kf : ¬ (x < y) → V X k n z h pc' lv st) : V X k n z h pc lv (.long y :: .long x :: st) := by
  subst hp1; subst hp
  refine V.s (fun H locs ls _ w => W.lcmp hX.1 hX.2.1 hd w) ?_
  exact V.br (fun H locs ls a b => lv_if_lt hX.1 hX.2.1 hd2 ht a b) (fun q => kt ((lg_lt x y).mp q)) (fun q => kf (fun q2 => q ((lg_lt x y).mpr q2)))
theorem V_lcmp_ge (hX : okX X cc nL own d mc ms) {x y : Int64} {off : Int} {p1 pt : Nat} (hd : decode cc pc = .ok (.lcmp, 1)) (hp1 : pc + 1 = p1) (hd2 : decode cc p1 = .ok (.ifCond .ge off, 3)) (ht : (p1 : Int) + off = (pt : Int)) (hp : p1 + 3 = pc') (kt : y ≤ x → V X k n z h pt lv st) (kf : ¬ (y ≤ x) → V X k n z h pc' lv st) : V X k n z h pc lv (.long y :: .long x :: st) := by
  subst hp1; subst hp
  refine V.s (fun H locs ls _ w => W.lcmp hX.1 hX.2.1 hd w) ?_
  exact V.br (fun H locs ls a b => lv_if_ge hX.1 hX.2.1 hd2 ht a b) (fun q => kt ((lg_ge x y).mp q)) (fun q => kf (fun q2 => q ((lg_ge x y).mpr q2)))
theorem V_lcmp_gt (hX : okX X cc nL own d mc ms) {x y : Int64} {off : Int} {p1 pt : Nat} (hd : decode cc pc = .ok (.lcmp, 1)) (hp1 : pc + 1 = p1) (hd2 : decode cc p1 = .ok (.ifCond .gt off, 3)) (ht : (p1 : Int) + off = (pt : Int)) (hp : p1 + 3 = pc') (kt : y < x → V X k n z h pt lv st) (kf : ¬ (y < x) → V X k n z h pc' lv st) : V X k n z h pc lv (.long y :: .long x :: st) := by
  subst hp1; subst hp
  refine V.s (fun H locs ls _ w => W.lcmp hX.1 hX.2.1 hd w) ?_
  exact V.br (fun H locs ls a b => lv_if_gt hX.1 hX.2.1 hd2 ht a b) (fun q => kt ((lg_gt x y).mp q)) (fun q => kf (fun q2 => q ((lg_gt x y).mpr q2)))
theorem V_lcmp_le (hX : okX X cc nL own d mc ms) {x y : Int64} {off : Int} {p1 pt : Nat} (hd : decode cc pc = .ok (.lcmp, 1)) (hp1 : pc + 1 = p1) (hd2 : decode cc p1 = .ok (.ifCond .le off, 3)) (ht : (p1 : Int) + off = (pt : Int)) (hp : p1 + 3 = pc') (kt : x ≤ y → V X k n z h pt lv st) (kf : ¬ (x ≤ y) → V X k n z h pc' lv st) : V X k n z h pc lv (.long y :: .long x :: st) := by
  subst hp1; subst hp
  refine V.s (fun H locs ls _ w => W.lcmp hX.1 hX.2.1 hd w) ?_
  exact V.br (fun H locs ls a b => lv_if_le hX.1 hX.2.1 hd2 ht a b) (fun q => kt ((lg_le x y).mp q)) (fun q => kf (fun q2 => q ((lg_le x y).mpr q2)))
/-! references and null -/
theorem V_ifnull (hX : okX X cc nL own d mc ms) {x : Nat} {off : Int} (hd : decode cc pc = .ok (.ifnull off, 3)) (hp : pc + 3 = pc') (kk : V X k n z h pc' lv st) : V X k n z h pc lv (.ref x :: st) := by
  subst hp
  exact V.s (fun H locs ls _ w => lv_ifnull hX.1 hX.2.1 hd w) kk
theorem V_ifnullN (hX : okX X cc nL own d mc ms) {off : Int} (hd : decode cc pc = .ok (.ifnull off, 3)) (ht : (pc : Int) + off = (pc' : Int)) (kk : V X k n z h pc' lv st) : V X k n z h pc lv (.null :: st) := V.s (fun H locs ls _ w => lv_ifnullN hX.1 hX.2.1 hd ht w) kk
theorem V_ifnonnull (hX : okX X cc nL own d mc ms) {x : Nat} {off : Int} (hd : decode cc pc = .ok (.ifnonnull off, 3)) (ht : (pc : Int) + off = (pc' : Int)) (kk : V X k n z h pc' lv st) : V X k n z h pc lv (.ref x :: st) := V.s (fun H locs ls _ w => lv_ifnonnull hX.1 hX.2.1 hd ht w) kk
theorem V_ifnonnullN (hX : okX X cc nL own d mc ms) {off : Int} (hd : decode cc pc = .ok (.ifnonnull off, 3)) (hp : pc + 3 = pc') (kk : V X k n z h pc' lv st) : V X k n z h pc lv (.null :: st) := by
  subst hp
  exact V.s (fun H locs ls _ w => lv_ifnonnullN hX.1 hX.2.1 hd w) kk
theorem V_tableIn (hX : okX X cc nL own d mc ms) {dflt lo hi : Int} {offs : Array Int} {len : Nat} {x : Int32} {off : Int} (hd : decode cc pc = .ok (.tableswitch dflt lo hi offs, len)) (h1 : ¬ x.toInt < lo) (h2 : ¬ hi < x.toInt) (ho : offs[(x.toInt - lo).toNat]? = some off) (ht : (pc : Int) + off = (pc' : Int)) (kk : V X k n z h pc' lv st) : V X k n z h pc lv (.int x :: st) := V.s (fun H locs ls _ w => lv_tableIn hX.1 hX.2.1 hd h1 h2 ho ht w) kk
theorem V_tableOut (hX : okX X cc nL own d mc ms) {dflt lo hi : Int} {offs : Array Int} {len : Nat} {x : Int32} (hd : decode cc pc = .ok (.tableswitch dflt lo hi offs, len)) (h1 : x.toInt < lo ∨ hi < x.toInt) (ht : (pc : Int) + dflt = (pc' : Int)) (kk : V X k n z h pc' lv st) : V X k n z h pc lv (.int x :: st) := V.s (fun H locs ls _ w => lv_tableOut hX.1 hX.2.1 hd h1 ht w) kk
theorem V_lookup (hX : okX X cc nL own d mc ms) {dflt : Int} {ps : Array (Int × Int)} {len : Nat} {x : Int32} {off : Int} (hd : decode cc pc = .ok (.lookupswitch dflt ps, len)) (hq : (ps.toList.zip (ps.toList.drop 1)).all (fun (a, next) => a.1 < next.1) = true) (ho : Op.lookupswitch.offset ps.toList dflt x.toInt = off) (ht : (pc : Int) + off = (pc' : Int)) (kk : V X k n z h pc' lv st) : V X k n z h pc lv (.int x :: st) := V.s (fun H locs ls _ w => lv_lookup hX.1 hX.2.1 hd hq ho ht w) kk
/-! fields -/
theorem hv.one {G : Gd} {H : Heap} {a : Nat} {e : va_E} (hh : hv G z h H) (ha : h a = some e) : va_P G.1 vwCl [(a, e)] H := fun k q hq => by
  match k, hq with
  | 0, hq => cases hq; exact hh.2 a e ha
  | k + 1, hq => simp at hq
theorem V_get (hX : okX X cc nL own d mc ms) {a ci index N : Nat} {C : String} {T : u_T} {fs : List Value} {v : Value} (hd : decode cc pc = .ok (.getfield index, 3)) (he : h a = some (.inr (ci, fs))) (hc : vwCl[ci]? = some (C, T, N)) (hin : ∀ w ∈ u_ws C T N, w ∈ GG) (i : Nat) (hi : i < N) (hw : Cond.fieldLink own index (T i).1 (T i).2.1 (T i).2.2.1 ∈ GG) (hf : fs[i]? = some v) (hp : pc + 3 = pc') (kk : V X k n z h pc' lv (v :: st)) : V X k n z h pc lv (.ref a :: st) := by
  subst hp
  exact fun hA H locs ls x b c => va_get hX.1 hX.2.1 hX.2.2.2.2.1 hin hX.2.2.2.1 hX.2.2.2.2.2.1.1 (x.one he) 0 rfl hc i hi (hX.2.2.2.2.1 _ hw) (fun _ h9 => h9) hf hd (kk hA H locs ls x b c)
theorem V_getN (hX : okX X cc nL own d mc ms) {a ci index N : Nat} {C host : String} {T : u_T} {fs : List Value} {v : Value} (hd : decode cc pc = .ok (.getfield index, 3)) (he : h a = some (.inr (ci, fs))) (hc : vwCl[ci]? = some (C, T, N)) (hin : ∀ w ∈ u_ws C T N, w ∈ GG) (i : Nat) (hi : i < N) (hw : Cond.fieldLinkNest own index (T i).1 (T i).2.1 (T i).2.2.1 host ∈ NNf) (hf : fs[i]? = some v) (hp : pc + 3 = pc') (kk : V X k n z h pc' lv (v :: st)) : V X k n z h pc lv (.ref a :: st) := by
  subst hp
  exact fun hA H locs ls x b c => va_getN hX.1 hX.2.1 hX.2.2.2.2.1 hin hX.2.2.2.1 hX.2.2.2.2.2.1.1 (x.one he) 0 rfl hc i hi (va_Nw.use rfl (hX.2.2.2.2.2.1.2.2.1 _ hw)) (fun _ h9 => h9) hf hd (kk hA H locs ls x b c)
theorem V_put (hX : okX X cc nL own d mc ms) {a ci index N : Nat} {C : String} {T : u_T} {fs fs' : List Value} {v : Value} {ty0 : Nat → FieldType} (hd : decode cc pc = .ok (.putfield index, 3)) (he : h a = some (.inr (ci, fs))) (hc : vwCl[ci]? = some (C, T, N)) (hin : ∀ w ∈ u_ws C T N, w ∈ GG) (hty : ∀ k, k < N → parseFieldDescriptor (T k).2.2.1 = some (ty0 k)) (hnm : ∀ a, a < N → ∀ b, b < N → a ≠ b → (T a).2.1 ≠ (T b).2.1) (i : Nat) (hi : i < N) (hw : Cond.fieldLink own index (T i).1 (T i).2.1 (T i).2.2.1 ∈ GG) (hfin : (T i).2.2.2 = false) {ty : FieldType} (hdt : parseFieldDescriptor (T i).2.2.1 = some ty) (hn : narrow ty v = v) (hfit : fits ty v = true) (hl : i < fs.length) (hfs : fs.set i v = fs') (hp : pc + 3 = pc') (kk : V X k n z (hup h a (.inr (ci, fs'))) pc' lv st) : V X k n z h pc lv (v :: .ref a :: st) := by
  subst hp; subst hfs
  intro hA H locs ls x b c
  have hts := hX.2.2.2.2.1
  have hK := hX.2.2.2.2.2.1.1
  have hap := va_apart (own := own) hts hin ty0 hty hnm hK hc
  obtain ⟨r, h1, cell, q1, q2, q3, q4⟩ := x.2 a _ he
  have hr : r = (C, T, N) := Option.some.inj (h1.symm.trans hc)
  subst hr
  obtain ⟨hS, hfc, kC, hkC, hkind⟩ := hK.1 ci _ hc
  obtain ⟨cf, kf, fi, f, hif, hsl⟩ := hS i hi
  have hlay := hts _ (hin _ (u_in_lay hi))
  unfold u_lay at hlay
  rw [if_neg (by rw [hfin]; decide)] at hlay
  have hst := (u_facts hfc hkC (u_lays hts hin hi) hif).1
  have h6 := u_store hfc hkC hkind hlay hif hdt hn hfit
  refine W.putK hX.1 hX.2.1 (f := f) ⟨hX.2.2.2.1, hts _ hw, ⟨_, _, _, hif⟩, hst⟩ (by rw [q2]; exact h6) q1 q3 (by rw [hsl]; exact k2_hasslot (q4 i hi)) rfl rfl hd fun H' e1 e2 e3 => ?_
  rw [hsl] at e1 ⊢
  have haA : X.A a := hA a _ he
  refine kk (fun q e hq => ?_) H' _ ls (x.set ⟨_, hc, t_OB.to (V := updV (vp_V fs) i v) ⟨_, e1, q2, q3, t_set q4 hap hi v⟩ (fun j _ => vp_updV_set hl v j)⟩ e2 e3) (b.put e2 e3 haA) c
  by_cases hqa : q = a
  · rw [hqa]; exact haA
  · rw [hup_n hqa] at hq; exact hA q e hq
theorem V_putF (hX : okX X cc nL own d mc ms) {a ci index N : Nat} {C : String} {T : u_T} {fs fs' : List Value} {v : Value} {ty0 : Nat → FieldType} (hd : decode cc pc = .ok (.putfield index, 3)) (hini : X.mt.name = "<init>") (he : h a = some (.inr (ci, fs))) (hc : vwCl[ci]? = some (C, T, N)) (hin : ∀ w ∈ u_ws C T N, w ∈ GG) (hty : ∀ k, k < N → parseFieldDescriptor (T k).2.2.1 = some (ty0 k)) (hnm : ∀ a, a < N → ∀ b, b < N → a ≠ b → (T a).2.1 ≠ (T b).2.1) (i : Nat) (hi : i < N) (hw : Cond.fieldLink own index (T i).1 (T i).2.1 (T i).2.2.1 ∈ GG) (hfin : (T i).2.2.2 = true) (hdecl : (T i).1 = own) {ty : FieldType} (hdt : parseFieldDescriptor (T i).2.2.1 = some ty) (hn : narrow ty v = v) (hfit : fits ty v = true) (hl : i < fs.length) (hfs : fs.set i v = fs') (hp : pc + 3 = pc') (kk : V X k n z (hup h a (.inr (ci, fs'))) pc' lv st) : V X k n z h pc lv (v :: .ref a :: st) := by
  subst hp; subst hfs
  intro hA H locs ls x b c
  have hts := hX.2.2.2.2.1
  have hK := hX.2.2.2.2.2.1.1
  have hown := hX.2.2.2.1
  have hap := va_apart (own := own) hts hin ty0 hty hnm hK hc
  obtain ⟨r, h1, cell, q1, q2, q3, q4⟩ := x.2 a _ he
  have hr : r = (C, T, N) := Option.some.inj (h1.symm.trans hc)
  subst hr
  obtain ⟨hS, hfc, kC, hkC, hkind⟩ := hK.1 ci _ hc
  obtain ⟨cf, kf, fi, f, hif, hsl⟩ := hS i hi
  have hlay := hts _ (hin _ (u_in_lay hi))
  unfold u_lay at hlay
  rw [if_pos hfin] at hlay
  have hst := (u_facts hfc hkC (u_lays hts hin hi) hif).1
  have hcf : X.m.cls = cf := by
    obtain ⟨_, _, c', _, _, _, -, -, hf', -, -, -, hown2, -⟩ := Cond.laysFinal_spec hlay
    have e1 : c' = cf := by have := hif.symm.trans hf'; simp at this; exact this.1.symm
    rw [hdecl] at hown2
    rw [← e1]; exact Option.some.inj (hown.symm.trans hown2)
  have h6 := u_fits hfc hkC hkind (Or.inr hlay) hif hdt hn hfit
  refine W.putFinK hX.1 hX.2.1 hown (hts _ hw) hif hst hcf hini (by rw [q2]; exact h6) q1 q3 (by rw [hsl]; exact k2_hasslot (q4 i hi)) rfl rfl hd fun H' e1 e2 e3 => ?_
  rw [hsl] at e1 ⊢
  have haA : X.A a := hA a _ he
  refine kk (fun q e hq => ?_) H' _ ls (x.set ⟨_, hc, t_OB.to (V := updV (vp_V fs) i v) ⟨_, e1, q2, q3, t_set q4 hap hi v⟩ (fun j _ => vp_updV_set hl v j)⟩ e2 e3) (b.put e2 e3 haA) c
  by_cases hqa : q = a
  · rw [hqa]; exact haA
  · rw [hup_n hqa] at hq; exact hA q e hq
theorem V.upd {a : Nat} {e0 e : va_E} (he : h a = some e0) (hA : ∀ (q : Nat) (e : va_E), h q = some e → X.A q) : ∀ (q : Nat) (e1 : va_E), hup h a e q = some e1 → X.A q := by
  intro q e1 hq
  by_cases hqa : q = a
  · rw [hqa]; exact hA a _ he
  · rw [hup_n hqa] at hq; exact hA q e1 hq
/-! arrays -/
theorem okX.arr (hX : okX X cc nL own d mc ms) (j : Nat) {cA : ClassId} {ty : FieldType} (hj : (tysG X.G)[j]? = some (cA, ty)) : ArrOfT X.s cA ty ∧ va_RA X.s cA ty := hX.2.2.2.2.2.1.1.2 j _ hj
theorem V_alen (hX : okX X cc nL own d mc ms) {a : Nat} {cA : ClassId} {x : vp_A} {ty : FieldType} (j : Nat) (hj : (tysG X.G)[j]? = some (cA, ty)) (hd : decode cc pc = .ok (.arraylength, 1)) (ha : h a = some (.inl (cA, x))) {v : Int32} (hv : Int32.ofNat x.1 = v) (hp : pc + 1 = pc') (kk : V X k n z h pc' lv (.int v :: st)) : V X k n z h pc lv (.ref a :: st) := by
  subst hp
  exact fun hA H locs ls x b c => va_alen hX.1 hX.2.1 hX.2.2.2.2.2.1.1 (x.one ha) 0 j rfl hj hv hd (kk hA H locs ls x b c)
theorem V_iald (hX : okX X cc nL own d mc ms) {a N : Nat} {f : Nat → Int32} {i : Int32} (hd : decode cc pc = .ok (.iaload, 1)) (ha : h a = some (oI X.G N f)) (hi : vp_in i N) (hp : pc + 1 = pc') (kk : V X k n z h pc' lv (.int (f i.toNatClampNeg) :: st)) : V X k n z h pc lv (.int i :: .ref a :: st) := by
  subst hp
  exact fun hA H locs ls x b c => va_iald hX.1 hX.2.1 hX.2.2.2.2.2.1.1 (x.one ha) 0 0 rfl rfl hi hd (kk hA H locs ls x b c)
theorem V_zald (hX : okX X cc nL own d mc ms) {a N : Nat} {f : Nat → Int32} {i : Int32} (hd : decode cc pc = .ok (.baload, 1)) (ha : h a = some (oZ X.G N f)) (hi : vp_in i N) (hp : pc + 1 = pc') (kk : V X k n z h pc' lv (.int (f i.toNatClampNeg) :: st)) : V X k n z h pc lv (.int i :: .ref a :: st) := by
  subst hp
  exact fun hA H locs ls x b c => va_zald hX.1 hX.2.1 hX.2.2.2.2.2.1.1 (x.one ha) 0 2 rfl rfl hi hd (kk hA H locs ls x b c)
theorem V_lald (hX : okX X cc nL own d mc ms) {a N : Nat} {f : Nat → Int64} {i : Int32} (hd : decode cc pc = .ok (.laload, 1)) (ha : h a = some (oJ X.G N f)) (hi : vp_in i N) (hp : pc + 1 = pc') (kk : V X k n z h pc' lv (.long (f i.toNatClampNeg) :: st)) : V X k n z h pc lv (.int i :: .ref a :: st) := by
  subst hp
  exact fun hA H locs ls x b c => va_lald hX.1 hX.2.1 hX.2.2.2.2.2.1.1 (x.one ha) 0 1 rfl rfl hi hd (kk hA H locs ls x b c)
theorem V_aald (hX : okX X cc nL own d mc ms) {a N : Nat} {f : Nat → Option Nat} {i : Int32} (hd : decode cc pc = .ok (.aaload, 1)) (ha : h a = some (oN X.G N f)) (hi : vp_in i N) (hp : pc + 1 = pc') (kk : V X k n z h pc' lv (va_rf (f i.toNatClampNeg) :: st)) : V X k n z h pc lv (.int i :: .ref a :: st) := by
  subst hp
  exact fun hA H locs ls x b c => va_aldq hX.1 hX.2.1 hX.2.2.2.2.2.1.1 (x.one ha) 0 3 rfl rfl hi hd (kk hA H locs ls x b c)
theorem V_iast (hX : okX X cc nL own d mc ms) {a N : Nat} {f : Nat → Int32} {i v : Int32} (hd : decode cc pc = .ok (.iastore, 1)) (ha : h a = some (oI X.G N f)) (hi : vp_in i N) (hp : pc + 1 = pc') (kk : V X k n z (hup h a (oI X.G N (upd f i.toNatClampNeg v))) pc' lv st) : V X k n z h pc lv (.int v :: .int i :: .ref a :: st) := by
  subst hp
  intro hA H locs ls x b c
  have harr := (hX.arr 0 rfl).1
  refine W.iast hX.1 hX.2.1 (x.2 _ _ ha) (harr N (fun j => .int (f j))) (fun q => by cases q) (by show ¬ (i < 0 ∨ (arrV _ _ _).slots.size ≤ _); rw [arrV_size]; exact hi) rfl rfl hd fun H1 e z1 oq => ?_
  refine kk (V.upd ha hA) H1 _ ls (x.set ?_ z1 oq) (b.put z1 oq (hA _ _ ha)) c
  show H1[a]? = some (vp_cell _ _)
  rw [e]
  rw [vp_cell_i, vp_cell_i, arrV_store]
  congr 2
  funext q
  by_cases hq : q = i.toNatClampNeg
  · subst hq
    simp [updV, upd]
  · simp [updV, upd, hq]
theorem V_zast (hX : okX X cc nL own d mc ms) {a N : Nat} {f : Nat → Int32} {i v : Int32} (hd : decode cc pc = .ok (.bastore, 1)) (ha : h a = some (oZ X.G N f)) (hi : vp_in i N) (hnv : narrow .boolean (.int v) = .int v) (hp : pc + 1 = pc') (kk : V X k n z (hup h a (oZ X.G N (upd f i.toNatClampNeg v))) pc' lv st) : V X k n z h pc lv (.int v :: .int i :: .ref a :: st) := by
  subst hp
  intro hA H locs ls x b c
  have harr := (hX.arr 2 rfl).1
  refine W.zast hX.1 hX.2.1 (x.2 _ _ ha) (harr N (fun j => .int (f j))) (fun q => by cases q) (by show ¬ (i < 0 ∨ (arrV _ _ _).slots.size ≤ _); rw [arrV_size]; exact hi) rfl rfl hd fun H1 e z1 oq => ?_
  refine kk (V.upd ha hA) H1 _ ls (x.set ?_ z1 oq) (b.put z1 oq (hA _ _ ha)) c
  show H1[a]? = some (vp_cell _ _)
  rw [e, hnv]
  rw [vp_cell_i, vp_cell_i, arrV_store]
  congr 2
  funext q
  by_cases hq : q = i.toNatClampNeg
  · subst hq
    simp [updV, upd]
  · simp [updV, upd, hq]
theorem V_last (hX : okX X cc nL own d mc ms) {a N : Nat} {f : Nat → Int64} {i : Int32} {v : Int64} (hd : decode cc pc = .ok (.lastore, 1)) (ha : h a = some (oJ X.G N f)) (hi : vp_in i N) (hp : pc + 1 = pc') (kk : V X k n z (hup h a (oJ X.G N (vp_updL f i.toNatClampNeg v))) pc' lv st) : V X k n z h pc lv (.long v :: .int i :: .ref a :: st) := by
  subst hp
  intro hA H locs ls x b c
  have harr := (hX.arr 1 rfl).1
  refine W.last hX.1 hX.2.1 (x.2 _ _ ha) (harr N (fun j => .long (f j))) (fun q => by cases q) (by show ¬ (i < 0 ∨ (arrV _ _ _).slots.size ≤ _); rw [arrV_size]; exact hi) rfl rfl hd fun H1 e z1 oq => ?_
  refine kk (V.upd ha hA) H1 _ ls (x.set ?_ z1 oq) (b.put z1 oq (hA _ _ ha)) c
  show H1[a]? = some (vp_cell _ _)
  rw [e]
  rw [vp_cell_l, vp_cell_l, arrV_store]
  congr 2
  funext q
  by_cases hq : q = i.toNatClampNeg
  · subst hq
    simp [updV, vp_updL]
  · simp [updV, vp_updL, hq]
theorem V_aast (hX : okX X cc nL own d mc ms) {a N v : Nat} {f : Nat → Option Nat} {i : Int32} {vs : List Value} (hd : decode cc pc = .ok (.aastore, 1)) (ha : h a = some (oN X.G N f)) (hv : h v = some (.inr (3, vs))) (hi : vp_in i N) (hp : pc + 1 = pc') (kk : V X k n z (hup h a (oN X.G N (va_up f i.toNatClampNeg (some v)))) pc' lv st) : V X k n z h pc lv (.ref v :: .int i :: .ref a :: st) := by
  subst hp
  intro hA H locs ls x b c
  have hlt : i.toNatClampNeg < N := Nat.not_le.mp fun q => hi (Or.inr q)
  have h0 : ¬ i < 0 := fun q => hi (Or.inl q)
  obtain ⟨r', hr', cellV, g1, g2, g3, -⟩ := x.2 _ _ hv
  have hcls := (hX.2.2.2.2.2.1.1.1 3 (RX3, TX3, 4) rfl).2
  obtain ⟨kA, comp, k1, k2, k3, -⟩ := (hX.arr 3 rfl).2
  have hcomp : comp = X.G.1.1 3 := Option.some.inj (k3.symm.trans hcls.1)
  subst hcomp
  obtain ⟨kC, hkC, -⟩ := hcls.2
  refine W.aast hX.1 hX.2.1 (x.2 _ _ ha) (fun q h => by cases h) (fun h => by cases h) k1 k2 rfl hkC ⟨h0, by show _ < (arrV _ _ _).slots.size; rw [arrV_size]; exact hlt⟩ g1 (fun q h => by rw [g3] at h; cases h) (by rw [g2]; exact hkC) (by rw [g2]; exact va_assign hcls) rfl rfl hd fun H1 e z1 oq => ?_
  refine kk (V.upd ha hA) H1 _ ls (x.set ?_ z1 oq) (b.put z1 oq (hA _ _ ha)) c
  show H1[a]? = some (vp_cell _ _)
  rw [e]
  rw [vp_cell_q, vp_cell_q, arrV_store]
  congr 2
  funext q
  by_cases hq : q = i.toNatClampNeg
  · subst hq
    simp [updV, va_up, va_rf]
  · simp [updV, va_up, hq]
theorem V_aastN (hX : okX X cc nL own d mc ms) {a N : Nat} {f : Nat → Option Nat} {i : Int32} (hd : decode cc pc = .ok (.aastore, 1)) (ha : h a = some (oN X.G N f)) (hi : vp_in i N) (hp : pc + 1 = pc') (kk : V X k n z (hup h a (oN X.G N (va_up f i.toNatClampNeg none))) pc' lv st) : V X k n z h pc lv (.null :: .int i :: .ref a :: st) := by
  subst hp
  intro hA H locs ls x b c
  have harr := (hX.arr 3 rfl).1
  refine va_WaastN (C := "PairSieve$NumberSet") hX.1 hX.2.1 (x.2 _ _ ha) (harr N (fun j => va_rf (f j))) (fun h => by cases h) (by show ¬ (i < 0 ∨ (arrV _ _ _).slots.size ≤ _); rw [arrV_size]; exact hi) rfl rfl hd fun H1 e z1 oq => ?_
  refine kk (V.upd ha hA) H1 _ ls (x.set ?_ z1 oq) (b.put z1 oq (hA _ _ ha)) c
  show H1[a]? = some (vp_cell _ _)
  rw [e]
  rw [vp_cell_q, vp_cell_q, arrV_store]
  congr 2
  funext q
  by_cases hq : q = i.toNatClampNeg
  · subst hq
    simp [updV, va_up, va_rf]
  · simp [updV, va_up, hq]
theorem V.born {e : va_E} (hz : X.A z) (hA : ∀ (q : Nat) (e : va_E), h q = some e → X.A q) : ∀ (q : Nat) (e1 : va_E), hup h z e q = some e1 → X.A q := by
  intro q e1 hq
  by_cases hqa : q = z
  · rw [hqa]; exact hz
  · rw [hup_n hqa] at hq; exact hA q e1 hq
theorem va_S.grow {A : Nat → Prop} {H0 H H1 : Heap} {locs : List Loc} {z : Nat} (b : va_S A H0 H locs) (hz : H.size = z) (z1 : H1.size = z + 1) (o1 : ∀ q : Nat, q < z → H1[q]? = H[q]?) : va_S A H0 H1 locs :=
  ⟨Nat.le_trans b.1 (by omega), fun q h1 h2 => (o1 q (by have := b.1; omega)).trans (b.2.1 q h1 h2), b.2.2⟩
theorem V_new (hX : okX X cc nL own d mc ms) {ci index N : Nat} {C : String} {T : u_T} {ty0 : Nat → FieldType} {fs : List Value} (hd : decode cc pc = .ok (.new index, 3)) (hc : vwCl[ci]? = some (C, T, N)) (hin : ∀ w ∈ u_ws C T N, w ∈ GG) (hty : ∀ k, k < N → parseFieldDescriptor (T k).2.2.1 = some (ty0 k)) (hw1 : Cond.classLink own index C ∈ GG) (hw2 : Cond.instantiable C N ∈ GG) (hw3 : Cond.initialized C ∈ GG) (hfs : ∀ j, j < N → defaultValue (ty0 j) = vp_V fs j) (hk : k + 1 ≤ mc) (hn : n + N ≤ ms) (hp : pc + 3 = pc') (kk : V X (k + 1) (n + N) (z + 1) (hup h z (.inr (ci, fs))) pc' lv (.ref z :: st)) : V X k n z h pc lv st := by
  subst hp
  intro hA H locs ls x b c
  have hts := hX.2.2.2.2.1
  have hK := hX.2.2.2.2.2.1.1
  obtain ⟨-, -, hmc, hms⟩ := hX.2.2.2.2.2.2.2.1
  have hKn := hK.1 ci _ hc
  refine W.newcK hX.1 hX.2.1 hX.2.2.2.1 (hts _ hw1) (hts _ hw2) (hts _ hw3) rfl hd (by omega) (by omega) hKn.2.1 x.1 fun H1 kC hkC e1 z1 o1 => ?_
  have hAz : X.A z := hX.2.2.2.2.2.2.1 z (by have := b.1; have := x.1; omega)
  exact kk (V.born hAz hA) H1 locs ls (x.push ⟨_, hc, (u_born ty0 hts hin hKn hkC e1 hty).to hfs⟩ z1 o1) (b.grow x.1 z1 o1) c
theorem V_newI (hX : okX X cc nL own d mc ms) {i : Int32} {N : Nat} (hd : decode cc pc = .ok (.newarray .int, 2)) (hw : Cond.arrayClass .int ∈ GG) (hi : ¬ i < 0) (hN : i.toNatClampNeg = N) (hsm : N ≤ 100000) (hk : k + 1 ≤ mc) (hn : n + N ≤ ms) (hp : pc + 2 = pc') (kk : V X (k + 1) (n + N) (z + 1) (hup h z (oI X.G N (fun _ => 0))) pc' lv (.ref z :: st)) : V X k n z h pc lv (.int i :: st) := by
  subst hp
  intro hA H locs ls x b c
  have hts := hX.2.2.2.2.1
  obtain ⟨-, -, hmc, hms⟩ := hX.2.2.2.2.2.2.2.1
  refine va_newaK (atype := .int) hX.1 hX.2.1 (hts _ hw) rfl hd rfl hi hN (by simp [newarray.typeOf, componentBytes]; omega) (by omega) (by omega) x.1 fun H1 cA e1 z1 o1 hAr hNm => ?_
  have hAz : X.A z := hX.2.2.2.2.2.2.1 z (by have := b.1; have := x.1; omega)
  have hcA : cA = X.G.2 0 := Option.some.inj (hNm.symm.trans (hX.arr 0 rfl).2)
  subst hcA
  exact kk (V.born hAz hA) H1 locs ls (x.push (by show H1[z]? = some (vp_cell _ _); rw [vp_cell_i]; exact e1) z1 o1) (b.grow x.1 z1 o1) c
theorem V_newJ (hX : okX X cc nL own d mc ms) {i : Int32} {N : Nat} (hd : decode cc pc = .ok (.newarray .long, 2)) (hw : Cond.arrayClass .long ∈ GG) (hi : ¬ i < 0) (hN : i.toNatClampNeg = N) (hsm : N ≤ 100000) (hk : k + 1 ≤ mc) (hn : n + N ≤ ms) (hp : pc + 2 = pc') (kk : V X (k + 1) (n + N) (z + 1) (hup h z (oJ X.G N (fun _ => 0))) pc' lv (.ref z :: st)) : V X k n z h pc lv (.int i :: st) := by
  subst hp
  intro hA H locs ls x b c
  have hts := hX.2.2.2.2.1
  obtain ⟨-, -, hmc, hms⟩ := hX.2.2.2.2.2.2.2.1
  refine va_newaK (atype := .long) hX.1 hX.2.1 (hts _ hw) rfl hd rfl hi hN (by simp [newarray.typeOf, componentBytes]; omega) (by omega) (by omega) x.1 fun H1 cA e1 z1 o1 hAr hNm => ?_
  have hAz : X.A z := hX.2.2.2.2.2.2.1 z (by have := b.1; have := x.1; omega)
  have hcA : cA = X.G.2 1 := Option.some.inj (hNm.symm.trans (hX.arr 1 rfl).2)
  subst hcA
  exact kk (V.born hAz hA) H1 locs ls (x.push (by show H1[z]? = some (vp_cell _ _); rw [vp_cell_l]; exact e1) z1 o1) (b.grow x.1 z1 o1) c
theorem V_newZ (hX : okX X cc nL own d mc ms) {i : Int32} {N : Nat} (hd : decode cc pc = .ok (.newarray .boolean, 2)) (hw : Cond.arrayClass .boolean ∈ GG) (hi : ¬ i < 0) (hN : i.toNatClampNeg = N) (hsm : N ≤ 100000) (hk : k + 1 ≤ mc) (hn : n + N ≤ ms) (hp : pc + 2 = pc') (kk : V X (k + 1) (n + N) (z + 1) (hup h z (oZ X.G N (fun _ => 0))) pc' lv (.ref z :: st)) : V X k n z h pc lv (.int i :: st) := by
  subst hp
  intro hA H locs ls x b c
  have hts := hX.2.2.2.2.1
  obtain ⟨-, -, hmc, hms⟩ := hX.2.2.2.2.2.2.2.1
  refine va_newaK (atype := .boolean) hX.1 hX.2.1 (hts _ hw) rfl hd rfl hi hN (by simp [newarray.typeOf, componentBytes]; omega) (by omega) (by omega) x.1 fun H1 cA e1 z1 o1 hAr hNm => ?_
  have hAz : X.A z := hX.2.2.2.2.2.2.1 z (by have := b.1; have := x.1; omega)
  have hcA : cA = X.G.2 2 := Option.some.inj (hNm.symm.trans (hX.arr 2 rfl).2)
  subst hcA
  exact kk (V.born hAz hA) H1 locs ls (x.push (by show H1[z]? = some (vp_cell _ _); rw [vp_cell_i]; exact e1) z1 o1) (b.grow x.1 z1 o1) c
theorem V_newN (hX : okX X cc nL own d mc ms) {i : Int32} {N index : Nat} (hd : decode cc pc = .ok (.anewarray index, 3)) (hw : Cond.classLink own index "PairSieve$NumberSet" ∈ GG) (hi : ¬ i < 0) (hN : i.toNatClampNeg = N) (hsm : N ≤ 100000) (hk : k + 1 ≤ mc) (hn : n + N ≤ ms) (hp : pc + 3 = pc') (kk : V X (k + 1) (n + N) (z + 1) (hup h z (oN X.G N (fun _ => none))) pc' lv (.ref z :: st)) : V X k n z h pc lv (.int i :: st) := by
  subst hp; subst hN
  intro hA H locs ls x b c
  have hts := hX.2.2.2.2.1
  obtain ⟨-, -, hmc, hms⟩ := hX.2.2.2.2.2.2.2.1
  refine W.anew hX.1 hX.2.1 hX.2.2.2.1 (hts _ hw) (va_AO.use hX.2.2.2.2.2.1.2.1) rfl hd rfl hi (by omega) (by omega) (by omega) fun cA kA comp f1 f2 f3 f4 => ?_
  obtain ⟨hz, -⟩ := id x
  generalize hH1 : H.push ({ cls := cA, slots := Array.replicate i.toNatClampNeg .null, vm := .none } : Cell) = H1
  have z1 : H1.size = z + 1 := by rw [← hH1, Array.size_push, hz]
  have e1 : H1[z]? = some (arrV cA i.toNatClampNeg (fun _ => .null)) := by rw [← hH1, ← hz, Array.getElem?_push_size, ← arrV_new]
  have o1 : ∀ q : Nat, q < z → H1[q]? = H[q]? := fun q hq => by rw [← hH1, Array.getElem?_push, if_neg (by omega)]
  have hAz : X.A z := hX.2.2.2.2.2.2.1 z (by have := b.1; omega)
  obtain ⟨kA2, comp2, g1, g2, g3, g4⟩ := (hX.arr 3 rfl).2
  have hcA : cA = X.G.2 3 := Option.some.inj (f1.symm.trans g4)
  subst hcA
  show XW X H1 locs (k + 1) (n + i.toNatClampNeg) (F0 X.m (pc + 3) ls (.ref H.size :: st))
  rw [hz]
  exact kk (V.born hAz hA) H1 locs ls (x.push (by show H1[z]? = some (vp_cell _ _); rw [vp_cell_q]; exact e1) z1 o1) (b.grow x.1 z1 o1) c
theorem V_objInit (hX : okX X cc nL own d mc ms) {a idx : Nat} (hd : decode cc pc = .ok (.invokespecial idx, 3)) (hw1 : Cond.methodLink own idx objectInit ∈ GG) (hw2 : Cond.instanceMethod objectInit ∈ GG) (hw3 : Cond.code objectInit ⟨#[0xb1]⟩ 1 none ∈ GG) (hdd : 1 ≤ d) (hl : lv.length = nL) (hs : st = []) (hp : pc + 3 = pc') (kk : V X k n z h pc' lv st) : V X k n z h pc lv (.ref a :: st) := by
  subst hp; subst hs
  intro hA H locs ls x b c
  obtain ⟨h1, h2, -, -⟩ := hX.2.2.2.2.2.2.2.1
  have hts := hX.2.2.2.2.1
  exact W.objInit hX.1 hX.2.1 hX.2.2.2.1 (hts _ hw1) (hts _ hw2) (hts _ hw3) rfl (by rw [hX.2.2.1, ← hl]; exact c.1) rfl hd (by omega) (by show 2 * 0 + 0 + 12 ≤ _; omega) (kk hA H locs ls x b c)
theorem V_min (hX : okX X cc nL own d mc ms) {idx : Nat} {x y : Int32} (hd : decode cc pc = .ok (.invokestatic idx, 3)) (hw1 : Cond.methodLink own idx Lib.Math.min.name ∈ GG) (hdd : 1 ≤ d) (hk : k ≤ mc) (hn : n ≤ ms) (hl : lv.length = nL) (hs : (st.map fun v => v.category).sum ≤ 8) (hp : pc + 3 = pc') (kk : V X k n z h pc' lv (.int (if y < x then y else x) :: st)) : V X k n z h pc lv (.int y :: .int x :: st) := by
  subst hp
  intro hA H locs ls u b c
  obtain ⟨h1, h2, h3, h4⟩ := hX.2.2.2.2.2.2.2.1
  have hts := hX.2.2.2.2.1
  exact va_mmin hX.1 hX.2.1 (by rw [hX.2.2.1, ← hl]; exact c.1.symm) hX.2.2.2.1 (hts _ hw1) (hts _ wS_J9_min_7cf53) (hts _ wN_J9) (hts _ wC_J9_min_7cf53) (by omega) (by omega) (by omega) (by omega) hd (kk hA H locs ls u b c)
theorem V_minL (hX : okX X cc nL own d mc ms) {idx : Nat} {x y : Int64} (hd : decode cc pc = .ok (.invokestatic idx, 3)) (hw1 : Cond.methodLink own idx Lib.MathLoose.min_long.x ∈ GG) (hdd : 1 ≤ d) (hk : k ≤ mc) (hn : n ≤ ms) (hl : lv.length = nL) (hs : (st.map fun v => v.category).sum ≤ 8) (hp : pc + 3 = pc') (kk : V X k n z h pc' lv (.long (if y < x then y else x) :: st)) : V X k n z h pc lv (.long y :: .long x :: st) := by
  subst hp
  intro hA H locs ls u b c
  obtain ⟨h1, h2, h3, h4⟩ := hX.2.2.2.2.2.2.2.1
  have hts := hX.2.2.2.2.1
  exact va_mmin_long hX.1 hX.2.1 (by rw [hX.2.2.1, ← hl]; exact c.1.symm) hX.2.2.2.1 (hts _ hw1) (hts _ wS_J9_min_f86c9) (hts _ wN_J9) (hts _ wC_J9_min_f86c9) (by omega) (by omega) (by omega) (by omega) hd (kk hA H locs ls u b c)
theorem va_S.copy {A : Nat → Prop} {H0 H H1 : Heap} {locs L : List Loc} {a : Nat} (b : va_S A H0 H locs) (z1 : H1.size = H.size) (oq : ∀ q : Nat, q ≠ a → H1[q]? = H[q]?) (ha : A a) (hL : ∀ q ∈ L, q.base = a) : va_S A H0 H1 (locs ++ L) := by
  refine ⟨by rw [z1]; exact b.1, fun q g1 g2 => ?_, fun q hq => ?_⟩
  · rw [oq q (fun e => g2 (by rw [e]; exact ha))]
    exact b.2.1 q g1 g2
  · rcases List.mem_append.mp hq with h | h
    · exact b.2.2 q h
    · rw [hL q h]; exact ha
/-- System.arraycopy over ints, its stretch within both -/
theorem V_copyI (hX : okX X cc nL own d mc ms) {a0 a1 n0 n1 idx : Nat} {f g : Nat → Int32} {sp dp m : Nat} (hd : decode cc pc = .ok (.invokestatic idx, 3)) (hw1 : Cond.methodLink own idx arraycopyName ∈ GG) (ha0 : h a0 = some (oI X.G n0 f)) (ha1 : h a1 = some (oI X.G n1 g)) (hb0 : n0 < 100000) (hb1 : n1 < 100000) (h4 : sp + m ≤ n0) (h5 : dp + m ≤ n1) (hdd : 1 ≤ d) (hl : lv.length = nL) (hs : (st.map fun v => v.category).sum ≤ 8) (hp : pc + 3 = pc') (kk : V X k n z (hup h a1 (oI X.G n1 (va_cpy f g sp dp m))) pc' lv st) : V X k n z h pc lv (.int (nI m) :: .int (nI dp) :: .ref a1 :: .int (nI sp) :: .ref a0 :: st) := by
  subst hp
  intro hA H locs ls x b c
  obtain ⟨r1, r2, -, -⟩ := hX.2.2.2.2.2.2.2.1
  have hts := hX.2.2.2.2.1
  have hsp : sp < 2 ^ 31 := by omega
  have hdp : dp < 2 ^ 31 := by omega
  have hm : m < 2 ^ 31 := by omega
  have hc0 : H[a0]? = some (vp_cell (X.G.2 0) (n0, .inl f)) := x.2 _ _ ha0
  have hc1 : H[a1]? = some (vp_cell (X.G.2 0) (n1, .inl g)) := x.2 _ _ ha1
  have harr := (hX.arr 0 rfl).1
  intro T hT Y
  obtain ⟨-, k0, hk0, cm0, hkk0⟩ := harr n0 (fun j => .int (f j))
  obtain ⟨-, k1, hk1, cm1, hkk1⟩ := harr n1 (fun j => .int (g j))
  obtain ⟨vm', Y', step⟩ := Y.arraycopy hX.1 hX.2.2.2.1 (hts _ hw1) (hts _ wV_arraycopy) (hts _ wS_arraycopy) (hts _ wN_J10) (src := a0) (dst := a1) (cs := vp_cell (X.G.2 0) (n0, .inl f)) (cd := vp_cell (X.G.2 0) (n1, .inl g)) (srcPos := nI sp) (destPos := nI dp) (n := nI m) (by rw [hT]; exact hc0) (by rw [hT]; exact hc1)
    (fun _ h => by cases h) (fun _ h => by cases h) (fun h => by cases h) (fun h => by cases h) hk0 hk1 hkk0 hkk1 (by simp [refKind]) (nI_pos hsp) (nI_pos hdp) (nI_pos hm)
    (by rw [nI_toInt hsp, nI_toInt hm]; show ¬ _ > ((arrV (X.G.2 0) n0 (fun j => .int (f j))).slots.size : Int); rw [arrV_size]; omega)
    (by rw [nI_toInt hdp, nI_toInt hm]; show ¬ _ > ((arrV (X.G.2 0) n1 (fun j => .int (g j))).slots.size : Int); rw [arrV_size]; omega)
    (fun vm₁ _ i hi => by
      rw [nI_clamp hm] at hi
      have e : (vp_cell (X.G.2 0) (n0, .inl f)).slots.getD ((nI sp).toNatClampNeg + i) .null = .int (f (sp + i)) := by
        show (arrV (X.G.2 0) n0 (fun j => .int (f j))).slots.getD _ _ = _
        rw [nI_clamp hsp, Array.getD_eq_getD_getElem?, arrV_read _ _ (by omega)]
        rfl
      refine ⟨?_, ?_⟩
      · rw [e]; rfl
      · rw [e]; exact trivial)
    (g := F0 X.m pc ls (.int (nI m) :: .int (nI dp) :: .ref a1 :: .int (nI sp) :: .ref a0 :: st)) rfl (by rw [hX.2.2.1, ← hl]; exact c.1) (rest := st) rfl (by rw [hX.2.1]; exact hd) (by omega) (by show 2 * 0 + _ + _ ≤ _; have : nativeFrameWords "java/lang/System" "arraycopy" 5 + 11 ≤ 32 := (by decide); omega)
  have e1 : copied (vp_cell (X.G.2 0) (n0, .inl f)) (vp_cell (X.G.2 0) (n1, .inl g)) (nI sp) (nI dp) (nI m) = vp_cell (X.G.2 0) (n1, .inl (va_cpy f g sp dp m)) := by
    have := va_copied (n1 := n1) (dp := (nI dp).toNatClampNeg) (fun z => Value.int z) (X.G.2 0) (X.G.2 0) f g (show (nI sp).toNatClampNeg + (nI m).toNatClampNeg ≤ n0 by rw [nI_clamp hsp, nI_clamp hm]; exact h4)
    rw [nI_clamp hsp, nI_clamp hdp, nI_clamp hm] at this
    unfold copied
    rw [nI_clamp hsp, nI_clamp hdp, nI_clamp hm]
    exact this
  rw [e1] at Y' step
  have hl1 : a1 < H.size := (Array.getElem?_eq_some_iff.mp hc1).1
  generalize hce : vp_cell (X.G.2 0) (n1, .inl (va_cpy f g sp dp m)) = ce at Y' step
  have hheap : ((T.setVm vm').setCell a1 ce).heap = H.setIfInBounds a1 ce := by rw [← hT]; rfl
  have oq : ∀ q : Nat, q ≠ a1 → (H.setIfInBounds a1 ce)[q]? = H[q]? := fun q hq => by simp [Array.getElem?_setIfInBounds, Ne.symm hq]
  obtain ⟨t, u1, u2⟩ := kk (V.upd ha1 hA) (H.setIfInBounds a1 ce) _ ls (x.set (by show (H.setIfInBounds a1 ce)[a1]? = some (vp_cell _ _); rw [hce]; simp [Array.getElem?_setIfInBounds, hl1]) (by simp) oq) (b.copy (by simp) oq (hA _ _ ha1) (fun q hq => by
    obtain ⟨w, -, hw⟩ := List.mem_map.mp hq
    rw [← hw])) c _ hheap Y'
  exact ⟨t, step t u1, u2⟩
/-- System.arraycopy over longs, its stretch within both -/
theorem V_copyJ (hX : okX X cc nL own d mc ms) {a0 a1 n0 n1 idx : Nat} {f g : Nat → Int64} {sp dp m : Nat} (hd : decode cc pc = .ok (.invokestatic idx, 3)) (hw1 : Cond.methodLink own idx arraycopyName ∈ GG) (ha0 : h a0 = some (oJ X.G n0 f)) (ha1 : h a1 = some (oJ X.G n1 g)) (hb0 : n0 < 100000) (hb1 : n1 < 100000) (h4 : sp + m ≤ n0) (h5 : dp + m ≤ n1) (hdd : 1 ≤ d) (hl : lv.length = nL) (hs : (st.map fun v => v.category).sum ≤ 8) (hp : pc + 3 = pc') (kk : V X k n z (hup h a1 (oJ X.G n1 (va_cpy f g sp dp m))) pc' lv st) : V X k n z h pc lv (.int (nI m) :: .int (nI dp) :: .ref a1 :: .int (nI sp) :: .ref a0 :: st) := by
  subst hp
  intro hA H locs ls x b c
  obtain ⟨r1, r2, -, -⟩ := hX.2.2.2.2.2.2.2.1
  have hts := hX.2.2.2.2.1
  have hsp : sp < 2 ^ 31 := by omega
  have hdp : dp < 2 ^ 31 := by omega
  have hm : m < 2 ^ 31 := by omega
  have hc0 : H[a0]? = some (vp_cell (X.G.2 1) (n0, .inr (.inl f))) := x.2 _ _ ha0
  have hc1 : H[a1]? = some (vp_cell (X.G.2 1) (n1, .inr (.inl g))) := x.2 _ _ ha1
  have harr := (hX.arr 1 rfl).1
  intro T hT Y
  obtain ⟨-, k0, hk0, cm0, hkk0⟩ := harr n0 (fun j => .long (f j))
  obtain ⟨-, k1, hk1, cm1, hkk1⟩ := harr n1 (fun j => .long (g j))
  obtain ⟨vm', Y', step⟩ := Y.arraycopy hX.1 hX.2.2.2.1 (hts _ hw1) (hts _ wV_arraycopy) (hts _ wS_arraycopy) (hts _ wN_J10) (src := a0) (dst := a1) (cs := vp_cell (X.G.2 1) (n0, .inr (.inl f))) (cd := vp_cell (X.G.2 1) (n1, .inr (.inl g))) (srcPos := nI sp) (destPos := nI dp) (n := nI m) (by rw [hT]; exact hc0) (by rw [hT]; exact hc1)
    (fun _ h => by cases h) (fun _ h => by cases h) (fun h => by cases h) (fun h => by cases h) hk0 hk1 hkk0 hkk1 (by simp [refKind]) (nI_pos hsp) (nI_pos hdp) (nI_pos hm)
    (by rw [nI_toInt hsp, nI_toInt hm]; show ¬ _ > ((arrV (X.G.2 1) n0 (fun j => .long (f j))).slots.size : Int); rw [arrV_size]; omega)
    (by rw [nI_toInt hdp, nI_toInt hm]; show ¬ _ > ((arrV (X.G.2 1) n1 (fun j => .long (g j))).slots.size : Int); rw [arrV_size]; omega)
    (fun vm₁ _ i hi => by
      rw [nI_clamp hm] at hi
      have e : (vp_cell (X.G.2 1) (n0, .inr (.inl f))).slots.getD ((nI sp).toNatClampNeg + i) .null = .long (f (sp + i)) := by
        show (arrV (X.G.2 1) n0 (fun j => .long (f j))).slots.getD _ _ = _
        rw [nI_clamp hsp, Array.getD_eq_getD_getElem?, arrV_read _ _ (by omega)]
        rfl
      refine ⟨?_, ?_⟩
      · rw [e]; rfl
      · rw [e]; exact trivial)
    (g := F0 X.m pc ls (.int (nI m) :: .int (nI dp) :: .ref a1 :: .int (nI sp) :: .ref a0 :: st)) rfl (by rw [hX.2.2.1, ← hl]; exact c.1) (rest := st) rfl (by rw [hX.2.1]; exact hd) (by omega) (by show 2 * 0 + _ + _ ≤ _; have : nativeFrameWords "java/lang/System" "arraycopy" 5 + 11 ≤ 32 := (by decide); omega)
  have e1 : copied (vp_cell (X.G.2 1) (n0, .inr (.inl f))) (vp_cell (X.G.2 1) (n1, .inr (.inl g))) (nI sp) (nI dp) (nI m) = vp_cell (X.G.2 1) (n1, .inr (.inl (va_cpy f g sp dp m))) := by
    have := va_copied (n1 := n1) (dp := (nI dp).toNatClampNeg) (fun z => Value.long z) (X.G.2 1) (X.G.2 1) f g (show (nI sp).toNatClampNeg + (nI m).toNatClampNeg ≤ n0 by rw [nI_clamp hsp, nI_clamp hm]; exact h4)
    rw [nI_clamp hsp, nI_clamp hdp, nI_clamp hm] at this
    unfold copied
    rw [nI_clamp hsp, nI_clamp hdp, nI_clamp hm]
    exact this
  rw [e1] at Y' step
  have hl1 : a1 < H.size := (Array.getElem?_eq_some_iff.mp hc1).1
  generalize hce : vp_cell (X.G.2 1) (n1, .inr (.inl (va_cpy f g sp dp m))) = ce at Y' step
  have hheap : ((T.setVm vm').setCell a1 ce).heap = H.setIfInBounds a1 ce := by rw [← hT]; rfl
  have oq : ∀ q : Nat, q ≠ a1 → (H.setIfInBounds a1 ce)[q]? = H[q]? := fun q hq => by simp [Array.getElem?_setIfInBounds, Ne.symm hq]
  obtain ⟨t, u1, u2⟩ := kk (V.upd ha1 hA) (H.setIfInBounds a1 ce) _ ls (x.set (by show (H.setIfInBounds a1 ce)[a1]? = some (vp_cell _ _); rw [hce]; simp [Array.getElem?_setIfInBounds, hl1]) (by simp) oq) (b.copy (by simp) oq (hA _ _ ha1) (fun q hq => by
    obtain ⟨w, -, hw⟩ := List.mem_map.mp hq
    rw [← hw])) c _ hheap Y'
  exact ⟨t, step t u1, u2⟩
end VR
/-! CONTRACTS: from the heap h of size z, with the arguments av: y returns; 'post' its answer, the new size, the new heap -/
def rmd (d mc ms : Nat) : Room := { frames := d, cells := mc, slots := ms, locals := 40 * d }
def QC (G : Gd) (z : Nat) (h : AH) (post : Option Value → Nat → AH → Prop) : Array Value → State → Outcome → State → Prop := fun _ st oc t =>
  (∃ (v : Option Value) (z' : Nat) (h' : AH), oc = .returned v ∧ post v z' h' ∧ hv G z' h' t.heap ∧ ∀ (q : Nat) (e : va_E), h' q = some e → dm h z q) ∧ va_F (dm h z) st t
def Ct (G : Gd) (y : MethodName) (cc : ByteArray) (mL : Nat) (ret : Option FieldType) (d mc ms : Nat) (av : List Value) (z : Nat) (h : AH) (post : Option Value → Nat → AH → Prop) : Prop :=
  ∀ l : Launch, Met l y (.code y cc mL ret :: GG) (rmd d mc ms) (va_Pc av (fun U => hv G z h U.heap ∧ KK G U)) (QC G z h post) mc ms (dm h z)
theorem KK.same {G : Gd} {u U : State} (hvm : u.vm = U.vm) (h : KK G u) : KK G U :=
  ⟨va_K.moved (by rw [hvm]; exact Vm.Alike.refl _) h.1, va_AO.moved (by rw [hvm]; exact Vm.Alike.refl _) h.2.1, fun w hw => va_Nw.same (NNf_on w hw) hvm (h.2.2.1 w hw), fun w hw => va_Nw.same (NNm_on w hw) hvm (h.2.2.2 w hw)⟩
theorem KK.warm {G : Gd} {s U : State} (hW : s.WarmedH U.vm) (h : KK G s) : KK G U :=
  ⟨va_K.moved hW.alike h.1, va_AO.moved hW.alike h.2.1, fun w hw => by
    have h1 := h.2.2.1 w hw
    obtain ⟨a, i, b, n, d, x, rfl⟩ := NNf_is w hw
    exact va_Nw.warmF hW h1, fun w hw => by
    have h1 := h.2.2.2 w hw
    obtain ⟨a, i, b, x, rfl⟩ := NNm_is w hw
    exact va_Nw.warmM hW h1⟩
/-- what the returns need: X ends as the contract's post has it -/
def reX (X : CX) (ret : Option FieldType) (mc ms : Nat) (z0 : Nat) (h0 : AH) (post : Option Value → Nat → AH → Prop) : Prop :=
  X.mt.sig.returnType = ret ∧ X.A = dm h0 z0 ∧ X.H = X.s.heap ∧ X.Q = MQ X.b (QC X.G z0 h0 post) X.a X.s mc ms (dm h0 z0)
theorem Ct.of {G : Gd} {y : MethodName} {cc : ByteArray} {mL : Nat} {ret : Option FieldType} {d mc ms : Nat} {av : List Value} {z : Nat} {h : AH} {post : Option Value → Nat → AH → Prop} {lv : List (Option Value)}
    (hy : plainName y.cls = true) (hlen : (lg_sl av).length ≤ mL) (hlv : lvN av mL = lv)
    (body : ∀ X : CX, X.G = G → okX X cc mL y.cls d mc ms → reX X ret mc ms z h post → X.mt.name = y.name → V X 0 0 z h 0 lv []) : Ct G y cc mL ret d mc ms av z h post := by
  intro l
  refine Met.ofW (cc := cc) (maxL := mL) (ret := ret) hy rfl ?_
  intro p e s m args below meth c s₁ B hml hv
  obtain ⟨rfl, hh, hK⟩ := hv
  have hts := atoms_spec (ws := Cond.code y cc mL ret :: GG) B.pre
  have hown : s.vm.findClass y.cls = some m.cls := findClass_of_methodNamed B.named
  have hnm := (name_of_methodNamed B.named B.method).1
  subst hlv
  have key := body (p, l, e, (headSpec (Cond.code y cc mL ret :: GG) (rmd d mc ms)).room, s, m, av.toArray, below, meth, c, G, dm h z, s.heap, MQ below (QC G z h post) av.toArray s mc ms (dm h z)) rfl
    ⟨B.exec, B.bytes, hml, hown, fun w hw => hts w (List.mem_cons_of_mem _ hw), hK, fun q hq => Or.inr (by rw [← hh.1]; exact hq), ⟨Nat.le_refl _, Nat.le_refl _, Nat.le_refl _, Nat.le_refl _⟩, B.notSynchronized⟩ ⟨B.returns, rfl, rfl, rfl⟩ hnm
  rw [lg_entry_eq]
  exact key (fun q e he => Or.inl ⟨e, he⟩) s.heap [] _ hh va_S.rf (lvh.entry av hlen)
section VE
variable {X : CX} {cc : ByteArray} {nL : Nat} {own : String} {d mc ms mc' ms' : Nat} {k n z z0 : Nat} {h h0 : AH} {pc pc' : Nat} {lv lv' : List (Option Value)} {st st' : List Value} {post : Option Value → Nat → AH → Prop}
theorem QC.mk {H : Heap} {locs : List Loc} {v : Option Value} {ret : Option FieldType} (hR : reX X ret mc' ms' z0 h0 post) (hA : ∀ (q : Nat) (e : va_E), h q = some e → X.A q) (hh : hv X.G z h H) (b : va_S X.A X.H H locs) (hq : post v z h) : ∀ t : State, t.heap = H → X.s.WarmedH t.vm → QC X.G z0 h0 post X.a X.s (.returned v) t := by
  intro t ht _
  obtain ⟨-, hA0, hH, -⟩ := hR
  rw [hA0] at hA b
  rw [hH] at b
  exact ⟨⟨v, z, h, rfl, hq, by rw [ht]; exact hh, hA⟩, b.F ht⟩
theorem V_iret (hX : okX X cc nL own d mc ms) (hR : reX X (some .int) k n z0 h0 post) {v : Int32} (hd : decode cc pc = .ok (.ireturn, 1)) (hq : post (some (.int v)) z h) : V X k n z h pc lv [.int v] := by
  intro hA H locs ls x b c
  show W _ _ _ _ _ _ _ _ _ _ _ _ _ _ X.Q _
  rw [hR.2.2.2]
  exact W.iret (v := v) hX.1 hX.2.1 hR.1 (QC.mk hR hA x b hq) (by rw [← hR.2.1]; exact b.2.2) hd hX.2.2.2.2.2.2.2.2
theorem V_zret (hX : okX X cc nL own d mc ms) (hR : reX X (some .boolean) k n z0 h0 post) {v : Int32} (hd : decode cc pc = .ok (.ireturn, 1)) (hn : narrow .boolean (.int v) = .int v) (hq : post (some (.int v)) z h) : V X k n z h pc lv [.int v] := by
  intro hA H locs ls x b c
  show W _ _ _ _ _ _ _ _ _ _ _ _ _ _ X.Q _
  rw [hR.2.2.2]
  exact W.zret (v := v) hX.1 hX.2.1 hR.1 hn (QC.mk hR hA x b hq) (by rw [← hR.2.1]; exact b.2.2) hd hX.2.2.2.2.2.2.2.2
theorem V_lret (hX : okX X cc nL own d mc ms) (hR : reX X (some .long) k n z0 h0 post) {v : Int64} (hd : decode cc pc = .ok (.lreturn, 1)) (hq : post (some (.long v)) z h) : V X k n z h pc lv [.long v] := by
  intro hA H locs ls x b c
  show W _ _ _ _ _ _ _ _ _ _ _ _ _ _ X.Q _
  rw [hR.2.2.2]
  exact W.lret (v := v) hX.1 hX.2.1 hR.1 (QC.mk hR hA x b hq) (by rw [← hR.2.1]; exact b.2.2) hd hX.2.2.2.2.2.2.2.2
theorem V_vret (hX : okX X cc nL own d mc ms) (hR : reX X none k n z0 h0 post) (hd : decode cc pc = .ok (.return_, 1)) (hq : post none z h) : V X k n z h pc lv [] := by
  intro hA H locs ls x b c
  show W _ _ _ _ _ _ _ _ _ _ _ _ _ _ X.Q _
  rw [hR.2.2.2]
  exact W.vret hX.1 hX.2.1 hR.1 (QC.mk hR hA x b hq) (by rw [← hR.2.1]; exact b.2.2) hd hX.2.2.2.2.2.2.2.2
/-- behind a call -/
theorem V.back {a : Array Value} {cp : Option Value → Nat → AH → Prop} {mc1 ms1 : Nat} {ls : Array Slot} {rest : List Value} {H : Heap} {locs : List Loc} (hX : okX X cc nL own d mc ms) (hA : ∀ (q : Nat) (e : va_E), h q = some e → X.A q) (x : hv X.G z h H) (b : va_S X.A X.H H locs) (c : lvh ls lv)
    (hr : va_Run X.p X.l X.e X.R X.s X.m X.a X.b X.mt X.c H locs k n mc1 ms1 (F0 X.m pc ls st) rest (QC X.G z h cp a) (dm h z))
    (kk : ∀ (v : Option Value) (z' : Nat) (h' : AH), cp v z' h' → V X (k + mc1) (n + ms1) z' h' (pc + 3) lv (v.toList ++ rest)) : XW X H locs k n (F0 X.m pc ls st) := by
  have hdA : ∀ q, dm h z q → X.A q := by
    rintro q (⟨e, he⟩ | hq)
    · exact hA q e he
    · exact hX.2.2.2.2.2.2.1 q (by have := b.1; have := x.1; omega)
  intro T hT Y
  obtain ⟨v, st₀, t, T', L, g0, Y', hL, e1, e2, ⟨⟨v', z', h', hv, hp, hh, hd'⟩, hz, hk⟩, st⟩ := hr T hT Y
  cases hv
  rw [g0] at hz hk
  obtain ⟨t2, a1, b1⟩ := kk v z' h' hp (fun q e he => hdA q (hd' q e he)) T'.heap (locs ++ L) ls (by rw [e1]; exact hh)
    ⟨Nat.le_trans b.1 (by rw [e1]; exact hz), fun q h1 h2 => by rw [e1, hk q (Nat.lt_of_lt_of_le h1 b.1) (fun w => h2 (hdA q w))]; exact b.2.1 q h1 h2, fun q hq => by
      rcases List.mem_append.mp hq with h | h
      · exact b.2.2 q h
      · exact hdA _ (hL q h)⟩ c T' rfl Y'
  exact ⟨t2, st t2 a1, b1⟩
theorem goodGG {y : MethodName} {bytes : ByteArray} {maxL : Nat} {ret : Option FieldType} (hw : Cond.code y bytes maxL ret ∈ GG) : GoodIn GG (Cond.code y bytes maxL ret :: GG) := fun w h => by
  rcases List.mem_cons.mp h with h | h
  · rw [h]; exact ⟨hw, GG_good _ hw⟩
  · exact ⟨h, GG_good _ h⟩
theorem goodV {own : String} {idx : Nat} {C : String} {y : MethodName} {ws : List Cond} (h : GoodIn GG ws) (h1 : Cond.methodLink own idx y ∈ GG) (h2 : Cond.instanceMethod y ∈ GG) (h3 : Cond.selects C y y ∈ GG) (h4 : Cond.initialized C ∈ GG) : GoodIn GG (wsV own idx C y ws) := fun w hw => by
  unfold wsV at hw
  rcases List.mem_append.mp hw with hw | hw
  · have hm : w ∈ GG := by
      simp only [List.mem_cons, List.not_mem_nil, or_false] at hw
      rcases hw with rfl | rfl | rfl | rfl
      · exact h1
      · exact h2
      · exact h3
      · exact h4
    exact ⟨hm, GG_good _ hm⟩
  · exact h w hw
theorem blindC {G : Gd} {av : List Value} : FrameBlind (va_Pc av (fun U => hv G z h U.heap ∧ KK G U)) := fun a U g mk q => ⟨q.1, q.2.1, KK.same (u := U) (U := U.calling g mk a) rfl q.2.2⟩
theorem V_callV (hX : okX X cc nL own d mc ms) {y : MethodName} {bytes : ByteArray} {maxL : Nat} {ret : Option FieldType} {d1 mc1 ms1 idx b ci nA : Nat} {C : String} {T : u_T} {N : Nat} {fs As rest : List Value} {cp : Option Value → Nat → AH → Prop} {k' n' : Nat} (hd : decode cc pc = .ok (.invokevirtual idx, 3)) (hM : Ct X.G y bytes maxL ret d1 mc1 ms1 (.ref b :: As) z h cp) (he : h b = some (.inr (ci, fs))) (hc : vwCl[ci]? = some (C, T, N))
    (w1 : Cond.methodLink own idx y ∈ GG) (w2 : Cond.instanceMethod y ∈ GG) (w3 : Cond.selects C y y ∈ GG) (w4 : Cond.initialized C ∈ GG) (w5 : Cond.code y bytes maxL ret ∈ GG) (hn : As.length = nA) (hy : y.cls = C ∧ y.cls ≠ "java/lang/invoke/MethodHandle" ∧ y.cls ≠ "java/lang/invoke/VarHandle" ∧ (parseMethodDescriptor y.desc).map (fun d => d.parameters.length) = some nA)
    (hs : st = As.reverse ++ .ref b :: rest) (hW : (rest.map fun v => v.category).sum ≤ 8) (hL : maxL ≤ 20) (hdd : d1 + 1 ≤ d) (hl : lv.length = nL) (hk : k + mc1 = k') (hk' : k' ≤ mc) (hn1 : n + ms1 = n') (hn' : n' ≤ ms) (hp : pc + 3 = pc')
    (kk : ∀ (v : Option Value) (z' : Nat) (h' : AH), cp v z' h' → V X k' n' z' h' pc' lv (v.toList ++ rest)) : V X k n z h pc lv st := by
  subst hp; subst hs; subst hk; subst hn1
  intro hA H locs ls x b' c
  obtain ⟨r1, r2, r3, r4⟩ := hX.2.2.2.2.2.2.2.1
  refine V.back hX hA x b' c (va_runV (As := As) (rest := rest) (nL := nL) ⟨hX.1, hX.2.1, hX.2.2.1, hX.2.2.2.1, hX.2.2.2.2.1⟩ (hM X.l) (cwV nA hX.2.2.2.2.1 (goodV (goodGG w5) w1 w2 w3 w4) rfl rfl rfl hy ⟨by show d1 + 1 ≤ _; omega, by show 8 + (maxL + 11) + 40 * d1 ≤ _; omega⟩) ⟨blindC, ?_, fun U hU hWm => ⟨rfl, by rw [hU]; exact x, KK.warm hWm hX.2.2.2.2.2.1⟩⟩ rfl hn (by rw [← hl]; exact c.1) rfl (lv_room hW) hd ⟨by omega, by omega⟩) kk
  obtain ⟨q', h1, cell, g1, g2, g3, -⟩ := x.2 b _ he
  have hr : q' = (C, T, N) := Option.some.inj (h1.symm.trans hc)
  subst hr
  exact ⟨cell, g1, by rw [g3]; rfl, by rw [g2]; exact (hX.2.2.2.2.2.1.1.1 ci _ hc).2.1⟩
theorem V_callS (hX : okX X cc nL own d mc ms) {y : MethodName} {bytes : ByteArray} {maxL : Nat} {ret : Option FieldType} {d1 mc1 ms1 idx nA : Nat} {As rest : List Value} {cp : Option Value → Nat → AH → Prop} {k' n' : Nat} (hd : decode cc pc = .ok (.invokestatic idx, 3)) (hM : Ct X.G y bytes maxL ret d1 mc1 ms1 As z h cp)
    (w1 : Cond.methodLink own idx y ∈ GG) (w2 : Cond.static y ∈ GG) (w4 : Cond.initialized y.cls ∈ GG) (w5 : Cond.code y bytes maxL ret ∈ GG) (hn : As.length = nA) (hy : y.cls ≠ "java/lang/invoke/MethodHandle" ∧ y.cls ≠ "java/lang/invoke/VarHandle" ∧ (parseMethodDescriptor y.desc).map (fun d => d.parameters.length) = some nA)
    (hs : st = As.reverse ++ rest) (hW : (rest.map fun v => v.category).sum ≤ 8) (hL : maxL ≤ 20) (hdd : d1 + 1 ≤ d) (hl : lv.length = nL) (hk : k + mc1 = k') (hk' : k' ≤ mc) (hn1 : n + ms1 = n') (hn' : n' ≤ ms) (hp : pc + 3 = pc')
    (kk : ∀ (v : Option Value) (z' : Nat) (h' : AH), cp v z' h' → V X k' n' z' h' pc' lv (v.toList ++ rest)) : V X k n z h pc lv st := by
  subst hp; subst hs; subst hk; subst hn1
  intro hA H locs ls x b' c
  obtain ⟨r1, r2, r3, r4⟩ := hX.2.2.2.2.2.2.2.1
  have hts := hX.2.2.2.2.1
  exact V.back hX hA x b' c (va_runS (As := As) (rest := rest) (nL := nL) ⟨hX.1, hX.2.1, hX.2.2.1, hX.2.2.2.1, hX.2.2.2.2.1⟩ (hM X.l) ⟨callB_of nA hts (goodGG w5) rfl rfl rfl (hts _ w4) (hts _ w1) hy ⟨by show d1 + 1 ≤ _; omega, by show 8 + (maxL + 11) + 40 * d1 ≤ _; omega⟩, hts _ w2⟩ ⟨blindC, fun U hU hWm => ⟨rfl, by rw [hU]; exact x, KK.warm hWm hX.2.2.2.2.2.1⟩⟩ rfl hn (by rw [← hl]; exact c.1) rfl (lv_room hW) hd ⟨by omega, by omega⟩) kk
theorem V_callI (hX : okX X cc nL own d mc ms) {y : MethodName} {bytes : ByteArray} {maxL : Nat} {d1 mc1 ms1 idx b nA : Nat} {As rest : List Value} {cp : Option Value → Nat → AH → Prop} {k' n' : Nat} (hd : decode cc pc = .ok (.invokespecial idx, 3)) (hM : Ct X.G y bytes maxL none d1 mc1 ms1 (.ref b :: As) z h cp)
    (w1 : Cond.methodLink own idx y ∈ GG) (w2 : Cond.instanceMethod y ∈ GG) (w4 : Cond.initialized y.cls ∈ GG) (w5 : Cond.code y bytes maxL none ∈ GG) (hn : As.length = nA) (hy : y.name = "<init>" ∧ y.cls ≠ "java/lang/invoke/MethodHandle" ∧ y.cls ≠ "java/lang/invoke/VarHandle" ∧ (parseMethodDescriptor y.desc).map (fun d => d.parameters.length) = some nA)
    (hs : st = As.reverse ++ .ref b :: rest) (hW : (rest.map fun v => v.category).sum ≤ 8) (hL : maxL ≤ 20) (hdd : d1 + 1 ≤ d) (hl : lv.length = nL) (hk : k + mc1 = k') (hk' : k' ≤ mc) (hn1 : n + ms1 = n') (hn' : n' ≤ ms) (hp : pc + 3 = pc')
    (kk : ∀ (v : Option Value) (z' : Nat) (h' : AH), cp v z' h' → V X k' n' z' h' pc' lv (v.toList ++ rest)) : V X k n z h pc lv st := by
  subst hp; subst hs; subst hk; subst hn1
  intro hA H locs ls x b' c
  obtain ⟨r1, r2, r3, r4⟩ := hX.2.2.2.2.2.2.2.1
  have hts := hX.2.2.2.2.1
  exact V.back hX hA x b' c (va_runI (As := As) (rest := rest) (nL := nL) ⟨hX.1, hX.2.1, hX.2.2.1, hX.2.2.2.1, hX.2.2.2.2.1⟩ (hM X.l) ⟨callB_of nA hts (goodGG w5) rfl rfl rfl (hts _ w4) (hts _ w1) hy.2 ⟨by show d1 + 1 ≤ _; omega, by show 8 + (maxL + 11) + 40 * d1 ≤ _; omega⟩, hy.1, hts _ w2⟩ ⟨blindC, fun U hU hWm => ⟨rfl, by rw [hU]; exact x, KK.warm hWm hX.2.2.2.2.2.1⟩⟩ rfl hn (by rw [← hl]; exact c.1) rfl (lv_room hW) hd ⟨by omega, by omega⟩) kk
/-- a private constructor of a nest mate -/
theorem V_callIN (hX : okX X cc nL own d mc ms) {y : MethodName} {bytes : ByteArray} {maxL : Nat} {d1 mc1 ms1 idx b nA : Nat} {host : String} {As rest : List Value} {cp : Option Value → Nat → AH → Prop} {k' n' : Nat} (hd : decode cc pc = .ok (.invokespecial idx, 3)) (hM : Ct X.G y bytes maxL none d1 mc1 ms1 (.ref b :: As) z h cp)
    (w1 : Cond.methodLinkNest own idx y host ∈ NNm) (w2 : Cond.instanceMethod y ∈ GG) (w4 : Cond.initialized y.cls ∈ GG) (w5 : Cond.code y bytes maxL none ∈ GG) (hn : As.length = nA) (hy : y.name = "<init>" ∧ y.cls ≠ "java/lang/invoke/MethodHandle" ∧ y.cls ≠ "java/lang/invoke/VarHandle" ∧ (parseMethodDescriptor y.desc).map (fun d => d.parameters.length) = some nA)
    (hs : st = As.reverse ++ .ref b :: rest) (hW : (rest.map fun v => v.category).sum ≤ 8) (hL : maxL ≤ 20) (hdd : d1 + 1 ≤ d) (hl : lv.length = nL) (hk : k + mc1 = k') (hk' : k' ≤ mc) (hn1 : n + ms1 = n') (hn' : n' ≤ ms) (hp : pc + 3 = pc')
    (kk : ∀ (v : Option Value) (z' : Nat) (h' : AH), cp v z' h' → V X k' n' z' h' pc' lv (v.toList ++ rest)) : V X k n z h pc lv st := by
  subst hp; subst hs; subst hk; subst hn1
  intro hA H locs ls x b' c
  obtain ⟨r1, r2, r3, r4⟩ := hX.2.2.2.2.2.2.2.1
  have hts := hX.2.2.2.2.1
  exact V.back hX hA x b' c (va_runIN (As := As) (rest := rest) (nL := nL) ⟨hX.1, hX.2.1, hX.2.2.1, hX.2.2.2.1, hX.2.2.2.2.1⟩ (hM X.l) ⟨va_cnB nA hts (goodGG w5) rfl rfl rfl (hX.2.2.2.2.2.1.2.2.2 _ w1) (hts _ w4) hy.2 ⟨by show d1 + 1 ≤ _; omega, by show 8 + (maxL + 11) + 40 * d1 ≤ _; omega⟩, hy.1, hts _ w2⟩ ⟨blindC, fun U hU hWm => ⟨rfl, by rw [hU]; exact x, KK.warm hWm hX.2.2.2.2.2.1⟩⟩ rfl hn (by rw [← hl]; exact c.1) rfl (lv_room hW) hd ⟨by omega, by omega⟩) kk
end VE
end
section
/-! V over numbers: ints that are Nats (nI), arrays of such -/
abbrev aI (G : Gd) (n : Nat) (g : Nat → Nat) : va_E := oI G n (fun j => nI (g j))
def bI (b : Bool) : Int32 := if b then 1 else 0
theorem bI_t : bI true = 1 := rfl
theorem bI_f : bI false = 0 := rfl
theorem bI_n (b : Bool) : narrow .boolean (.int (bI b)) = .int (bI b) := by cases b <;> rfl
theorem bI_0 {b : Bool} : bI b = 0 ↔ b = false := by cases b <;> decide
theorem bI_n0 {b : Bool} : ¬ bI b = 0 ↔ b = true := by cases b <;> decide
theorem nI_vpin {i N : Nat} (hi : i < N) (hN : N < 2 ^ 31) : vp_in (nI i) N := vp_in_nI hi hN
theorem upd_nI (g : Nat → Nat) (i w : Nat) : upd (fun j => nI (g j)) i (nI w) = fun j => nI (va_up g i w j) := by
  funext j
  unfold upd va_up
  by_cases h : j = i <;> simp [h]
theorem cpy_nI (f g : Nat → Nat) (sp dp n : Nat) : va_cpy (fun j => nI (f j)) (fun j => nI (g j)) sp dp n = fun j => nI (va_cpy f g sp dp n j) := by
  funext j
  unfold va_cpy
  by_cases h : dp ≤ j ∧ j < dp + n <;> simp [h]
section VN
variable {X : CX} {cc : ByteArray} {nL : Nat} {own : String} {d mc ms : Nat} {k n z z0 : Nat} {h h0 : AH} {pc pc' : Nat} {lv lv' : List (Option Value)} {st st' : List Value}
theorem V.eqi {x y : Int32} (e : x = y) (kk : V X k n z h pc lv (.int y :: st)) : V X k n z h pc lv (.int x :: st) := by rw [e]; exact kk
theorem V.eql {x y : Int64} (e : x = y) (kk : V X k n z h pc lv (.long y :: st)) : V X k n z h pc lv (.long x :: st) := by rw [e]; exact kk
theorem V.eqh {h' : AH} (e : h = h') (kk : V X k n z h' pc lv st) : V X k n z h pc lv st := by rw [e]; exact kk
theorem V_ldcN (hX : okX X cc nL own d mc ms) {i : Nat} {v v' : Int32} (hd : decode cc pc = .ok (.ldc i, 2)) (hw : Cond.constant own i v ∈ GG) (hv : v = v') (hp : pc + 2 = pc') (kk : V X k n z h pc' lv (.int v' :: st)) : V X k n z h pc lv st := by
  subst hv
  exact V_ldc hX hd hw hp kk
theorem V_ldcwN (hX : okX X cc nL own d mc ms) {i : Nat} {v v' : Int32} (hd : decode cc pc = .ok (.ldc_w i, 3)) (hw : Cond.constant own i v ∈ GG) (hv : v = v') (hp : pc + 3 = pc') (kk : V X k n z h pc' lv (.int v' :: st)) : V X k n z h pc lv st := by
  subst hv
  exact V_ldcw hX hd hw hp kk
theorem V_ldc2N (hX : okX X cc nL own d mc ms) {i : Nat} {v v' : Int64} (hd : decode cc pc = .ok (.ldc2_w i, 3)) (hw : Cond.constantLong own i v ∈ GG) (hv : v = v') (hp : pc + 3 = pc') (kk : V X k n z h pc' lv (.long v' :: st)) : V X k n z h pc lv st := by
  subst hv
  exact V_ldc2 hX hd hw hp kk
theorem V_iaddN (hX : okX X cc nL own d mc ms) {x y : Nat} (hd : decode cc pc = .ok (.iadd, 1)) (hp : pc + 1 = pc') (kk : V X k n z h pc' lv (.int (nI (x + y)) :: st)) : V X k n z h pc lv (.int (nI y) :: .int (nI x) :: st) :=
  V_iadd hX hd hp (V.eqi (nI_add x y) kk)
theorem V_isubN (hX : okX X cc nL own d mc ms) {x y : Nat} (hd : decode cc pc = .ok (.isub, 1)) (hxy : y ≤ x) (hp : pc + 1 = pc') (kk : V X k n z h pc' lv (.int (nI (x - y)) :: st)) : V X k n z h pc lv (.int (nI y) :: .int (nI x) :: st) :=
  V_isub hX hd hp (V.eqi (pk_sub hxy) kk)
theorem V_imulN (hX : okX X cc nL own d mc ms) {x y : Nat} (hd : decode cc pc = .ok (.imul, 1)) (hp : pc + 1 = pc') (kk : V X k n z h pc' lv (.int (nI (x * y)) :: st)) : V X k n z h pc lv (.int (nI y) :: .int (nI x) :: st) :=
  V_imul hX hd hp (V.eqi (pk_mul x y) kk)
theorem V_i2lN (hX : okX X cc nL own d mc ms) {x : Nat} (hd : decode cc pc = .ok (.i2l, 1)) (hx : x < 2 ^ 31) (hp : pc + 1 = pc') (kk : V X k n z h pc' lv (.long (lN x) :: st)) : V X k n z h pc lv (.int (nI x) :: st) :=
  V_i2l hX hd hp (V.eql (nI_l hx) kk)
theorem V_laddN (hX : okX X cc nL own d mc ms) {x y : Nat} (hd : decode cc pc = .ok (.ladd, 1)) (hp : pc + 1 = pc') (kk : V X k n z h pc' lv (.long (lN (x + y)) :: st)) : V X k n z h pc lv (.long (lN y) :: .long (lN x) :: st) :=
  V_ladd hX hd hp (V.eql (lN_add x y) kk)
theorem V_lsubN (hX : okX X cc nL own d mc ms) {x y : Nat} (hd : decode cc pc = .ok (.lsub, 1)) (hxy : y ≤ x) (hp : pc + 1 = pc') (kk : V X k n z h pc' lv (.long (lN (x - y)) :: st)) : V X k n z h pc lv (.long (lN y) :: .long (lN x) :: st) :=
  V_lsub hX hd hp (V.eql (lN_sub hxy) kk)
theorem V_lmulN (hX : okX X cc nL own d mc ms) {x y : Nat} (hd : decode cc pc = .ok (.lmul, 1)) (hp : pc + 1 = pc') (kk : V X k n z h pc' lv (.long (lN (x * y)) :: st)) : V X k n z h pc lv (.long (lN y) :: .long (lN x) :: st) :=
  V_lmul hX hd hp (V.eql (lN_mul x y) kk)
theorem lN_n0 {y : Nat} (h0 : 0 < y) (hy : y < 2 ^ 63) : ¬ lN y = 0 := fun q => by
  have := (pk_lEQ hy (by decide : 0 < 2 ^ 63)).mp (q.trans (by decide : (0 : Int64) = lN 0))
  omega
theorem V_ldivN (hX : okX X cc nL own d mc ms) {x y : Nat} (hd : decode cc pc = .ok (.ldiv, 1)) (hx : x < 2 ^ 63) (hy0 : 0 < y) (hy : y < 2 ^ 63) (hp : pc + 1 = pc') (kk : V X k n z h pc' lv (.long (lN (x / y)) :: st)) : V X k n z h pc lv (.long (lN y) :: .long (lN x) :: st) :=
  V_ldiv hX hd (lN_n0 hy0 hy) hp (V.eql (pk_lDiv hx hy0 hy) kk)
theorem V_lremN (hX : okX X cc nL own d mc ms) {x y : Nat} (hd : decode cc pc = .ok (.lrem, 1)) (hx : x < 2 ^ 63) (hy0 : 0 < y) (hy : y < 2 ^ 63) (hp : pc + 1 = pc') (kk : V X k n z h pc' lv (.long (lN (x % y)) :: st)) : V X k n z h pc lv (.long (lN y) :: .long (lN x) :: st) :=
  V_lrem hX hd (lN_n0 hy0 hy) hp (V.eql (pk_lRem hx hy0 hy) kk)
theorem V_iincN (hX : okX X cc nL own d mc ms) {i x : Nat} {j : Nat} {w : Int} (hd : decode cc pc = .ok (.iinc i w, 3)) (hw : w = (j : Int)) (hx : lv[i]? = some (some (.int (nI x)))) (hl : lvP lv i (.int (nI (x + j))) = lv') (hp : pc + 3 = pc') (kk : V X k n z h pc' lv' st) : V X k n z h pc lv st := by
  subst hw
  refine V_iinc hX hd hx ?_ hl hp kk
  rw [← nI_add]
  rfl
theorem V_alenN (hX : okX X cc nL own d mc ms) {a N : Nat} {f : Nat → Int32} (hd : decode cc pc = .ok (.arraylength, 1)) (ha : h a = some (oI X.G N f)) (hp : pc + 1 = pc') (kk : V X k n z h pc' lv (.int (nI N) :: st)) : V X k n z h pc lv (.ref a :: st) := V_alen hX 0 rfl hd ha rfl hp kk
theorem V_alenJ (hX : okX X cc nL own d mc ms) {a N : Nat} {f : Nat → Int64} (hd : decode cc pc = .ok (.arraylength, 1)) (ha : h a = some (oJ X.G N f)) (hp : pc + 1 = pc') (kk : V X k n z h pc' lv (.int (nI N) :: st)) : V X k n z h pc lv (.ref a :: st) := V_alen hX 1 rfl hd ha rfl hp kk
theorem V_ialdN (hX : okX X cc nL own d mc ms) {a N i : Nat} {f : Nat → Int32} {v : Int32} (hd : decode cc pc = .ok (.iaload, 1)) (ha : h a = some (oI X.G N f)) (hi : i < N) (hN : N < 2 ^ 31) (hv : f i = v) (hp : pc + 1 = pc') (kk : V X k n z h pc' lv (.int v :: st)) : V X k n z h pc lv (.int (nI i) :: .ref a :: st) := by
  refine V_iald hX hd ha (nI_vpin hi hN) hp ?_
  rw [nI_clamp (by omega), hv]
  exact kk
theorem V_zaldN (hX : okX X cc nL own d mc ms) {a N i : Nat} {f : Nat → Int32} {v : Int32} (hd : decode cc pc = .ok (.baload, 1)) (ha : h a = some (oZ X.G N f)) (hi : i < N) (hN : N < 2 ^ 31) (hv : f i = v) (hp : pc + 1 = pc') (kk : V X k n z h pc' lv (.int v :: st)) : V X k n z h pc lv (.int (nI i) :: .ref a :: st) := by
  refine V_zald hX hd ha (nI_vpin hi hN) hp ?_
  rw [nI_clamp (by omega), hv]
  exact kk
theorem V_laldN (hX : okX X cc nL own d mc ms) {a N i : Nat} {f : Nat → Int64} {v : Int64} (hd : decode cc pc = .ok (.laload, 1)) (ha : h a = some (oJ X.G N f)) (hi : i < N) (hN : N < 2 ^ 31) (hv : f i = v) (hp : pc + 1 = pc') (kk : V X k n z h pc' lv (.long v :: st)) : V X k n z h pc lv (.int (nI i) :: .ref a :: st) := by
  refine V_lald hX hd ha (nI_vpin hi hN) hp ?_
  rw [nI_clamp (by omega), hv]
  exact kk
theorem V_aaldN (hX : okX X cc nL own d mc ms) {a N i : Nat} {f : Nat → Option Nat} {v : Value} (hd : decode cc pc = .ok (.aaload, 1)) (ha : h a = some (oN X.G N f)) (hi : i < N) (hN : N < 2 ^ 31) (hv : va_rf (f i) = v) (hp : pc + 1 = pc') (kk : V X k n z h pc' lv (v :: st)) : V X k n z h pc lv (.int (nI i) :: .ref a :: st) := by
  refine V_aald hX hd ha (nI_vpin hi hN) hp ?_
  rw [nI_clamp (by omega), hv]
  exact kk
theorem V_iastN (hX : okX X cc nL own d mc ms) {a N i w : Nat} {g : Nat → Nat} (hd : decode cc pc = .ok (.iastore, 1)) (ha : h a = some (aI X.G N g)) (hi : i < N) (hN : N < 2 ^ 31) (hp : pc + 1 = pc') (kk : V X k n z (hup h a (aI X.G N (va_up g i w))) pc' lv st) : V X k n z h pc lv (.int (nI w) :: .int (nI i) :: .ref a :: st) := by
  refine V_iast hX hd ha (nI_vpin hi hN) hp ?_
  rw [nI_clamp (by omega), upd_nI]
  exact kk
theorem V_iast2 (hX : okX X cc nL own d mc ms) {a N i : Nat} {w : Int32} {f : Nat → Int32} (hd : decode cc pc = .ok (.iastore, 1)) (ha : h a = some (oI X.G N f)) (hi : i < N) (hN : N < 2 ^ 31) (hp : pc + 1 = pc') (kk : V X k n z (hup h a (oI X.G N (upd f i w))) pc' lv st) : V X k n z h pc lv (.int w :: .int (nI i) :: .ref a :: st) := by
  refine V_iast hX hd ha (nI_vpin hi hN) hp ?_
  rw [nI_clamp (by omega)]
  exact kk
theorem V_zastN (hX : okX X cc nL own d mc ms) {a N i : Nat} {w : Int32} {f : Nat → Int32} (hd : decode cc pc = .ok (.bastore, 1)) (ha : h a = some (oZ X.G N f)) (hi : i < N) (hN : N < 2 ^ 31) (hnv : narrow .boolean (.int w) = .int w) (hp : pc + 1 = pc') (kk : V X k n z (hup h a (oZ X.G N (upd f i w))) pc' lv st) : V X k n z h pc lv (.int w :: .int (nI i) :: .ref a :: st) := by
  refine V_zast hX hd ha (nI_vpin hi hN) hnv hp ?_
  rw [nI_clamp (by omega)]
  exact kk
theorem V_lastN (hX : okX X cc nL own d mc ms) {a N i : Nat} {w : Int64} {f : Nat → Int64} (hd : decode cc pc = .ok (.lastore, 1)) (ha : h a = some (oJ X.G N f)) (hi : i < N) (hN : N < 2 ^ 31) (hp : pc + 1 = pc') (kk : V X k n z (hup h a (oJ X.G N (vp_updL f i w))) pc' lv st) : V X k n z h pc lv (.long w :: .int (nI i) :: .ref a :: st) := by
  refine V_last hX hd ha (nI_vpin hi hN) hp ?_
  rw [nI_clamp (by omega)]
  exact kk
theorem V_copyN (hX : okX X cc nL own d mc ms) {a0 a1 n0 n1 idx : Nat} {f g : Nat → Nat} {sp dp m : Nat} (hd : decode cc pc = .ok (.invokestatic idx, 3)) (hw1 : Cond.methodLink own idx arraycopyName ∈ GG) (ha0 : h a0 = some (aI X.G n0 f)) (ha1 : h a1 = some (aI X.G n1 g)) (hb0 : n0 < 100000) (hb1 : n1 < 100000) (h4 : sp + m ≤ n0) (h5 : dp + m ≤ n1) (hdd : 1 ≤ d) (hl : lv.length = nL) (hs : (st.map fun v => v.category).sum ≤ 8) (hp : pc + 3 = pc') (kk : V X k n z (hup h a1 (aI X.G n1 (va_cpy f g sp dp m))) pc' lv st) : V X k n z h pc lv (.int (nI m) :: .int (nI dp) :: .ref a1 :: .int (nI sp) :: .ref a0 :: st) := by
  refine V_copyI hX hd hw1 ha0 ha1 hb0 hb1 h4 h5 hdd hl hs hp ?_
  rw [cpy_nI]
  exact kk
theorem V_newIN (hX : okX X cc nL own d mc ms) {N : Nat} (hd : decode cc pc = .ok (.newarray .int, 2)) (hsm : N ≤ 100000) (hk : k + 1 ≤ mc) (hn : n + N ≤ ms) (hp : pc + 2 = pc') (kk : V X (k + 1) (n + N) (z + 1) (hup h z (aI X.G N (fun _ => 0))) pc' lv (.ref z :: st)) : V X k n z h pc lv (.int (nI N) :: st) :=
  V_newI hX hd wA_int (nI_pos (by omega)) (nI_clamp (by omega)) hsm hk hn hp kk
theorem V_newJN (hX : okX X cc nL own d mc ms) {N : Nat} (hd : decode cc pc = .ok (.newarray .long, 2)) (hsm : N ≤ 100000) (hk : k + 1 ≤ mc) (hn : n + N ≤ ms) (hp : pc + 2 = pc') (kk : V X (k + 1) (n + N) (z + 1) (hup h z (oJ X.G N (fun _ => 0))) pc' lv (.ref z :: st)) : V X k n z h pc lv (.int (nI N) :: st) :=
  V_newJ hX hd wA_long (nI_pos (by omega)) (nI_clamp (by omega)) hsm hk hn hp kk
theorem V_newZN (hX : okX X cc nL own d mc ms) {N : Nat} (hd : decode cc pc = .ok (.newarray .boolean, 2)) (hsm : N ≤ 100000) (hk : k + 1 ≤ mc) (hn : n + N ≤ ms) (hp : pc + 2 = pc') (kk : V X (k + 1) (n + N) (z + 1) (hup h z (oZ X.G N (fun _ => 0))) pc' lv (.ref z :: st)) : V X k n z h pc lv (.int (nI N) :: st) :=
  V_newZ hX hd wA_boolean (nI_pos (by omega)) (nI_clamp (by omega)) hsm hk hn hp kk
theorem V_newNN (hX : okX X cc nL own d mc ms) {N index : Nat} (hd : decode cc pc = .ok (.anewarray index, 3)) (hw : Cond.classLink own index "PairSieve$NumberSet" ∈ GG) (hsm : N ≤ 100000) (hk : k + 1 ≤ mc) (hn : n + N ≤ ms) (hp : pc + 3 = pc') (kk : V X (k + 1) (n + N) (z + 1) (hup h z (oN X.G N (fun _ => none))) pc' lv (.ref z :: st)) : V X k n z h pc lv (.int (nI N) :: st) :=
  V_newN hX hd hw (nI_pos (by omega)) (nI_clamp (by omega)) hsm hk hn hp kk
theorem V_minN (hX : okX X cc nL own d mc ms) {idx : Nat} {x y : Nat} (hd : decode cc pc = .ok (.invokestatic idx, 3)) (hw1 : Cond.methodLink own idx Lib.Math.min.name ∈ GG) (hx : x < 2 ^ 31) (hy : y < 2 ^ 31) (hdd : 1 ≤ d) (hk : k ≤ mc) (hn : n ≤ ms) (hl : lv.length = nL) (hs : (st.map fun v => v.category).sum ≤ 8) (hp : pc + 3 = pc') (kk : V X k n z h pc' lv (.int (nI (min x y)) :: st)) : V X k n z h pc lv (.int (nI y) :: .int (nI x) :: st) := by
  refine V_min hX hd hw1 hdd hk hn hl hs hp (V.eqi ?_ kk)
  by_cases hxy : y < x
  · rw [if_pos ((nI_ltI hy hx).mpr hxy), Nat.min_eq_right (by omega)]
  · rw [if_neg (fun q => hxy ((nI_ltI hy hx).mp q)), Nat.min_eq_left (by omega)]
theorem V_minLN (hX : okX X cc nL own d mc ms) {idx : Nat} {x y : Nat} (hd : decode cc pc = .ok (.invokestatic idx, 3)) (hw1 : Cond.methodLink own idx Lib.MathLoose.min_long.x ∈ GG) (hx : x < 2 ^ 63) (hy : y < 2 ^ 63) (hdd : 1 ≤ d) (hk : k ≤ mc) (hn : n ≤ ms) (hl : lv.length = nL) (hs : (st.map fun v => v.category).sum ≤ 8) (hp : pc + 3 = pc') (kk : V X k n z h pc' lv (.long (lN (min x y)) :: st)) : V X k n z h pc lv (.long (lN y) :: .long (lN x) :: st) := by
  refine V_minL hX hd hw1 hdd hk hn hl hs hp (V.eql ?_ kk)
  by_cases hxy : y < x
  · rw [if_pos ((pk_lLT hy hx).mpr hxy), Nat.min_eq_right (by omega)]
  · rw [if_neg (fun q => hxy ((pk_lLT hy hx).mp q)), Nat.min_eq_left (by omega)]
/-! an answer that is a reference -/
theorem V_aret {post : Option Value → Nat → AH → Prop} {rt : FieldType} (hX : okX X cc nL own d mc ms) (hR : reX X (some rt) k n z0 h0 post) (hrt : ∃ n, rt = .object n) {v : Value} (hd : decode cc pc = .ok (.areturn, 1)) (hv : v = .null ∨ ∃ a, v = .ref a) (hq : post (some v) z h) : V X k n z h pc lv [v] := by
  intro hA H locs ls x b c
  show W _ _ _ _ _ _ _ _ _ _ _ _ _ _ X.Q _
  rw [hR.2.2.2]
  exact W.aret (v := v) hX.1 hX.2.1 hR.1 (Or.inl hrt) hv (QC.mk hR hA x b hq) (by rw [← hR.2.1]; exact b.2.2) hd hX.2.2.2.2.2.2.2.2
theorem V_icmp_eqN (hX : okX X cc nL own d mc ms) {x y : Nat} {off : Int} {pt : Nat} (hd : decode cc pc = .ok (.if_icmp .eq off, 3)) (hx : x < 2 ^ 31) (hy : y < 2 ^ 31) (ht : (pc : Int) + off = (pt : Int)) (hp : pc + 3 = pc') (kt : x = y → V X k n z h pt lv st) (kf : ¬ (x = y) → V X k n z h pc' lv st) : V X k n z h pc lv (.int (nI y) :: .int (nI x) :: st) :=
  V_icmp_eq hX hd ht hp (fun q => kt ((nI_eq hx hy).mp q)) (fun q => kf (fun q2 => q ((nI_eq hx hy).mpr q2)))
theorem V_icmp_ltN (hX : okX X cc nL own d mc ms) {x y : Nat} {off : Int} {pt : Nat} (hd : decode cc pc = .ok (.if_icmp .lt off, 3)) (hx : x < 2 ^ 31) (hy : y < 2 ^ 31) (ht : (pc : Int) + off = (pt : Int)) (hp : pc + 3 = pc') (kt : x < y → V X k n z h pt lv st) (kf : ¬ (x < y) → V X k n z h pc' lv st) : V X k n z h pc lv (.int (nI y) :: .int (nI x) :: st) :=
  V_icmp_lt hX hd ht hp (fun q => kt ((nI_ltI hx hy).mp q)) (fun q => kf (fun q2 => q ((nI_ltI hx hy).mpr q2)))
theorem V_icmp_geN (hX : okX X cc nL own d mc ms) {x y : Nat} {off : Int} {pt : Nat} (hd : decode cc pc = .ok (.if_icmp .ge off, 3)) (hx : x < 2 ^ 31) (hy : y < 2 ^ 31) (ht : (pc : Int) + off = (pt : Int)) (hp : pc + 3 = pc') (kt : y ≤ x → V X k n z h pt lv st) (kf : ¬ (y ≤ x) → V X k n z h pc' lv st) : V X k n z h pc lv (.int (nI y) :: .int (nI x) :: st) :=
  V_icmp_ge hX hd ht hp (fun q => kt ((nI_leI hy hx).mp q)) (fun q => kf (fun q2 => q ((nI_leI hy hx).mpr q2)))
theorem V_icmp_gtN (hX : okX X cc nL own d mc ms) {x y : Nat} {off : Int} {pt : Nat} (hd : decode cc pc = .ok (.if_icmp .gt off, 3)) (hx : x < 2 ^ 31) (hy : y < 2 ^ 31) (ht : (pc : Int) + off = (pt : Int)) (hp : pc + 3 = pc') (kt : y < x → V X k n z h pt lv st) (kf : ¬ (y < x) → V X k n z h pc' lv st) : V X k n z h pc lv (.int (nI y) :: .int (nI x) :: st) :=
  V_icmp_gt hX hd ht hp (fun q => kt ((nI_ltI hy hx).mp q)) (fun q => kf (fun q2 => q ((nI_ltI hy hx).mpr q2)))
theorem V_icmp_leN (hX : okX X cc nL own d mc ms) {x y : Nat} {off : Int} {pt : Nat} (hd : decode cc pc = .ok (.if_icmp .le off, 3)) (hx : x < 2 ^ 31) (hy : y < 2 ^ 31) (ht : (pc : Int) + off = (pt : Int)) (hp : pc + 3 = pc') (kt : x ≤ y → V X k n z h pt lv st) (kf : ¬ (x ≤ y) → V X k n z h pc' lv st) : V X k n z h pc lv (.int (nI y) :: .int (nI x) :: st) :=
  V_icmp_le hX hd ht hp (fun q => kt ((nI_leI hx hy).mp q)) (fun q => kf (fun q2 => q ((nI_leI hx hy).mpr q2)))
theorem V_icmp_neN (hX : okX X cc nL own d mc ms) {x y : Nat} {off : Int} {pt : Nat} (hd : decode cc pc = .ok (.if_icmp .ne off, 3)) (hx : x < 2 ^ 31) (hy : y < 2 ^ 31) (ht : (pc : Int) + off = (pt : Int)) (hp : pc + 3 = pc') (kt : ¬ x = y → V X k n z h pt lv st) (kf : x = y → V X k n z h pc' lv st) : V X k n z h pc lv (.int (nI y) :: .int (nI x) :: st) :=
  V_icmp_ne hX hd ht hp (fun q => kt (fun q2 => q ((nI_eq hx hy).mpr q2))) (fun q => kf ((nI_eq hx hy).mp q))
theorem V_if_eqN (hX : okX X cc nL own d mc ms) {x : Nat} {off : Int} {pt : Nat} (hd : decode cc pc = .ok (.ifCond .eq off, 3)) (hx : x < 2 ^ 31) (ht : (pc : Int) + off = (pt : Int)) (hp : pc + 3 = pc') (kt : x = 0 → V X k n z h pt lv st) (kf : ¬ (x = 0) → V X k n z h pc' lv st) : V X k n z h pc lv (.int (nI x) :: st) :=
  V_if_eq hX hd ht hp (fun q => kt ((nI_eq hx (by decide : 0 < 2 ^ 31)).mp (by rw [nI_0]; exact q))) (fun q => kf (fun q2 => q (by have := (nI_eq hx (by decide : 0 < 2 ^ 31)).mpr q2; rw [nI_0] at this; exact this)))
theorem V_if_ltN (hX : okX X cc nL own d mc ms) {x : Nat} {off : Int} {pt : Nat} (hd : decode cc pc = .ok (.ifCond .lt off, 3)) (hx : x < 2 ^ 31) (ht : (pc : Int) + off = (pt : Int)) (hp : pc + 3 = pc') (kt : x < 0 → V X k n z h pt lv st) (kf : ¬ (x < 0) → V X k n z h pc' lv st) : V X k n z h pc lv (.int (nI x) :: st) :=
  V_if_lt hX hd ht hp (fun q => kt ((nI_ltI hx (by decide : 0 < 2 ^ 31)).mp (by rw [nI_0]; exact q))) (fun q => kf (fun q2 => q (by have := (nI_ltI hx (by decide : 0 < 2 ^ 31)).mpr q2; rw [nI_0] at this; exact this)))
theorem V_if_geN (hX : okX X cc nL own d mc ms) {x : Nat} {off : Int} {pt : Nat} (hd : decode cc pc = .ok (.ifCond .ge off, 3)) (hx : x < 2 ^ 31) (ht : (pc : Int) + off = (pt : Int)) (hp : pc + 3 = pc') (kt : 0 ≤ x → V X k n z h pt lv st) (kf : ¬ (0 ≤ x) → V X k n z h pc' lv st) : V X k n z h pc lv (.int (nI x) :: st) :=
  V_if_ge hX hd ht hp (fun q => kt ((nI_leI (by decide : 0 < 2 ^ 31) hx).mp (by rw [nI_0]; exact q))) (fun q => kf (fun q2 => q (by have := (nI_leI (by decide : 0 < 2 ^ 31) hx).mpr q2; rw [nI_0] at this; exact this)))
theorem V_if_gtN (hX : okX X cc nL own d mc ms) {x : Nat} {off : Int} {pt : Nat} (hd : decode cc pc = .ok (.ifCond .gt off, 3)) (hx : x < 2 ^ 31) (ht : (pc : Int) + off = (pt : Int)) (hp : pc + 3 = pc') (kt : 0 < x → V X k n z h pt lv st) (kf : ¬ (0 < x) → V X k n z h pc' lv st) : V X k n z h pc lv (.int (nI x) :: st) :=
  V_if_gt hX hd ht hp (fun q => kt ((nI_ltI (by decide : 0 < 2 ^ 31) hx).mp (by rw [nI_0]; exact q))) (fun q => kf (fun q2 => q (by have := (nI_ltI (by decide : 0 < 2 ^ 31) hx).mpr q2; rw [nI_0] at this; exact this)))
theorem V_if_leN (hX : okX X cc nL own d mc ms) {x : Nat} {off : Int} {pt : Nat} (hd : decode cc pc = .ok (.ifCond .le off, 3)) (hx : x < 2 ^ 31) (ht : (pc : Int) + off = (pt : Int)) (hp : pc + 3 = pc') (kt : x ≤ 0 → V X k n z h pt lv st) (kf : ¬ (x ≤ 0) → V X k n z h pc' lv st) : V X k n z h pc lv (.int (nI x) :: st) :=
  V_if_le hX hd ht hp (fun q => kt ((nI_leI hx (by decide : 0 < 2 ^ 31)).mp (by rw [nI_0]; exact q))) (fun q => kf (fun q2 => q (by have := (nI_leI hx (by decide : 0 < 2 ^ 31)).mpr q2; rw [nI_0] at this; exact this)))
theorem V_if_neN (hX : okX X cc nL own d mc ms) {x : Nat} {off : Int} {pt : Nat} (hd : decode cc pc = .ok (.ifCond .ne off, 3)) (hx : x < 2 ^ 31) (ht : (pc : Int) + off = (pt : Int)) (hp : pc + 3 = pc') (kt : ¬ x = 0 → V X k n z h pt lv st) (kf : x = 0 → V X k n z h pc' lv st) : V X k n z h pc lv (.int (nI x) :: st) :=
  V_if_ne hX hd ht hp (fun q => kt (fun q2 => q (by rw [q2]; rfl))) (fun q => kf ((nI_eq hx (by decide : 0 < 2 ^ 31)).mp (by rw [nI_0]; exact q)))
theorem V_if_eqB (hX : okX X cc nL own d mc ms) {b : Bool} {off : Int} {pt : Nat} (hd : decode cc pc = .ok (.ifCond .eq off, 3)) (ht : (pc : Int) + off = (pt : Int)) (hp : pc + 3 = pc') (kt : b = false → V X k n z h pt lv st) (kf : b = true → V X k n z h pc' lv st) : V X k n z h pc lv (.int (bI b) :: st) :=
  V_if_eq hX hd ht hp (fun q => kt (bI_0.mp q)) (fun q => kf (bI_n0.mp q))
theorem V_if_neB (hX : okX X cc nL own d mc ms) {b : Bool} {off : Int} {pt : Nat} (hd : decode cc pc = .ok (.ifCond .ne off, 3)) (ht : (pc : Int) + off = (pt : Int)) (hp : pc + 3 = pc') (kt : b = true → V X k n z h pt lv st) (kf : b = false → V X k n z h pc' lv st) : V X k n z h pc lv (.int (bI b) :: st) :=
  V_if_ne hX hd ht hp (fun q => kt (bI_n0.mp q)) (fun q => kf (bI_0.mp q))
theorem V_lcmp_eqN (hX : okX X cc nL own d mc ms) {x y : Nat} {off : Int} {p1 pt : Nat} (hd : decode cc pc = .ok (.lcmp, 1)) (hp1 : pc + 1 = p1) (hd2 : decode cc p1 = .ok (.ifCond .eq off, 3)) (hx : x < 2 ^ 63) (hy : y < 2 ^ 63) (ht : (p1 : Int) + off = (pt : Int)) (hp : p1 + 3 = pc') (kt : x = y → V X k n z h pt lv st) (kf : ¬ (x = y) → V X k n z h pc' lv st) : V X k n z h pc lv (.long (lN y) :: .long (lN x) :: st) :=
  V_lcmp_eq hX hd hp1 hd2 ht hp (fun q => kt ((pk_lEQ hx hy).mp q)) (fun q => kf (fun q2 => q ((pk_lEQ hx hy).mpr q2)))
theorem V_lcmp_ltN (hX : okX X cc nL own d mc ms) {x y : Nat} {off : Int} {p1 pt : Nat} (hd : decode cc pc = .ok (.lcmp, 1)) (hp1 : pc + 1 = p1) (hd2 : decode cc p1 = .ok (.ifCond .lt off, 3)) (hx : x < 2 ^ 63) (hy : y < 2 ^ 63) (ht : (p1 : Int) + off = (pt : Int)) (hp : p1 + 3 = pc') (kt : x < y → V X k n z h pt lv st) (kf : ¬ (x < y) → V X k n z h pc' lv st) : V X k n z h pc lv (.long (lN y) :: .long (lN x) :: st) :=
  V_lcmp_lt hX hd hp1 hd2 ht hp (fun q => kt ((pk_lLT hx hy).mp q)) (fun q => kf (fun q2 => q ((pk_lLT hx hy).mpr q2)))
theorem V_lcmp_geN (hX : okX X cc nL own d mc ms) {x y : Nat} {off : Int} {p1 pt : Nat} (hd : decode cc pc = .ok (.lcmp, 1)) (hp1 : pc + 1 = p1) (hd2 : decode cc p1 = .ok (.ifCond .ge off, 3)) (hx : x < 2 ^ 63) (hy : y < 2 ^ 63) (ht : (p1 : Int) + off = (pt : Int)) (hp : p1 + 3 = pc') (kt : y ≤ x → V X k n z h pt lv st) (kf : ¬ (y ≤ x) → V X k n z h pc' lv st) : V X k n z h pc lv (.long (lN y) :: .long (lN x) :: st) :=
  V_lcmp_ge hX hd hp1 hd2 ht hp (fun q => kt ((pk_lLE hy hx).mp q)) (fun q => kf (fun q2 => q ((pk_lLE hy hx).mpr q2)))
theorem V_lcmp_gtN (hX : okX X cc nL own d mc ms) {x y : Nat} {off : Int} {p1 pt : Nat} (hd : decode cc pc = .ok (.lcmp, 1)) (hp1 : pc + 1 = p1) (hd2 : decode cc p1 = .ok (.ifCond .gt off, 3)) (hx : x < 2 ^ 63) (hy : y < 2 ^ 63) (ht : (p1 : Int) + off = (pt : Int)) (hp : p1 + 3 = pc') (kt : y < x → V X k n z h pt lv st) (kf : ¬ (y < x) → V X k n z h pc' lv st) : V X k n z h pc lv (.long (lN y) :: .long (lN x) :: st) :=
  V_lcmp_gt hX hd hp1 hd2 ht hp (fun q => kt ((pk_lLT hy hx).mp q)) (fun q => kf (fun q2 => q ((pk_lLT hy hx).mpr q2)))
theorem V_lcmp_leN (hX : okX X cc nL own d mc ms) {x y : Nat} {off : Int} {p1 pt : Nat} (hd : decode cc pc = .ok (.lcmp, 1)) (hp1 : pc + 1 = p1) (hd2 : decode cc p1 = .ok (.ifCond .le off, 3)) (hx : x < 2 ^ 63) (hy : y < 2 ^ 63) (ht : (p1 : Int) + off = (pt : Int)) (hp : p1 + 3 = pc') (kt : x ≤ y → V X k n z h pt lv st) (kf : ¬ (x ≤ y) → V X k n z h pc' lv st) : V X k n z h pc lv (.long (lN y) :: .long (lN x) :: st) :=
  V_lcmp_le hX hd hp1 hd2 ht hp (fun q => kt ((pk_lLE hx hy).mp q)) (fun q => kf (fun q2 => q ((pk_lLE hx hy).mpr q2)))
theorem V_lcmp_neN (hX : okX X cc nL own d mc ms) {x y : Nat} {off : Int} {p1 pt : Nat} (hd : decode cc pc = .ok (.lcmp, 1)) (hp1 : pc + 1 = p1) (hd2 : decode cc p1 = .ok (.ifCond .ne off, 3)) (hx : x < 2 ^ 63) (hy : y < 2 ^ 63) (ht : (p1 : Int) + off = (pt : Int)) (hp : p1 + 3 = pc') (kt : ¬ x = y → V X k n z h pt lv st) (kf : x = y → V X k n z h pc' lv st) : V X k n z h pc lv (.long (lN y) :: .long (lN x) :: st) :=
  V_lcmp_ne hX hd hp1 hd2 ht hp (fun q => kt (fun q2 => q ((pk_lEQ hx hy).mpr q2))) (fun q => kf ((pk_lEQ hx hy).mp q))
end VN
end
section
/-! what a call asks of the name of the method -/
theorem hy_J13_bitCount_95d88 : yJ13_bitCount_95d88.cls ≠ "java/lang/invoke/MethodHandle" ∧ yJ13_bitCount_95d88.cls ≠ "java/lang/invoke/VarHandle" ∧ (parseMethodDescriptor yJ13_bitCount_95d88.desc).map (fun d => d.parameters.length) = some 1 := by decide +kernel
theorem hy_J6_bitCount_0f7a4 : yJ6_bitCount_0f7a4.cls ≠ "java/lang/invoke/MethodHandle" ∧ yJ6_bitCount_0f7a4.cls ≠ "java/lang/invoke/VarHandle" ∧ (parseMethodDescriptor yJ6_bitCount_0f7a4.desc).map (fun d => d.parameters.length) = some 1 := by decide +kernel
theorem hy_J9_min_7cf53 : yJ9_min_7cf53.cls ≠ "java/lang/invoke/MethodHandle" ∧ yJ9_min_7cf53.cls ≠ "java/lang/invoke/VarHandle" ∧ (parseMethodDescriptor yJ9_min_7cf53.desc).map (fun d => d.parameters.length) = some 2 := by decide +kernel
theorem hy_J9_min_f86c9 : yJ9_min_f86c9.cls ≠ "java/lang/invoke/MethodHandle" ∧ yJ9_min_f86c9.cls ≠ "java/lang/invoke/VarHandle" ∧ (parseMethodDescriptor yJ9_min_f86c9.desc).map (fun d => d.parameters.length) = some 2 := by decide +kernel
theorem hy_X0_append : yX0_append.cls = RX0 ∧ yX0_append.cls ≠ "java/lang/invoke/MethodHandle" ∧ yX0_append.cls ≠ "java/lang/invoke/VarHandle" ∧ (parseMethodDescriptor yX0_append.desc).map (fun d => d.parameters.length) = some 3 := by decide +kernel
theorem hy_X0_clear : yX0_clear.cls = RX0 ∧ yX0_clear.cls ≠ "java/lang/invoke/MethodHandle" ∧ yX0_clear.cls ≠ "java/lang/invoke/VarHandle" ∧ (parseMethodDescriptor yX0_clear.desc).map (fun d => d.parameters.length) = some 0 := by decide +kernel
theorem hy_X0_init : yX0_init.name = "<init>" ∧ yX0_init.cls ≠ "java/lang/invoke/MethodHandle" ∧ yX0_init.cls ≠ "java/lang/invoke/VarHandle" ∧ (parseMethodDescriptor yX0_init.desc).map (fun d => d.parameters.length) = some 0 := by decide +kernel
theorem hy_X0_makeRoom : yX0_makeRoom.cls = RX0 ∧ yX0_makeRoom.cls ≠ "java/lang/invoke/MethodHandle" ∧ yX0_makeRoom.cls ≠ "java/lang/invoke/VarHandle" ∧ (parseMethodDescriptor yX0_makeRoom.desc).map (fun d => d.parameters.length) = some 2 := by decide +kernel
theorem hy_X0_placeFor : yX0_placeFor.cls = RX0 ∧ yX0_placeFor.cls ≠ "java/lang/invoke/MethodHandle" ∧ yX0_placeFor.cls ≠ "java/lang/invoke/VarHandle" ∧ (parseMethodDescriptor yX0_placeFor.desc).map (fun d => d.parameters.length) = some 2 := by decide +kernel
theorem hy_X0_set : yX0_set.cls = RX0 ∧ yX0_set.cls ≠ "java/lang/invoke/MethodHandle" ∧ yX0_set.cls ≠ "java/lang/invoke/VarHandle" ∧ (parseMethodDescriptor yX0_set.desc).map (fun d => d.parameters.length) = some 4 := by decide +kernel
theorem hy_X0_setLikeness : yX0_setLikeness.cls = RX0 ∧ yX0_setLikeness.cls ≠ "java/lang/invoke/MethodHandle" ∧ yX0_setLikeness.cls ≠ "java/lang/invoke/VarHandle" ∧ (parseMethodDescriptor yX0_setLikeness.desc).map (fun d => d.parameters.length) = some 3 := by decide +kernel
theorem hy_X1_init : yX1_init.name = "<init>" ∧ yX1_init.cls ≠ "java/lang/invoke/MethodHandle" ∧ yX1_init.cls ≠ "java/lang/invoke/VarHandle" ∧ (parseMethodDescriptor yX1_init.desc).map (fun d => d.parameters.length) = some 0 := by decide +kernel
theorem hy_X1_isAllowed : yX1_isAllowed.cls ≠ "java/lang/invoke/MethodHandle" ∧ yX1_isAllowed.cls ≠ "java/lang/invoke/VarHandle" ∧ (parseMethodDescriptor yX1_isAllowed.desc).map (fun d => d.parameters.length) = some 3 := by decide +kernel
theorem hy_X1_isReached : yX1_isReached.cls = RX1 ∧ yX1_isReached.cls ≠ "java/lang/invoke/MethodHandle" ∧ yX1_isReached.cls ≠ "java/lang/invoke/VarHandle" ∧ (parseMethodDescriptor yX1_isReached.desc).map (fun d => d.parameters.length) = some 3 := by decide +kernel
theorem hy_X1_least : yX1_least.cls = RX1 ∧ yX1_least.cls ≠ "java/lang/invoke/MethodHandle" ∧ yX1_least.cls ≠ "java/lang/invoke/VarHandle" ∧ (parseMethodDescriptor yX1_least.desc).map (fun d => d.parameters.length) = some 1 := by decide +kernel
theorem hy_X1_likenessAbove : yX1_likenessAbove.cls = RX1 ∧ yX1_likenessAbove.cls ≠ "java/lang/invoke/MethodHandle" ∧ yX1_likenessAbove.cls ≠ "java/lang/invoke/VarHandle" ∧ (parseMethodDescriptor yX1_likenessAbove.desc).map (fun d => d.parameters.length) = some 3 := by decide +kernel
theorem hy_X1_likenessBelow : yX1_likenessBelow.cls = RX1 ∧ yX1_likenessBelow.cls ≠ "java/lang/invoke/MethodHandle" ∧ yX1_likenessBelow.cls ≠ "java/lang/invoke/VarHandle" ∧ (parseMethodDescriptor yX1_likenessBelow.desc).map (fun d => d.parameters.length) = some 3 := by decide +kernel
theorem hy_X1_needed : yX1_needed.cls = RX1 ∧ yX1_needed.cls ≠ "java/lang/invoke/MethodHandle" ∧ yX1_needed.cls ≠ "java/lang/invoke/VarHandle" ∧ (parseMethodDescriptor yX1_needed.desc).map (fun d => d.parameters.length) = some 2 := by decide +kernel
theorem hy_X1_quotientUp : yX1_quotientUp.cls ≠ "java/lang/invoke/MethodHandle" ∧ yX1_quotientUp.cls ≠ "java/lang/invoke/VarHandle" ∧ (parseMethodDescriptor yX1_quotientUp.desc).map (fun d => d.parameters.length) = some 2 := by decide +kernel
theorem hy_X1_rootUp : yX1_rootUp.cls ≠ "java/lang/invoke/MethodHandle" ∧ yX1_rootUp.cls ≠ "java/lang/invoke/VarHandle" ∧ (parseMethodDescriptor yX1_rootUp.desc).map (fun d => d.parameters.length) = some 2 := by decide +kernel
theorem hy_X1_tell : yX1_tell.cls = RX1 ∧ yX1_tell.cls ≠ "java/lang/invoke/MethodHandle" ∧ yX1_tell.cls ≠ "java/lang/invoke/VarHandle" ∧ (parseMethodDescriptor yX1_tell.desc).map (fun d => d.parameters.length) = some 3 := by decide +kernel
theorem hy_X1_withoutDivisor : yX1_withoutDivisor.cls ≠ "java/lang/invoke/MethodHandle" ∧ yX1_withoutDivisor.cls ≠ "java/lang/invoke/VarHandle" ∧ (parseMethodDescriptor yX1_withoutDivisor.desc).map (fun d => d.parameters.length) = some 3 := by decide +kernel
theorem hy_X2_coreOf : yX2_coreOf.cls = RX2 ∧ yX2_coreOf.cls ≠ "java/lang/invoke/MethodHandle" ∧ yX2_coreOf.cls ≠ "java/lang/invoke/VarHandle" ∧ (parseMethodDescriptor yX2_coreOf.desc).map (fun d => d.parameters.length) = some 1 := by decide +kernel
theorem hy_X2_familyOf : yX2_familyOf.cls = RX2 ∧ yX2_familyOf.cls ≠ "java/lang/invoke/MethodHandle" ∧ yX2_familyOf.cls ≠ "java/lang/invoke/VarHandle" ∧ (parseMethodDescriptor yX2_familyOf.desc).map (fun d => d.parameters.length) = some 1 := by decide +kernel
theorem hy_X2_firstStep : yX2_firstStep.cls = RX2 ∧ yX2_firstStep.cls ≠ "java/lang/invoke/MethodHandle" ∧ yX2_firstStep.cls ≠ "java/lang/invoke/VarHandle" ∧ (parseMethodDescriptor yX2_firstStep.desc).map (fun d => d.parameters.length) = some 3 := by decide +kernel
theorem hy_X2_forget : yX2_forget.cls = RX2 ∧ yX2_forget.cls ≠ "java/lang/invoke/MethodHandle" ∧ yX2_forget.cls ≠ "java/lang/invoke/VarHandle" ∧ (parseMethodDescriptor yX2_forget.desc).map (fun d => d.parameters.length) = some 1 := by decide +kernel
theorem hy_X2_friendsOf : yX2_friendsOf.cls = RX2 ∧ yX2_friendsOf.cls ≠ "java/lang/invoke/MethodHandle" ∧ yX2_friendsOf.cls ≠ "java/lang/invoke/VarHandle" ∧ (parseMethodDescriptor yX2_friendsOf.desc).map (fun d => d.parameters.length) = some 1 := by decide +kernel
theorem hy_X2_greatestCore : yX2_greatestCore.cls ≠ "java/lang/invoke/MethodHandle" ∧ yX2_greatestCore.cls ≠ "java/lang/invoke/VarHandle" ∧ (parseMethodDescriptor yX2_greatestCore.desc).map (fun d => d.parameters.length) = some 5 := by decide +kernel
theorem hy_X2_init : yX2_init.name = "<init>" ∧ yX2_init.cls ≠ "java/lang/invoke/MethodHandle" ∧ yX2_init.cls ≠ "java/lang/invoke/VarHandle" ∧ (parseMethodDescriptor yX2_init.desc).map (fun d => d.parameters.length) = some 0 := by decide +kernel
theorem hy_X2_isForgotten : yX2_isForgotten.cls = RX2 ∧ yX2_isForgotten.cls ≠ "java/lang/invoke/MethodHandle" ∧ yX2_isForgotten.cls ≠ "java/lang/invoke/VarHandle" ∧ (parseMethodDescriptor yX2_isForgotten.desc).map (fun d => d.parameters.length) = some 1 := by decide +kernel
theorem hy_X2_know : yX2_know.cls = RX2 ∧ yX2_know.cls ≠ "java/lang/invoke/MethodHandle" ∧ yX2_know.cls ≠ "java/lang/invoke/VarHandle" ∧ (parseMethodDescriptor yX2_know.desc).map (fun d => d.parameters.length) = some 1 := by decide +kernel
theorem hy_X2_leastOf : yX2_leastOf.cls ≠ "java/lang/invoke/MethodHandle" ∧ yX2_leastOf.cls ≠ "java/lang/invoke/VarHandle" ∧ (parseMethodDescriptor yX2_leastOf.desc).map (fun d => d.parameters.length) = some 1 := by decide +kernel
theorem hy_X2_stepsBetween : yX2_stepsBetween.cls = RX2 ∧ yX2_stepsBetween.cls ≠ "java/lang/invoke/MethodHandle" ∧ yX2_stepsBetween.cls ≠ "java/lang/invoke/VarHandle" ∧ (parseMethodDescriptor yX2_stepsBetween.desc).map (fun d => d.parameters.length) = some 2 := by decide +kernel
theorem hy_X2_tie : yX2_tie.cls = RX2 ∧ yX2_tie.cls ≠ "java/lang/invoke/MethodHandle" ∧ yX2_tie.cls ≠ "java/lang/invoke/VarHandle" ∧ (parseMethodDescriptor yX2_tie.desc).map (fun d => d.parameters.length) = some 3 := by decide +kernel
theorem hy_X3_amountBehind : yX3_amountBehind.cls = RX3 ∧ yX3_amountBehind.cls ≠ "java/lang/invoke/MethodHandle" ∧ yX3_amountBehind.cls ≠ "java/lang/invoke/VarHandle" ∧ (parseMethodDescriptor yX3_amountBehind.desc).map (fun d => d.parameters.length) = some 1 := by decide +kernel
theorem hy_X3_clear : yX3_clear.cls = RX3 ∧ yX3_clear.cls ≠ "java/lang/invoke/MethodHandle" ∧ yX3_clear.cls ≠ "java/lang/invoke/VarHandle" ∧ (parseMethodDescriptor yX3_clear.desc).map (fun d => d.parameters.length) = some 0 := by decide +kernel
theorem hy_X3_countBeginning : yX3_countBeginning.cls = RX3 ∧ yX3_countBeginning.cls ≠ "java/lang/invoke/MethodHandle" ∧ yX3_countBeginning.cls ≠ "java/lang/invoke/VarHandle" ∧ (parseMethodDescriptor yX3_countBeginning.desc).map (fun d => d.parameters.length) = some 1 := by decide +kernel
theorem hy_X3_init : yX3_init.name = "<init>" ∧ yX3_init.cls ≠ "java/lang/invoke/MethodHandle" ∧ yX3_init.cls ≠ "java/lang/invoke/VarHandle" ∧ (parseMethodDescriptor yX3_init.desc).map (fun d => d.parameters.length) = some 0 := by decide +kernel
theorem hy_X3_insert : yX3_insert.cls = RX3 ∧ yX3_insert.cls ≠ "java/lang/invoke/MethodHandle" ∧ yX3_insert.cls ≠ "java/lang/invoke/VarHandle" ∧ (parseMethodDescriptor yX3_insert.desc).map (fun d => d.parameters.length) = some 2 := by decide +kernel
theorem hy_X3_keyOf : yX3_keyOf.cls ≠ "java/lang/invoke/MethodHandle" ∧ yX3_keyOf.cls ≠ "java/lang/invoke/VarHandle" ∧ (parseMethodDescriptor yX3_keyOf.desc).map (fun d => d.parameters.length) = some 2 := by decide +kernel
theorem hy_X3_numberAt : yX3_numberAt.cls = RX3 ∧ yX3_numberAt.cls ≠ "java/lang/invoke/MethodHandle" ∧ yX3_numberAt.cls ≠ "java/lang/invoke/VarHandle" ∧ (parseMethodDescriptor yX3_numberAt.desc).map (fun d => d.parameters.length) = some 1 := by decide +kernel
theorem hy_X3_placeOf : yX3_placeOf.cls = RX3 ∧ yX3_placeOf.cls ≠ "java/lang/invoke/MethodHandle" ∧ yX3_placeOf.cls ≠ "java/lang/invoke/VarHandle" ∧ (parseMethodDescriptor yX3_placeOf.desc).map (fun d => d.parameters.length) = some 1 := by decide +kernel
theorem hy_X3_putInOrder : yX3_putInOrder.cls = RX3 ∧ yX3_putInOrder.cls ≠ "java/lang/invoke/MethodHandle" ∧ yX3_putInOrder.cls ≠ "java/lang/invoke/VarHandle" ∧ (parseMethodDescriptor yX3_putInOrder.desc).map (fun d => d.parameters.length) = some 1 := by decide +kernel
theorem hy_X3_remove : yX3_remove.cls = RX3 ∧ yX3_remove.cls ≠ "java/lang/invoke/MethodHandle" ∧ yX3_remove.cls ≠ "java/lang/invoke/VarHandle" ∧ (parseMethodDescriptor yX3_remove.desc).map (fun d => d.parameters.length) = some 1 := by decide +kernel
theorem hy_X3_reweigh : yX3_reweigh.cls = RX3 ∧ yX3_reweigh.cls ≠ "java/lang/invoke/MethodHandle" ∧ yX3_reweigh.cls ≠ "java/lang/invoke/VarHandle" ∧ (parseMethodDescriptor yX3_reweigh.desc).map (fun d => d.parameters.length) = some 2 := by decide +kernel
theorem hy_X4_compare : yX4_compare.cls = RX4 ∧ yX4_compare.cls ≠ "java/lang/invoke/MethodHandle" ∧ yX4_compare.cls ≠ "java/lang/invoke/VarHandle" ∧ (parseMethodDescriptor yX4_compare.desc).map (fun d => d.parameters.length) = some 4 := by decide +kernel
theorem hy_X4_init : yX4_init.name = "<init>" ∧ yX4_init.cls ≠ "java/lang/invoke/MethodHandle" ∧ yX4_init.cls ≠ "java/lang/invoke/VarHandle" ∧ (parseMethodDescriptor yX4_init.desc).map (fun d => d.parameters.length) = some 0 := by decide +kernel
theorem hy_X5_clear : yX5_clear.cls = RX5 ∧ yX5_clear.cls ≠ "java/lang/invoke/MethodHandle" ∧ yX5_clear.cls ≠ "java/lang/invoke/VarHandle" ∧ (parseMethodDescriptor yX5_clear.desc).map (fun d => d.parameters.length) = some 0 := by decide +kernel
theorem hy_X5_init : yX5_init.name = "<init>" ∧ yX5_init.cls ≠ "java/lang/invoke/MethodHandle" ∧ yX5_init.cls ≠ "java/lang/invoke/VarHandle" ∧ (parseMethodDescriptor yX5_init.desc).map (fun d => d.parameters.length) = some 1 := by decide +kernel
theorem hy_X5_isAt : yX5_isAt.cls = RX5 ∧ yX5_isAt.cls ≠ "java/lang/invoke/MethodHandle" ∧ yX5_isAt.cls ≠ "java/lang/invoke/VarHandle" ∧ (parseMethodDescriptor yX5_isAt.desc).map (fun d => d.parameters.length) = some 2 := by decide +kernel
theorem hy_X5_placeOf : yX5_placeOf.cls = RX5 ∧ yX5_placeOf.cls ≠ "java/lang/invoke/MethodHandle" ∧ yX5_placeOf.cls ≠ "java/lang/invoke/VarHandle" ∧ (parseMethodDescriptor yX5_placeOf.desc).map (fun d => d.parameters.length) = some 1 := by decide +kernel
theorem hy_X5_raise : yX5_raise.cls = RX5 ∧ yX5_raise.cls ≠ "java/lang/invoke/MethodHandle" ∧ yX5_raise.cls ≠ "java/lang/invoke/VarHandle" ∧ (parseMethodDescriptor yX5_raise.desc).map (fun d => d.parameters.length) = some 1 := by decide +kernel
theorem hy_X5_valueOf : yX5_valueOf.cls = RX5 ∧ yX5_valueOf.cls ≠ "java/lang/invoke/MethodHandle" ∧ yX5_valueOf.cls ≠ "java/lang/invoke/VarHandle" ∧ (parseMethodDescriptor yX5_valueOf.desc).map (fun d => d.parameters.length) = some 2 := by decide +kernel
theorem hy_X5_write : yX5_write.cls = RX5 ∧ yX5_write.cls ≠ "java/lang/invoke/MethodHandle" ∧ yX5_write.cls ≠ "java/lang/invoke/VarHandle" ∧ (parseMethodDescriptor yX5_write.desc).map (fun d => d.parameters.length) = some 2 := by decide +kernel
theorem hy_X6_append : yX6_append.cls = RX6 ∧ yX6_append.cls ≠ "java/lang/invoke/MethodHandle" ∧ yX6_append.cls ≠ "java/lang/invoke/VarHandle" ∧ (parseMethodDescriptor yX6_append.desc).map (fun d => d.parameters.length) = some 1 := by decide +kernel
theorem hy_X6_countLikeOnesAhead : yX6_countLikeOnesAhead.cls = RX6 ∧ yX6_countLikeOnesAhead.cls ≠ "java/lang/invoke/MethodHandle" ∧ yX6_countLikeOnesAhead.cls ≠ "java/lang/invoke/VarHandle" ∧ (parseMethodDescriptor yX6_countLikeOnesAhead.desc).map (fun d => d.parameters.length) = some 2 := by decide +kernel
theorem hy_X6_cut : yX6_cut.cls = RX6 ∧ yX6_cut.cls ≠ "java/lang/invoke/MethodHandle" ∧ yX6_cut.cls ≠ "java/lang/invoke/VarHandle" ∧ (parseMethodDescriptor yX6_cut.desc).map (fun d => d.parameters.length) = some 1 := by decide +kernel
theorem hy_X6_findNumbers : yX6_findNumbers.cls = RX6 ∧ yX6_findNumbers.cls ≠ "java/lang/invoke/MethodHandle" ∧ yX6_findNumbers.cls ≠ "java/lang/invoke/VarHandle" ∧ (parseMethodDescriptor yX6_findNumbers.desc).map (fun d => d.parameters.length) = some 1 := by decide +kernel
theorem hy_X6_hasRoomFor : yX6_hasRoomFor.cls = RX6 ∧ yX6_hasRoomFor.cls ≠ "java/lang/invoke/MethodHandle" ∧ yX6_hasRoomFor.cls ≠ "java/lang/invoke/VarHandle" ∧ (parseMethodDescriptor yX6_hasRoomFor.desc).map (fun d => d.parameters.length) = some 1 := by decide +kernel
theorem hy_X6_init : yX6_init.name = "<init>" ∧ yX6_init.cls ≠ "java/lang/invoke/MethodHandle" ∧ yX6_init.cls ≠ "java/lang/invoke/VarHandle" ∧ (parseMethodDescriptor yX6_init.desc).map (fun d => d.parameters.length) = some 0 := by decide +kernel
theorem hy_X6_pieceAt : yX6_pieceAt.cls = RX6 ∧ yX6_pieceAt.cls ≠ "java/lang/invoke/MethodHandle" ∧ yX6_pieceAt.cls ≠ "java/lang/invoke/VarHandle" ∧ (parseMethodDescriptor yX6_pieceAt.desc).map (fun d => d.parameters.length) = some 2 := by decide +kernel
theorem hy_X7_about : yX7_about.cls = RX7 ∧ yX7_about.cls ≠ "java/lang/invoke/MethodHandle" ∧ yX7_about.cls ≠ "java/lang/invoke/VarHandle" ∧ (parseMethodDescriptor yX7_about.desc).map (fun d => d.parameters.length) = some 2 := by decide +kernel
theorem hy_X7_arePair : yX7_arePair.cls = RX7 ∧ yX7_arePair.cls ≠ "java/lang/invoke/MethodHandle" ∧ yX7_arePair.cls ≠ "java/lang/invoke/VarHandle" ∧ (parseMethodDescriptor yX7_arePair.desc).map (fun d => d.parameters.length) = some 2 := by decide +kernel
theorem hy_X7_at : yX7_at.cls = RX7 ∧ yX7_at.cls ≠ "java/lang/invoke/MethodHandle" ∧ yX7_at.cls ≠ "java/lang/invoke/VarHandle" ∧ (parseMethodDescriptor yX7_at.desc).map (fun d => d.parameters.length) = some 2 := by decide +kernel
theorem hy_X7_beginningOf : yX7_beginningOf.cls = RX7 ∧ yX7_beginningOf.cls ≠ "java/lang/invoke/MethodHandle" ∧ yX7_beginningOf.cls ≠ "java/lang/invoke/VarHandle" ∧ (parseMethodDescriptor yX7_beginningOf.desc).map (fun d => d.parameters.length) = some 1 := by decide +kernel
theorem hy_X7_chain : yX7_chain.cls = RX7 ∧ yX7_chain.cls ≠ "java/lang/invoke/MethodHandle" ∧ yX7_chain.cls ≠ "java/lang/invoke/VarHandle" ∧ (parseMethodDescriptor yX7_chain.desc).map (fun d => d.parameters.length) = some 2 := by decide +kernel
theorem hy_X7_core : yX7_core.cls = RX7 ∧ yX7_core.cls ≠ "java/lang/invoke/MethodHandle" ∧ yX7_core.cls ≠ "java/lang/invoke/VarHandle" ∧ (parseMethodDescriptor yX7_core.desc).map (fun d => d.parameters.length) = some 1 := by decide +kernel
theorem hy_X7_count : yX7_count.cls = RX7 ∧ yX7_count.cls ≠ "java/lang/invoke/MethodHandle" ∧ yX7_count.cls ≠ "java/lang/invoke/VarHandle" ∧ (parseMethodDescriptor yX7_count.desc).map (fun d => d.parameters.length) = some 1 := by decide +kernel
theorem hy_X7_countFamilies : yX7_countFamilies.cls = RX7 ∧ yX7_countFamilies.cls ≠ "java/lang/invoke/MethodHandle" ∧ yX7_countFamilies.cls ≠ "java/lang/invoke/VarHandle" ∧ (parseMethodDescriptor yX7_countFamilies.desc).map (fun d => d.parameters.length) = some 0 := by decide +kernel
theorem hy_X7_countNumbers : yX7_countNumbers.cls = RX7 ∧ yX7_countNumbers.cls ≠ "java/lang/invoke/MethodHandle" ∧ yX7_countNumbers.cls ≠ "java/lang/invoke/VarHandle" ∧ (parseMethodDescriptor yX7_countNumbers.desc).map (fun d => d.parameters.length) = some 0 := by decide +kernel
theorem hy_X7_countRecords : yX7_countRecords.cls = RX7 ∧ yX7_countRecords.cls ≠ "java/lang/invoke/MethodHandle" ∧ yX7_countRecords.cls ≠ "java/lang/invoke/VarHandle" ∧ (parseMethodDescriptor yX7_countRecords.desc).map (fun d => d.parameters.length) = some 0 := by decide +kernel
theorem hy_X7_drop : yX7_drop.cls = RX7 ∧ yX7_drop.cls ≠ "java/lang/invoke/MethodHandle" ∧ yX7_drop.cls ≠ "java/lang/invoke/VarHandle" ∧ (parseMethodDescriptor yX7_drop.desc).map (fun d => d.parameters.length) = some 1 := by decide +kernel
theorem hy_X7_end : yX7_end.cls = RX7 ∧ yX7_end.cls ≠ "java/lang/invoke/MethodHandle" ∧ yX7_end.cls ≠ "java/lang/invoke/VarHandle" ∧ (parseMethodDescriptor yX7_end.desc).map (fun d => d.parameters.length) = some 1 := by decide +kernel
theorem hy_X7_fateOf : yX7_fateOf.cls = RX7 ∧ yX7_fateOf.cls ≠ "java/lang/invoke/MethodHandle" ∧ yX7_fateOf.cls ≠ "java/lang/invoke/VarHandle" ∧ (parseMethodDescriptor yX7_fateOf.desc).map (fun d => d.parameters.length) = some 4 := by decide +kernel
theorem hy_X7_feed : yX7_feed.cls = RX7 ∧ yX7_feed.cls ≠ "java/lang/invoke/MethodHandle" ∧ yX7_feed.cls ≠ "java/lang/invoke/VarHandle" ∧ (parseMethodDescriptor yX7_feed.desc).map (fun d => d.parameters.length) = some 5 := by decide +kernel
theorem hy_X7_frequency : yX7_frequency.cls = RX7 ∧ yX7_frequency.cls ≠ "java/lang/invoke/MethodHandle" ∧ yX7_frequency.cls ≠ "java/lang/invoke/VarHandle" ∧ (parseMethodDescriptor yX7_frequency.desc).map (fun d => d.parameters.length) = some 1 := by decide +kernel
theorem hy_X7_freshNet : yX7_freshNet.cls = RX7 ∧ yX7_freshNet.cls ≠ "java/lang/invoke/MethodHandle" ∧ yX7_freshNet.cls ≠ "java/lang/invoke/VarHandle" ∧ (parseMethodDescriptor yX7_freshNet.desc).map (fun d => d.parameters.length) = some 0 := by decide +kernel
theorem hy_X7_init : yX7_init.name = "<init>" ∧ yX7_init.cls ≠ "java/lang/invoke/MethodHandle" ∧ yX7_init.cls ≠ "java/lang/invoke/VarHandle" ∧ (parseMethodDescriptor yX7_init.desc).map (fun d => d.parameters.length) = some 0 := by decide +kernel
theorem hy_X7_isNumber : yX7_isNumber.cls ≠ "java/lang/invoke/MethodHandle" ∧ yX7_isNumber.cls ≠ "java/lang/invoke/VarHandle" ∧ (parseMethodDescriptor yX7_isNumber.desc).map (fun d => d.parameters.length) = some 1 := by decide +kernel
theorem hy_X7_like : yX7_like.cls = RX7 ∧ yX7_like.cls ≠ "java/lang/invoke/MethodHandle" ∧ yX7_like.cls ≠ "java/lang/invoke/VarHandle" ∧ (parseMethodDescriptor yX7_like.desc).map (fun d => d.parameters.length) = some 3 := by decide +kernel
theorem hy_X7_measure : yX7_measure.cls = RX7 ∧ yX7_measure.cls ≠ "java/lang/invoke/MethodHandle" ∧ yX7_measure.cls ≠ "java/lang/invoke/VarHandle" ∧ (parseMethodDescriptor yX7_measure.desc).map (fun d => d.parameters.length) = some 3 := by decide +kernel
theorem hy_X7_member : yX7_member.cls = RX7 ∧ yX7_member.cls ≠ "java/lang/invoke/MethodHandle" ∧ yX7_member.cls ≠ "java/lang/invoke/VarHandle" ∧ (parseMethodDescriptor yX7_member.desc).map (fun d => d.parameters.length) = some 1 := by decide +kernel
theorem hy_X7_next : yX7_next.cls = RX7 ∧ yX7_next.cls ≠ "java/lang/invoke/MethodHandle" ∧ yX7_next.cls ≠ "java/lang/invoke/VarHandle" ∧ (parseMethodDescriptor yX7_next.desc).map (fun d => d.parameters.length) = some 2 := by decide +kernel
theorem hy_X7_order : yX7_order.cls = RX7 ∧ yX7_order.cls ≠ "java/lang/invoke/MethodHandle" ∧ yX7_order.cls ≠ "java/lang/invoke/VarHandle" ∧ (parseMethodDescriptor yX7_order.desc).map (fun d => d.parameters.length) = some 0 := by decide +kernel
theorem hy_X7_pair : yX7_pair.cls = RX7 ∧ yX7_pair.cls ≠ "java/lang/invoke/MethodHandle" ∧ yX7_pair.cls ≠ "java/lang/invoke/VarHandle" ∧ (parseMethodDescriptor yX7_pair.desc).map (fun d => d.parameters.length) = some 2 := by decide +kernel
theorem hy_X7_pairs : yX7_pairs.cls = RX7 ∧ yX7_pairs.cls ≠ "java/lang/invoke/MethodHandle" ∧ yX7_pairs.cls ≠ "java/lang/invoke/VarHandle" ∧ (parseMethodDescriptor yX7_pairs.desc).map (fun d => d.parameters.length) = some 0 := by decide +kernel
theorem hy_X7_put : yX7_put.cls = RX7 ∧ yX7_put.cls ≠ "java/lang/invoke/MethodHandle" ∧ yX7_put.cls ≠ "java/lang/invoke/VarHandle" ∧ (parseMethodDescriptor yX7_put.desc).map (fun d => d.parameters.length) = some 2 := by decide +kernel
theorem hy_X7_rank : yX7_rank.cls = RX7 ∧ yX7_rank.cls ≠ "java/lang/invoke/MethodHandle" ∧ yX7_rank.cls ≠ "java/lang/invoke/VarHandle" ∧ (parseMethodDescriptor yX7_rank.desc).map (fun d => d.parameters.length) = some 3 := by decide +kernel
theorem hy_X7_record : yX7_record.cls = RX7 ∧ yX7_record.cls ≠ "java/lang/invoke/MethodHandle" ∧ yX7_record.cls ≠ "java/lang/invoke/VarHandle" ∧ (parseMethodDescriptor yX7_record.desc).map (fun d => d.parameters.length) = some 0 := by decide +kernel
theorem hy_X7_setOf : yX7_setOf.cls = RX7 ∧ yX7_setOf.cls ≠ "java/lang/invoke/MethodHandle" ∧ yX7_setOf.cls ≠ "java/lang/invoke/VarHandle" ∧ (parseMethodDescriptor yX7_setOf.desc).map (fun d => d.parameters.length) = some 1 := by decide +kernel
theorem hy_X7_sift : yX7_sift.cls = RX7 ∧ yX7_sift.cls ≠ "java/lang/invoke/MethodHandle" ∧ yX7_sift.cls ≠ "java/lang/invoke/VarHandle" ∧ (parseMethodDescriptor yX7_sift.desc).map (fun d => d.parameters.length) = some 2 := by decide +kernel
theorem hy_X7_startSieve : yX7_startSieve.cls = RX7 ∧ yX7_startSieve.cls ≠ "java/lang/invoke/MethodHandle" ∧ yX7_startSieve.cls ≠ "java/lang/invoke/VarHandle" ∧ (parseMethodDescriptor yX7_startSieve.desc).map (fun d => d.parameters.length) = some 0 := by decide +kernel
theorem hy_X7_take : yX7_take.cls = RX7 ∧ yX7_take.cls ≠ "java/lang/invoke/MethodHandle" ∧ yX7_take.cls ≠ "java/lang/invoke/VarHandle" ∧ (parseMethodDescriptor yX7_take.desc).map (fun d => d.parameters.length) = some 2 := by decide +kernel
theorem hy_X7_text : yX7_text.cls = RX7 ∧ yX7_text.cls ≠ "java/lang/invoke/MethodHandle" ∧ yX7_text.cls ≠ "java/lang/invoke/VarHandle" ∧ (parseMethodDescriptor yX7_text.desc).map (fun d => d.parameters.length) = some 2 := by decide +kernel
theorem hy_X7_top : yX7_top.cls = RX7 ∧ yX7_top.cls ≠ "java/lang/invoke/MethodHandle" ∧ yX7_top.cls ≠ "java/lang/invoke/VarHandle" ∧ (parseMethodDescriptor yX7_top.desc).map (fun d => d.parameters.length) = some 1 := by decide +kernel
theorem hy_X7_weighAll : yX7_weighAll.cls = RX7 ∧ yX7_weighAll.cls ≠ "java/lang/invoke/MethodHandle" ∧ yX7_weighAll.cls ≠ "java/lang/invoke/VarHandle" ∧ (parseMethodDescriptor yX7_weighAll.desc).map (fun d => d.parameters.length) = some 0 := by decide +kernel
theorem hy_X7_weight : yX7_weight.cls = RX7 ∧ yX7_weight.cls ≠ "java/lang/invoke/MethodHandle" ∧ yX7_weight.cls ≠ "java/lang/invoke/VarHandle" ∧ (parseMethodDescriptor yX7_weight.desc).map (fun d => d.parameters.length) = some 2 := by decide +kernel
theorem hy_X7_weightOf : yX7_weightOf.cls = RX7 ∧ yX7_weightOf.cls ≠ "java/lang/invoke/MethodHandle" ∧ yX7_weightOf.cls ≠ "java/lang/invoke/VarHandle" ∧ (parseMethodDescriptor yX7_weightOf.desc).map (fun d => d.parameters.length) = some 1 := by decide +kernel
theorem hy_X7_why : yX7_why.cls = RX7 ∧ yX7_why.cls ≠ "java/lang/invoke/MethodHandle" ∧ yX7_why.cls ≠ "java/lang/invoke/VarHandle" ∧ (parseMethodDescriptor yX7_why.desc).map (fun d => d.parameters.length) = some 2 := by decide +kernel
theorem hy_X8_about : yX8_about.cls = RX8 ∧ yX8_about.cls ≠ "java/lang/invoke/MethodHandle" ∧ yX8_about.cls ≠ "java/lang/invoke/VarHandle" ∧ (parseMethodDescriptor yX8_about.desc).map (fun d => d.parameters.length) = some 2 := by decide +kernel
theorem hy_X8_above : yX8_above.cls = RX8 ∧ yX8_above.cls ≠ "java/lang/invoke/MethodHandle" ∧ yX8_above.cls ≠ "java/lang/invoke/VarHandle" ∧ (parseMethodDescriptor yX8_above.desc).map (fun d => d.parameters.length) = some 3 := by decide +kernel
theorem hy_X8_amount : yX8_amount.cls = RX8 ∧ yX8_amount.cls ≠ "java/lang/invoke/MethodHandle" ∧ yX8_amount.cls ≠ "java/lang/invoke/VarHandle" ∧ (parseMethodDescriptor yX8_amount.desc).map (fun d => d.parameters.length) = some 3 := by decide +kernel
theorem hy_X8_amountOf : yX8_amountOf.cls = RX8 ∧ yX8_amountOf.cls ≠ "java/lang/invoke/MethodHandle" ∧ yX8_amountOf.cls ≠ "java/lang/invoke/VarHandle" ∧ (parseMethodDescriptor yX8_amountOf.desc).map (fun d => d.parameters.length) = some 1 := by decide +kernel
theorem hy_X8_at : yX8_at.cls = RX8 ∧ yX8_at.cls ≠ "java/lang/invoke/MethodHandle" ∧ yX8_at.cls ≠ "java/lang/invoke/VarHandle" ∧ (parseMethodDescriptor yX8_at.desc).map (fun d => d.parameters.length) = some 2 := by decide +kernel
theorem hy_X8_beginning : yX8_beginning.cls = RX8 ∧ yX8_beginning.cls ≠ "java/lang/invoke/MethodHandle" ∧ yX8_beginning.cls ≠ "java/lang/invoke/VarHandle" ∧ (parseMethodDescriptor yX8_beginning.desc).map (fun d => d.parameters.length) = some 2 := by decide +kernel
theorem hy_X8_below : yX8_below.cls = RX8 ∧ yX8_below.cls ≠ "java/lang/invoke/MethodHandle" ∧ yX8_below.cls ≠ "java/lang/invoke/VarHandle" ∧ (parseMethodDescriptor yX8_below.desc).map (fun d => d.parameters.length) = some 3 := by decide +kernel
theorem hy_X8_chain : yX8_chain.cls = RX8 ∧ yX8_chain.cls ≠ "java/lang/invoke/MethodHandle" ∧ yX8_chain.cls ≠ "java/lang/invoke/VarHandle" ∧ (parseMethodDescriptor yX8_chain.desc).map (fun d => d.parameters.length) = some 2 := by decide +kernel
theorem hy_X8_core : yX8_core.cls = RX8 ∧ yX8_core.cls ≠ "java/lang/invoke/MethodHandle" ∧ yX8_core.cls ≠ "java/lang/invoke/VarHandle" ∧ (parseMethodDescriptor yX8_core.desc).map (fun d => d.parameters.length) = some 1 := by decide +kernel
theorem hy_X8_count : yX8_count.cls = RX8 ∧ yX8_count.cls ≠ "java/lang/invoke/MethodHandle" ∧ yX8_count.cls ≠ "java/lang/invoke/VarHandle" ∧ (parseMethodDescriptor yX8_count.desc).map (fun d => d.parameters.length) = some 1 := by decide +kernel
theorem hy_X8_divisor : yX8_divisor.cls ≠ "java/lang/invoke/MethodHandle" ∧ yX8_divisor.cls ≠ "java/lang/invoke/VarHandle" ∧ (parseMethodDescriptor yX8_divisor.desc).map (fun d => d.parameters.length) = some 2 := by decide +kernel
theorem hy_X8_drop : yX8_drop.cls = RX8 ∧ yX8_drop.cls ≠ "java/lang/invoke/MethodHandle" ∧ yX8_drop.cls ≠ "java/lang/invoke/VarHandle" ∧ (parseMethodDescriptor yX8_drop.desc).map (fun d => d.parameters.length) = some 1 := by decide +kernel
theorem hy_X8_end : yX8_end.cls = RX8 ∧ yX8_end.cls ≠ "java/lang/invoke/MethodHandle" ∧ yX8_end.cls ≠ "java/lang/invoke/VarHandle" ∧ (parseMethodDescriptor yX8_end.desc).map (fun d => d.parameters.length) = some 1 := by decide +kernel
theorem hy_X8_feed : yX8_feed.cls = RX8 ∧ yX8_feed.cls ≠ "java/lang/invoke/MethodHandle" ∧ yX8_feed.cls ≠ "java/lang/invoke/VarHandle" ∧ (parseMethodDescriptor yX8_feed.desc).map (fun d => d.parameters.length) = some 5 := by decide +kernel
theorem hy_X8_four : yX8_four.cls = RX8 ∧ yX8_four.cls ≠ "java/lang/invoke/MethodHandle" ∧ yX8_four.cls ≠ "java/lang/invoke/VarHandle" ∧ (parseMethodDescriptor yX8_four.desc).map (fun d => d.parameters.length) = some 1 := by decide +kernel
theorem hy_X8_frequency : yX8_frequency.cls = RX8 ∧ yX8_frequency.cls ≠ "java/lang/invoke/MethodHandle" ∧ yX8_frequency.cls ≠ "java/lang/invoke/VarHandle" ∧ (parseMethodDescriptor yX8_frequency.desc).map (fun d => d.parameters.length) = some 1 := by decide +kernel
theorem hy_X8_frequencyOf : yX8_frequencyOf.cls = RX8 ∧ yX8_frequencyOf.cls ≠ "java/lang/invoke/MethodHandle" ∧ yX8_frequencyOf.cls ≠ "java/lang/invoke/VarHandle" ∧ (parseMethodDescriptor yX8_frequencyOf.desc).map (fun d => d.parameters.length) = some 1 := by decide +kernel
theorem hy_X8_grow : yX8_grow.cls = RX8 ∧ yX8_grow.cls ≠ "java/lang/invoke/MethodHandle" ∧ yX8_grow.cls ≠ "java/lang/invoke/VarHandle" ∧ (parseMethodDescriptor yX8_grow.desc).map (fun d => d.parameters.length) = some 4 := by decide +kernel
theorem hy_X8_in : yX8_in.cls ≠ "java/lang/invoke/MethodHandle" ∧ yX8_in.cls ≠ "java/lang/invoke/VarHandle" ∧ (parseMethodDescriptor yX8_in.desc).map (fun d => d.parameters.length) = some 3 := by decide +kernel
theorem hy_X8_init : yX8_init.name = "<init>" ∧ yX8_init.cls ≠ "java/lang/invoke/MethodHandle" ∧ yX8_init.cls ≠ "java/lang/invoke/VarHandle" ∧ (parseMethodDescriptor yX8_init.desc).map (fun d => d.parameters.length) = some 0 := by decide +kernel
theorem hy_X8_is : yX8_is.cls = RX8 ∧ yX8_is.cls ≠ "java/lang/invoke/MethodHandle" ∧ yX8_is.cls ≠ "java/lang/invoke/VarHandle" ∧ (parseMethodDescriptor yX8_is.desc).map (fun d => d.parameters.length) = some 1 := by decide +kernel
theorem hy_X8_isAhead : yX8_isAhead.cls = RX8 ∧ yX8_isAhead.cls ≠ "java/lang/invoke/MethodHandle" ∧ yX8_isAhead.cls ≠ "java/lang/invoke/VarHandle" ∧ (parseMethodDescriptor yX8_isAhead.desc).map (fun d => d.parameters.length) = some 2 := by decide +kernel
theorem hy_X8_isLiker : yX8_isLiker.cls = RX8 ∧ yX8_isLiker.cls ≠ "java/lang/invoke/MethodHandle" ∧ yX8_isLiker.cls ≠ "java/lang/invoke/VarHandle" ∧ (parseMethodDescriptor yX8_isLiker.desc).map (fun d => d.parameters.length) = some 4 := by decide +kernel
theorem hy_X8_isNumber : yX8_isNumber.cls ≠ "java/lang/invoke/MethodHandle" ∧ yX8_isNumber.cls ≠ "java/lang/invoke/VarHandle" ∧ (parseMethodDescriptor yX8_isNumber.desc).map (fun d => d.parameters.length) = some 1 := by decide +kernel
theorem hy_X8_isPair : yX8_isPair.cls = RX8 ∧ yX8_isPair.cls ≠ "java/lang/invoke/MethodHandle" ∧ yX8_isPair.cls ≠ "java/lang/invoke/VarHandle" ∧ (parseMethodDescriptor yX8_isPair.desc).map (fun d => d.parameters.length) = some 2 := by decide +kernel
theorem hy_X8_isTwo : yX8_isTwo.cls = RX8 ∧ yX8_isTwo.cls ≠ "java/lang/invoke/MethodHandle" ∧ yX8_isTwo.cls ≠ "java/lang/invoke/VarHandle" ∧ (parseMethodDescriptor yX8_isTwo.desc).map (fun d => d.parameters.length) = some 2 := by decide +kernel
theorem hy_X8_keep : yX8_keep.cls = RX8 ∧ yX8_keep.cls ≠ "java/lang/invoke/MethodHandle" ∧ yX8_keep.cls ≠ "java/lang/invoke/VarHandle" ∧ (parseMethodDescriptor yX8_keep.desc).map (fun d => d.parameters.length) = some 3 := by decide +kernel
theorem hy_X8_least : yX8_least.cls = RX8 ∧ yX8_least.cls ≠ "java/lang/invoke/MethodHandle" ∧ yX8_least.cls ≠ "java/lang/invoke/VarHandle" ∧ (parseMethodDescriptor yX8_least.desc).map (fun d => d.parameters.length) = some 1 := by decide +kernel
theorem hy_X8_like : yX8_like.cls = RX8 ∧ yX8_like.cls ≠ "java/lang/invoke/MethodHandle" ∧ yX8_like.cls ≠ "java/lang/invoke/VarHandle" ∧ (parseMethodDescriptor yX8_like.desc).map (fun d => d.parameters.length) = some 3 := by decide +kernel
theorem hy_X8_measure : yX8_measure.cls = RX8 ∧ yX8_measure.cls ≠ "java/lang/invoke/MethodHandle" ∧ yX8_measure.cls ≠ "java/lang/invoke/VarHandle" ∧ (parseMethodDescriptor yX8_measure.desc).map (fun d => d.parameters.length) = some 3 := by decide +kernel
theorem hy_X8_member : yX8_member.cls = RX8 ∧ yX8_member.cls ≠ "java/lang/invoke/MethodHandle" ∧ yX8_member.cls ≠ "java/lang/invoke/VarHandle" ∧ (parseMethodDescriptor yX8_member.desc).map (fun d => d.parameters.length) = some 1 := by decide +kernel
theorem hy_X8_needed : yX8_needed.cls = RX8 ∧ yX8_needed.cls ≠ "java/lang/invoke/MethodHandle" ∧ yX8_needed.cls ≠ "java/lang/invoke/VarHandle" ∧ (parseMethodDescriptor yX8_needed.desc).map (fun d => d.parameters.length) = some 2 := by decide +kernel
theorem hy_X8_next : yX8_next.cls = RX8 ∧ yX8_next.cls ≠ "java/lang/invoke/MethodHandle" ∧ yX8_next.cls ≠ "java/lang/invoke/VarHandle" ∧ (parseMethodDescriptor yX8_next.desc).map (fun d => d.parameters.length) = some 2 := by decide +kernel
theorem hy_X8_order : yX8_order.cls = RX8 ∧ yX8_order.cls ≠ "java/lang/invoke/MethodHandle" ∧ yX8_order.cls ≠ "java/lang/invoke/VarHandle" ∧ (parseMethodDescriptor yX8_order.desc).map (fun d => d.parameters.length) = some 0 := by decide +kernel
theorem hy_X8_pair : yX8_pair.cls = RX8 ∧ yX8_pair.cls ≠ "java/lang/invoke/MethodHandle" ∧ yX8_pair.cls ≠ "java/lang/invoke/VarHandle" ∧ (parseMethodDescriptor yX8_pair.desc).map (fun d => d.parameters.length) = some 2 := by decide +kernel
theorem hy_X8_pairs : yX8_pairs.cls = RX8 ∧ yX8_pairs.cls ≠ "java/lang/invoke/MethodHandle" ∧ yX8_pairs.cls ≠ "java/lang/invoke/VarHandle" ∧ (parseMethodDescriptor yX8_pairs.desc).map (fun d => d.parameters.length) = some 0 := by decide +kernel
theorem hy_X8_piece : yX8_piece.cls = RX8 ∧ yX8_piece.cls ≠ "java/lang/invoke/MethodHandle" ∧ yX8_piece.cls ≠ "java/lang/invoke/VarHandle" ∧ (parseMethodDescriptor yX8_piece.desc).map (fun d => d.parameters.length) = some 2 := by decide +kernel
theorem hy_X8_place : yX8_place.cls = RX8 ∧ yX8_place.cls ≠ "java/lang/invoke/MethodHandle" ∧ yX8_place.cls ≠ "java/lang/invoke/VarHandle" ∧ (parseMethodDescriptor yX8_place.desc).map (fun d => d.parameters.length) = some 2 := by decide +kernel
theorem hy_X8_place0 : yX8_place0.cls = RX8 ∧ yX8_place0.cls ≠ "java/lang/invoke/MethodHandle" ∧ yX8_place0.cls ≠ "java/lang/invoke/VarHandle" ∧ (parseMethodDescriptor yX8_place0.desc).map (fun d => d.parameters.length) = some 2 := by decide +kernel
theorem hy_X8_put : yX8_put.cls = RX8 ∧ yX8_put.cls ≠ "java/lang/invoke/MethodHandle" ∧ yX8_put.cls ≠ "java/lang/invoke/VarHandle" ∧ (parseMethodDescriptor yX8_put.desc).map (fun d => d.parameters.length) = some 2 := by decide +kernel
theorem hy_X8_record : yX8_record.cls = RX8 ∧ yX8_record.cls ≠ "java/lang/invoke/MethodHandle" ∧ yX8_record.cls ≠ "java/lang/invoke/VarHandle" ∧ (parseMethodDescriptor yX8_record.desc).map (fun d => d.parameters.length) = some 0 := by decide +kernel
theorem hy_X8_shared : yX8_shared.cls = RX8 ∧ yX8_shared.cls ≠ "java/lang/invoke/MethodHandle" ∧ yX8_shared.cls ≠ "java/lang/invoke/VarHandle" ∧ (parseMethodDescriptor yX8_shared.desc).map (fun d => d.parameters.length) = some 2 := by decide +kernel
theorem hy_X8_sort : yX8_sort.cls = RX8 ∧ yX8_sort.cls ≠ "java/lang/invoke/MethodHandle" ∧ yX8_sort.cls ≠ "java/lang/invoke/VarHandle" ∧ (parseMethodDescriptor yX8_sort.desc).map (fun d => d.parameters.length) = some 2 := by decide +kernel
theorem hy_X8_spent : yX8_spent.cls = RX8 ∧ yX8_spent.cls ≠ "java/lang/invoke/MethodHandle" ∧ yX8_spent.cls ≠ "java/lang/invoke/VarHandle" ∧ (parseMethodDescriptor yX8_spent.desc).map (fun d => d.parameters.length) = some 0 := by decide +kernel
theorem hy_X8_steps : yX8_steps.cls = RX8 ∧ yX8_steps.cls ≠ "java/lang/invoke/MethodHandle" ∧ yX8_steps.cls ≠ "java/lang/invoke/VarHandle" ∧ (parseMethodDescriptor yX8_steps.desc).map (fun d => d.parameters.length) = some 1 := by decide +kernel
theorem hy_X8_take : yX8_take.cls = RX8 ∧ yX8_take.cls ≠ "java/lang/invoke/MethodHandle" ∧ yX8_take.cls ≠ "java/lang/invoke/VarHandle" ∧ (parseMethodDescriptor yX8_take.desc).map (fun d => d.parameters.length) = some 2 := by decide +kernel
theorem hy_X8_text : yX8_text.cls = RX8 ∧ yX8_text.cls ≠ "java/lang/invoke/MethodHandle" ∧ yX8_text.cls ≠ "java/lang/invoke/VarHandle" ∧ (parseMethodDescriptor yX8_text.desc).map (fun d => d.parameters.length) = some 2 := by decide +kernel
theorem hy_X8_thrown : yX8_thrown.cls = RX8 ∧ yX8_thrown.cls ≠ "java/lang/invoke/MethodHandle" ∧ yX8_thrown.cls ≠ "java/lang/invoke/VarHandle" ∧ (parseMethodDescriptor yX8_thrown.desc).map (fun d => d.parameters.length) = some 0 := by decide +kernel
theorem hy_X8_top : yX8_top.cls = RX8 ∧ yX8_top.cls ≠ "java/lang/invoke/MethodHandle" ∧ yX8_top.cls ≠ "java/lang/invoke/VarHandle" ∧ (parseMethodDescriptor yX8_top.desc).map (fun d => d.parameters.length) = some 1 := by decide +kernel
theorem hy_X8_up : yX8_up.cls ≠ "java/lang/invoke/MethodHandle" ∧ yX8_up.cls ≠ "java/lang/invoke/VarHandle" ∧ (parseMethodDescriptor yX8_up.desc).map (fun d => d.parameters.length) = some 2 := by decide +kernel
theorem hy_X8_weight : yX8_weight.cls = RX8 ∧ yX8_weight.cls ≠ "java/lang/invoke/MethodHandle" ∧ yX8_weight.cls ≠ "java/lang/invoke/VarHandle" ∧ (parseMethodDescriptor yX8_weight.desc).map (fun d => d.parameters.length) = some 2 := by decide +kernel
theorem hy_X8_weightOf : yX8_weightOf.cls = RX8 ∧ yX8_weightOf.cls ≠ "java/lang/invoke/MethodHandle" ∧ yX8_weightOf.cls ≠ "java/lang/invoke/VarHandle" ∧ (parseMethodDescriptor yX8_weightOf.desc).map (fun d => d.parameters.length) = some 1 := by decide +kernel
theorem hy_X8_why : yX8_why.cls = RX8 ∧ yX8_why.cls ≠ "java/lang/invoke/MethodHandle" ∧ yX8_why.cls ≠ "java/lang/invoke/VarHandle" ∧ (parseMethodDescriptor yX8_why.desc).map (fun d => d.parameters.length) = some 2 := by decide +kernel
theorem hy_X8_whyOf : yX8_whyOf.cls = RX8 ∧ yX8_whyOf.cls ≠ "java/lang/invoke/MethodHandle" ∧ yX8_whyOf.cls ≠ "java/lang/invoke/VarHandle" ∧ (parseMethodDescriptor yX8_whyOf.desc).map (fun d => d.parameters.length) = some 2 := by decide +kernel
end
section
/-! fewer locals, slot by slot -/
def lvLe : List (Option Value) → List (Option Value) → Prop
  | [], [] => True
  | none :: a, _ :: b => lvLe a b
  | some v :: a, w :: b => w = some v ∧ lvLe a b
  | _, _ => False
theorem lvLe_ok : ∀ {a b : List (Option Value)}, lvLe a b → a.length = b.length ∧ ∀ (i : Nat) (v : Value), a[i]? = some (some v) → b[i]? = some (some v)
  | [], [], _ => ⟨rfl, fun i v h => by simp at h⟩
  | none :: a, w :: b, h => by
    obtain ⟨h1, h2⟩ := lvLe_ok (a := a) (b := b) h
    refine ⟨by simp [h1], fun i v hi => ?_⟩
    cases i with
    | zero => simp at hi
    | succ i => simp only [List.getElem?_cons_succ] at hi ⊢; exact h2 i v hi
  | some u :: a, w :: b, h => by
    obtain ⟨hw, h⟩ := h
    obtain ⟨h1, h2⟩ := lvLe_ok (a := a) (b := b) h
    refine ⟨by simp [h1], fun i v hi => ?_⟩
    cases i with
    | zero => simp at hi; subst hi; simp [hw]
    | succ i => simp only [List.getElem?_cons_succ] at hi ⊢; exact h2 i v hi
  | [], _ :: _, h => h.elim
  | none :: _, [], h => h.elim
  | some _ :: _, [], h => h.elim
theorem V.loc2 {X : CX} {k n z pc : Nat} {h : AH} {lv lv' : List (Option Value)} {st : List Value} (hl : lvLe lv' lv) (kk : V X k n z h pc lv' st) : V X k n z h pc lv st := V.loc (lvLe_ok hl).1 (lvLe_ok hl).2 kk
/-- nothing outside lo .. hi has changed -/
def fr (lo hi : Nat) (h h' : AH) : Prop := ∀ q, q < lo ∨ hi ≤ q → h' q = h q
theorem fr.rf {lo hi : Nat} {h : AH} : fr lo hi h h := fun _ _ => rfl
theorem fr.up {lo hi a : Nat} {h h' : AH} {e : va_E} (hf : fr lo hi h h') (h1 : lo ≤ a) (h2 : a < hi) : fr lo hi h (hup h' a e) := fun q hq => (hup_n (by omega)).trans (hf q hq)
theorem fr.tr {lo hi : Nat} {h h' h'' : AH} (h1 : fr lo hi h h') (h2 : fr lo hi h' h'') : fr lo hi h h'' := fun q hq => (h2 q hq).trans (h1 q hq)
theorem fr.mono {lo hi lo' hi' : Nat} {h h' : AH} (hf : fr lo hi h h') (h1 : lo' ≤ lo) (h2 : hi ≤ hi') : fr lo' hi' h h' := fun q hq => hf q (by omega)
theorem i32_le {x y : Int32} : x ≤ y ↔ x.toInt ≤ y.toInt := Int32.le_iff_toInt_le
theorem i32_lt {x y : Int32} : x < y ↔ x.toInt < y.toInt := Int32.lt_iff_toInt_lt
theorem i32_eq {x y : Int32} : x = y ↔ x.toInt = y.toInt := Int32.toInt_inj.symm
theorem i32_rng (x : Int32) : -2147483648 ≤ x.toInt ∧ x.toInt < 2147483648 := ⟨Int32.le_toInt x, Int32.toInt_lt x⟩
/-- a Nat in front of an int -/
theorem i32_nI {x : Int32} {n : Nat} (hn : n < 2 ^ 31) : nI n ≤ x ↔ (n : Int) ≤ x.toInt := by rw [i32_le, nI_toInt hn]
theorem i32_nI' {x : Int32} {n : Nat} (hn : n < 2 ^ 31) : x ≤ nI n ↔ x.toInt ≤ (n : Int) := by rw [i32_le, nI_toInt hn]
theorem i32_nIl {x : Int32} {n : Nat} (hn : n < 2 ^ 31) : nI n < x ↔ (n : Int) < x.toInt := by rw [i32_lt, nI_toInt hn]
theorem i32_nIl' {x : Int32} {n : Nat} (hn : n < 2 ^ 31) : x < nI n ↔ x.toInt < (n : Int) := by rw [i32_lt, nI_toInt hn]
theorem i32_nIe {x : Int32} {n : Nat} (hn : n < 2 ^ 31) : nI n = x ↔ (n : Int) = x.toInt := by rw [i32_eq, nI_toInt hn]
theorem i32_nIe' {x : Int32} {n : Nat} (hn : n < 2 ^ 31) : x = nI n ↔ x.toInt = (n : Int) := by rw [i32_eq, nI_toInt hn]
/-! Table: the numbers tn and the values tv of the first sz places -/
def tabAt (G : Gd) (h : AH) (a cap : Nat) (tn tv : Nat → Nat) (sz : Nat) : Prop := h a = some (oO 5 [.ref (a + 1), .ref (a + 2), .int (nI sz)]) ∧ h (a + 1) = some (aI G cap tn) ∧ h (a + 2) = some (aI G cap tv)
def tabOk (cap : Nat) (tn : Nat → Nat) (sz : Nat) : Prop := sz ≤ cap ∧ cap ≤ 1800 ∧ (∀ j, j < sz → tn j < 1000000) ∧ ∀ i j, i < j → j < sz → tn i < tn j
/-- p: where v stands, or would stand -/
def tabPl (tn : Nat → Nat) (sz : Nat) (v : Int32) (p : Nat) : Prop := p ≤ sz ∧ (∀ j, j < p → (tn j : Int) < v.toInt) ∧ ∀ j, p ≤ j → j < sz → v.toInt ≤ (tn j : Int)
/-- what the table says of v -/
def tget (tn tv : Nat → Nat) : Nat → Nat → Option Nat
  | 0, _ => none
  | n + 1, v => if tn n = v then some (tv n) else tget tn tv n v
theorem tget_mem {tn tv : Nat → Nat} : ∀ {n v w : Nat}, tget tn tv n v = some w → ∃ j, j < n ∧ tn j = v ∧ tv j = w
  | 0, v, w, h => by simp [tget] at h
  | n + 1, v, w, h => by
    unfold tget at h
    by_cases hv : tn n = v
    · rw [if_pos hv] at h
      exact ⟨n, by omega, hv, Option.some.inj h⟩
    · rw [if_neg hv] at h
      obtain ⟨j, h1, h2⟩ := tget_mem h
      exact ⟨j, by omega, h2⟩
theorem tget_no {tn tv : Nat → Nat} : ∀ {n v : Nat}, tget tn tv n v = none ↔ ∀ j, j < n → tn j ≠ v
  | 0, v => by simp [tget]
  | n + 1, v => by
    unfold tget
    by_cases hv : tn n = v
    · rw [if_pos hv]
      constructor
      · intro h; cases h
      · intro h; exact absurd hv (h n (by omega))
    · rw [if_neg hv, tget_no]
      constructor
      · intro h j hj
        rcases Nat.lt_or_ge j n with q | q
        · exact h j q
        · rw [show j = n by omega]; exact hv
      · intro h j hj; exact h j (by omega)
theorem tget_at {cap : Nat} {tn tv : Nat → Nat} {sz j : Nat} (hO : tabOk cap tn sz) (hj : j < sz) : tget tn tv sz (tn j) = some (tv j) := by
  cases hg : tget tn tv sz (tn j) with
  | none => exact absurd rfl (tget_no.mp hg j hj)
  | some w =>
    obtain ⟨i, h1, h2, h3⟩ := tget_mem hg
    have : i = j := by
      rcases Nat.lt_trichotomy i j with q | q | q
      · have := hO.2.2.2 i j q hj; omega
      · exact q
      · have := hO.2.2.2 j i q h1; omega
    rw [← h3, this]
theorem tget_iff {cap : Nat} {tn tv : Nat → Nat} {sz v w : Nat} (hO : tabOk cap tn sz) : tget tn tv sz v = some w ↔ ∃ j, j < sz ∧ tn j = v ∧ tv j = w := by
  constructor
  · exact tget_mem
  · rintro ⟨j, h1, rfl, rfl⟩
    exact tget_at hO h1
theorem opt_ext {α : Type} {x y : Option α} (h : ∀ w, x = some w ↔ y = some w) : x = y := by
  cases x with
  | none => cases y with
    | none => rfl
    | some b => exact absurd ((h b).mpr rfl) (by simp)
  | some a => exact ((h a).mp rfl).symm
/-- a new number at its place -/
theorem tab_ins {cap : Nat} {tn tv : Nat → Nat} {sz p k w : Nat} (hO : tabOk cap tn sz) (hp : tabPl tn sz (nI k) p) (hne : ∀ j, j < sz → tn j ≠ k) (hc : sz < cap) (hk : k < 1000000) :
    tabOk cap (va_up (va_cpy tn tn p (p + 1) (sz - p)) p k) (sz + 1) ∧ ∀ u, tget (va_up (va_cpy tn tn p (p + 1) (sz - p)) p k) (va_up (va_cpy tv tv p (p + 1) (sz - p)) p w) (sz + 1) u = if u = k then some w else tget tn tv sz u := by
  obtain ⟨o1, o2, o3, o4⟩ := id hO
  obtain ⟨p1, p2, p3⟩ := hp
  rw [nI_toInt (by omega)] at p2 p3
  have e : ∀ (f : Nat → Nat) (x j : Nat), j < sz + 1 → va_up (va_cpy f f p (p + 1) (sz - p)) p x j = if j < p then f j else if j = p then x else f (j - 1) := by
    intro f x j hj
    unfold va_up va_cpy
    by_cases h1 : j = p
    · rw [if_pos h1, if_neg (by omega), if_pos h1]
    · rw [if_neg h1]
      by_cases h2 : j < p
      · rw [if_pos h2, if_neg (by omega)]
      · rw [if_neg h2, if_neg h1, if_pos (by omega)]
        congr 1; omega
  have hO' : tabOk cap (va_up (va_cpy tn tn p (p + 1) (sz - p)) p k) (sz + 1) := by
    refine ⟨by omega, o2, fun j hj => ?_, fun i j hij hj => ?_⟩
    · rw [e tn k j hj]
      by_cases h1 : j < p
      · rw [if_pos h1]; exact o3 j (by omega)
      · rw [if_neg h1]
        by_cases h2 : j = p
        · rw [if_pos h2]; exact hk
        · rw [if_neg h2]; exact o3 (j - 1) (by omega)
    · rw [e tn k j hj, e tn k i (by omega)]
      by_cases h1 : j < p
      · rw [if_pos h1, if_pos (by omega)]; exact o4 i j hij (by omega)
      · rw [if_neg h1]
        by_cases h2 : j = p
        · rw [if_pos h2, if_pos (by omega)]
          have := p2 i (by omega); omega
        · rw [if_neg h2]
          have hkj : k < tn (j - 1) := by
            have := p3 (j - 1) (by omega) (by omega)
            have := hne (j - 1) (by omega)
            omega
          by_cases h3 : i < p
          · rw [if_pos h3]
            have := p2 i h3; omega
          · rw [if_neg h3]
            by_cases h4 : i = p
            · rw [if_pos h4]; exact hkj
            · rw [if_neg h4]; exact o4 (i - 1) (j - 1) (by omega) (by omega)
  refine ⟨hO', fun u => opt_ext fun x => ?_⟩
  rw [tget_iff hO']
  constructor
  · rintro ⟨j, h1, h2, h3⟩
    rw [e tn k j h1] at h2
    rw [e tv w j h1] at h3
    by_cases q1 : j < p
    · rw [if_pos q1] at h2 h3
      rw [if_neg (by have := hne j (by omega); omega)]
      exact (tget_iff hO).mpr ⟨j, by omega, h2, h3⟩
    · rw [if_neg q1] at h2 h3
      by_cases q2 : j = p
      · rw [if_pos q2] at h2 h3
        rw [if_pos h2.symm, h3]
      · rw [if_neg q2] at h2 h3
        rw [if_neg (by have := hne (j - 1) (by omega); omega)]
        exact (tget_iff hO).mpr ⟨j - 1, by omega, h2, h3⟩
  · intro hx
    by_cases hu : u = k
    · rw [if_pos hu] at hx
      refine ⟨p, by omega, ?_, ?_⟩
      · rw [e tn k p (by omega), if_neg (by omega), if_pos rfl]; exact hu.symm
      · rw [e tv w p (by omega), if_neg (by omega), if_pos rfl]; exact Option.some.inj hx
    · rw [if_neg hu] at hx
      obtain ⟨j, h1, h2, h3⟩ := tget_mem hx
      by_cases q : j < p
      · exact ⟨j, by omega, by rw [e tn k j (by omega), if_pos q]; exact h2, by rw [e tv w j (by omega), if_pos q]; exact h3⟩
      · exact ⟨j + 1, by omega, by rw [e tn k (j + 1) (by omega), if_neg (by omega), if_neg (by omega)]; exact h2, by rw [e tv w (j + 1) (by omega), if_neg (by omega), if_neg (by omega)]; exact h3⟩
/-- another value at the place of a number that is there -/
theorem tab_set {cap : Nat} {tn tv : Nat → Nat} {sz p w : Nat} (hO : tabOk cap tn sz) (hp : p < sz) (u : Nat) : tget tn (va_up tv p w) sz u = if u = tn p then some w else tget tn tv sz u := by
  refine opt_ext fun x => ?_
  rw [tget_iff hO]
  constructor
  · rintro ⟨j, h1, h2, h3⟩
    unfold va_up at h3
    by_cases q : j = p
    · rw [if_pos q] at h3
      rw [if_pos (by rw [← h2, q]), h3]
    · rw [if_neg q] at h3
      rw [if_neg (fun z => q (by
        rcases Nat.lt_trichotomy j p with r | r | r
        · have := hO.2.2.2 j p r hp; omega
        · exact r
        · have := hO.2.2.2 p j r h1; omega))]
      exact (tget_iff hO).mpr ⟨j, h1, h2, h3⟩
  · intro hx
    by_cases hu : u = tn p
    · rw [if_pos hu] at hx
      exact ⟨p, hp, hu.symm, by unfold va_up; rw [if_pos rfl]; exact Option.some.inj hx⟩
    · rw [if_neg hu] at hx
      obtain ⟨j, h1, h2, h3⟩ := tget_mem hx
      exact ⟨j, h1, h2, by unfold va_up; rw [if_neg (fun z => hu (by rw [← h2, z]))]; exact h3⟩
/-- the place of a number that isn't there holds no number like it -/
theorem tabPl_no {cap : Nat} {tn : Nat → Nat} {sz p : Nat} {v : Int32} (hO : tabOk cap tn sz) (hp : tabPl tn sz v p) (h : ¬ (p < sz ∧ (tn p : Int) = v.toInt)) : ∀ j, j < sz → (tn j : Int) ≠ v.toInt := by
  intro j hj e
  obtain ⟨p1, p2, p3⟩ := hp
  rcases Nat.lt_trichotomy j p with q | q | q
  · have := p2 j q; omega
  · subst q; exact h ⟨hj, e⟩
  · have a1 := hO.2.2.2 p j q hj
    have a2 := p3 p (by omega) (by omega)
    omega
/-- a weaker end of a contract -/
theorem Ct.weak {G : Gd} {y : MethodName} {cc : ByteArray} {mL : Nat} {ret : Option FieldType} {d mc ms : Nat} {av : List Value} {z : Nat} {h : AH} {post post' : Option Value → Nat → AH → Prop} (hC : Ct G y cc mL ret d mc ms av z h post) (hp : ∀ v z' h', post v z' h' → post' v z' h') : Ct G y cc mL ret d mc ms av z h post' := by
  intro l p e ha hc hk s m args below hf happ hP hK
  obtain ⟨n, o, h1, h2, h3, ⟨⟨v, z', h', q1, q2, q3, q4⟩, q5⟩, q6⟩ := hC l p e ha hc hk s m args below hf happ hP hK
  exact ⟨n, o, h1, h2, h3, ⟨⟨v, z', h', q1, hp v z' h' q2, q3, q4⟩, q5⟩, q6⟩
end
section
set_option maxRecDepth 100000 in
set_option maxHeartbeats 4000000 in
theorem c_Table_init {G : Gd} {z : Nat} {h : AH} {a cap : Nat} (ha : h a = some (oO 5 [.null, .null, .int 0])) (hz : z = a + 1) (hcap : cap ≤ 1800) : Ct G yX5_init cX5_init 2 none 1 2 (cap + cap) [.ref a, .int (nI cap)] z h (fun r z' h' => r = none ∧ z' = a + 3 ∧ tabAt G h' a cap (fun _ => 0) (fun _ => 0) 0 ∧ fr a (a + 3) h h') := by
  refine Ct.of (lv := [_, _]) (by decide) (Nat.le_of_ble_eq_true rfl) rfl ?_
  rintro X rfl hX hR hnm
  subst hz
  refine V_aload_n hX dX5_init_0 rfl rfl ?_
  refine V_objInit hX dX5_init_1 wM_X5_1 wI_objInit wC_objInit (by omega) rfl rfl rfl ?_
  refine V_aload_n hX dX5_init_4 rfl rfl ?_
  refine V_iload_n hX dX5_init_5 rfl rfl ?_
  refine V_newIN hX dX5_init_6 (by omega) (by omega) (by omega) rfl ?_
  simp only [Nat.zero_add]
  refine V_putF (fs' := [_, _, _]) (ty0 := tyX5) hX dX5_init_8 (hnm.trans rfl) ((hup_n (by omega)).trans ha) rfl inX5 tyX5_ok nmX5 0 (by decide) wF_X5_7 rfl rfl (tyX5_ok 0 (by decide)) rfl rfl (Nat.le_of_ble_eq_true rfl) rfl rfl ?_
  refine V_aload_n hX dX5_init_11 rfl rfl ?_
  refine V_iload_n hX dX5_init_12 rfl rfl ?_
  refine V_newIN hX dX5_init_13 (by omega) (by omega) (by omega) rfl ?_
  simp only [Nat.reduceAdd]
  refine V_putF (fs' := [_, _, _]) (ty0 := tyX5) hX dX5_init_15 (hnm.trans rfl) ((hup_n (by omega)).trans hup_s) rfl inX5 tyX5_ok nmX5 1 (by decide) wF_X5_13 rfl rfl (tyX5_ok 1 (by decide)) rfl rfl (Nat.le_of_ble_eq_true rfl) rfl rfl ?_
  refine V_vret hX hR dX5_init_18 ?_
  exact ⟨rfl, rfl, ⟨hup_s, ((hup_n (by omega)).trans ((hup_n (by omega)).trans ((hup_n (by omega)).trans hup_s))), ((hup_n (by omega)).trans hup_s)⟩, (fr.up (fr.up (fr.up (fr.up fr.rf (by omega) (by omega)) (by omega) (by omega)) (by omega) (by omega)) (by omega) (by omega))⟩
set_option maxRecDepth 100000 in
set_option maxHeartbeats 4000000 in
theorem c_Table_clear {G : Gd} {z : Nat} {h : AH} {a cap sz : Nat} {tn tv : Nat → Nat} (hT : tabAt G h a cap tn tv sz) : Ct G yX5_clear cX5_clear 1 none 0 0 0 [.ref a] z h (fun r z' h' => r = none ∧ z' = z ∧ tabAt G h' a cap tn tv 0 ∧ fr a (a + 3) h h') := by
  refine Ct.of (lv := [_]) (by decide) (Nat.le_of_ble_eq_true rfl) rfl ?_
  rintro X rfl hX hR hnm
  obtain ⟨h0, h1, h2⟩ := id hT
  refine V_aload_n hX dX5_clear_0 rfl rfl ?_
  refine V_iconst (v := nI 0) hX dX5_clear_1 (by decide) rfl ?_
  refine V_put (fs' := [_, _, _]) (ty0 := tyX5) hX dX5_clear_2 h0 rfl inX5 tyX5_ok nmX5 2 (by decide) wF_X5_16 rfl (tyX5_ok 2 (by decide)) rfl rfl (Nat.le_of_ble_eq_true rfl) rfl rfl ?_
  refine V_vret hX hR dX5_clear_5 ?_
  exact ⟨rfl, rfl, ⟨hup_s, ((hup_n (by omega)).trans h1), ((hup_n (by omega)).trans h2)⟩, (fr.up fr.rf (by omega) (by omega))⟩
set_option maxRecDepth 100000 in
set_option maxHeartbeats 4000000 in
theorem c_Table_placeOf {G : Gd} {z : Nat} {h : AH} {a cap sz : Nat} {tn tv : Nat → Nat} (v : Int32) (hT : tabAt G h a cap tn tv sz) (hO : tabOk cap tn sz) : Ct G yX5_placeOf cX5_placeOf 5 (some .int) 0 0 0 [.ref a, .int v] z h (fun r z' h' => ∃ p, r = some (.int (nI p)) ∧ z' = z ∧ h' = h ∧ tabPl tn sz v p) := by
  refine Ct.of (lv := [_, _, _, _, _]) (by decide) (Nat.le_of_ble_eq_true rfl) rfl ?_
  rintro X rfl hX hR hnm
  obtain ⟨h0, h1, h2⟩ := id hT
  obtain ⟨o1, o2, o3, o4⟩ := id hO
  refine V_iconst (v := nI 0) hX dX5_placeOf_0 (by decide) rfl ?_
  refine V_istore_n (lv' := [_, _, _, _, _]) hX dX5_placeOf_1 (Nat.le_of_ble_eq_true rfl) rfl rfl ?_
  refine V_aload_n hX dX5_placeOf_2 rfl rfl ?_
  refine V_get hX dX5_placeOf_3 h0 rfl inX5 2 (by decide) wF_X5_16 rfl rfl ?_
  refine V_istore_n (lv' := [_, _, _, _, _]) hX dX5_placeOf_6 (Nat.le_of_ble_eq_true rfl) rfl rfl ?_
  have lp : ∀ (μ lo hi : Nat), lo ≤ hi → hi ≤ sz → (∀ j, j < lo → (tn j : Int) < v.toInt) → (∀ j, hi ≤ j → j < sz → v.toInt ≤ (tn j : Int)) → hi - lo < μ → V X 0 0 z h 7 [some (.ref a), some (.int v), some (.int (nI lo)), some (.int (nI hi)), none] [] := by
    intro μ
    induction μ with
    | zero => intros; omega
    | succ μ ih =>
      intro lo hi b1 b2 b3 b4 b5
      refine V_iload_n hX dX5_placeOf_7 rfl rfl ?_
      refine V_iload_n hX dX5_placeOf_8 rfl rfl ?_
      refine V_icmp_geN hX dX5_placeOf_9 (by omega) (by omega) rfl rfl (fun c9 => ?_) (fun c9 => ?_)
      · refine V_iload_n hX dX5_placeOf_44 rfl rfl ?_
        refine V_iret hX hR dX5_placeOf_45 ?_
        exact ⟨lo, rfl, rfl, rfl, by omega, b3, fun j q1 q2 => b4 j (by omega) q2⟩
      · refine V_iload_n hX dX5_placeOf_12 rfl rfl ?_
        refine V_iload_n hX dX5_placeOf_13 rfl rfl ?_
        refine V_iaddN hX dX5_placeOf_14 rfl ?_
        refine V_iconst (v := nI 1) hX dX5_placeOf_15 (by decide) rfl ?_
        refine V_iushr hX dX5_placeOf_16 rfl ?_
        refine V.eqi (pk_ushrN (by omega) (nI 1) 1 (by decide)) ?_
        obtain ⟨m, em⟩ : ∃ m, m = (lo + hi) / 2 ^ 1 := ⟨_, rfl⟩
        rw [← em]
        refine V_istore (lv' := [_, _, _, _, _]) hX dX5_placeOf_17 (Nat.le_of_ble_eq_true rfl) rfl rfl ?_
        refine V_aload_n hX dX5_placeOf_19 rfl rfl ?_
        refine V_get hX dX5_placeOf_20 h0 rfl inX5 0 (by decide) wF_X5_7 rfl rfl ?_
        refine V_iload hX dX5_placeOf_23 rfl rfl ?_
        refine V_ialdN hX dX5_placeOf_25 h1 (by omega) (by omega) rfl rfl ?_
        refine V_iload_n hX dX5_placeOf_26 rfl rfl ?_
        refine V_icmp_ge hX dX5_placeOf_27 rfl rfl (fun c27 => ?_) (fun c27 => ?_)
        · have hc : v.toInt ≤ (tn m : Int) := (i32_nI' (by have := o3 m (by omega); omega)).mp c27
          have hhi : ∀ j, m ≤ j → j < sz → v.toInt ≤ (tn j : Int) := fun j q1 q2 => by
            rcases Nat.lt_or_ge m j with q | q
            · have := o4 m j q q2; omega
            · rw [show j = m by omega]; exact hc
          refine V_iload hX dX5_placeOf_38 rfl rfl ?_
          refine V_istore_n (lv' := [_, _, _, _, _]) hX dX5_placeOf_40 (Nat.le_of_ble_eq_true rfl) rfl rfl ?_
          refine V_goto hX dX5_placeOf_41 rfl ?_
          refine V.loc2 (lv' := [some _, some _, some _, some _, none]) ⟨rfl, rfl, rfl, rfl, trivial⟩ ?_
          first
            | exact ih _ _ (by omega) (by omega) hlo b4 (by omega)
            | exact ih _ _ (by omega) (by omega) b3 hhi (by omega)
        · have hc : (tn m : Int) < v.toInt := by
            have := mt (i32_nI' (x := v) (n := tn m) (by have := o3 m (by omega); omega)).mpr c27
            omega
          have hlo : ∀ j, j < m + 1 → (tn j : Int) < v.toInt := fun j q1 => by
            rcases Nat.lt_or_ge j m with q | q
            · have := o4 j m q (by omega); omega
            · rw [show j = m by omega]; exact hc
          refine V_iload hX dX5_placeOf_30 rfl rfl ?_
          refine V_iconst (v := nI 1) hX dX5_placeOf_32 (by decide) rfl ?_
          refine V_iaddN hX dX5_placeOf_33 rfl ?_
          refine V_istore_n (lv' := [_, _, _, _, _]) hX dX5_placeOf_34 (Nat.le_of_ble_eq_true rfl) rfl rfl ?_
          refine V_goto hX dX5_placeOf_35 rfl ?_
          refine V_goto hX dX5_placeOf_41 rfl ?_
          refine V.loc2 (lv' := [some _, some _, some _, some _, none]) ⟨rfl, rfl, rfl, rfl, trivial⟩ ?_
          first
            | exact ih _ _ (by omega) (by omega) hlo b4 (by omega)
            | exact ih _ _ (by omega) (by omega) b3 hhi (by omega)
  refine V.loc2 (lv' := [some _, some _, some _, some _, none]) ⟨rfl, rfl, rfl, rfl, trivial⟩ ?_
  exact lp (sz + 1) 0 sz (by omega) (by omega) (fun j hj => by omega) (fun j h1 h2 => by omega) (by omega)
set_option maxRecDepth 100000 in
set_option maxHeartbeats 4000000 in
theorem c_Table_isAt {G : Gd} {z : Nat} {h : AH} {a cap sz : Nat} {tn tv : Nat → Nat} (v : Int32) (p : Nat) (hp : p ≤ sz) (hT : tabAt G h a cap tn tv sz) (hO : tabOk cap tn sz) : Ct G yX5_isAt cX5_isAt 3 (some .boolean) 0 0 0 [.ref a, .int v, .int (nI p)] z h (fun r z' h' => r = some (.int (bI (decide (p < sz ∧ (tn p : Int) = v.toInt)))) ∧ z' = z ∧ h' = h) := by
  refine Ct.of (lv := [_, _, _]) (by decide) (Nat.le_of_ble_eq_true rfl) rfl ?_
  rintro X rfl hX hR hnm
  obtain ⟨h0, h1, h2⟩ := id hT
  obtain ⟨o1, o2, o3, o4⟩ := id hO
  refine V_iload_n hX dX5_isAt_0 rfl rfl ?_
  refine V_aload_n hX dX5_isAt_1 rfl rfl ?_
  refine V_get hX dX5_isAt_2 h0 rfl inX5 2 (by decide) wF_X5_16 rfl rfl ?_
  refine V_icmp_geN hX dX5_isAt_5 (by omega) (by omega) rfl rfl (fun c5 => ?_) (fun c5 => ?_)
  · refine V_iconst (v := nI 0) hX dX5_isAt_22 (by decide) rfl ?_
    refine V_zret hX hR dX5_isAt_23 (by rfl) ?_
    exact ⟨by rw [decide_eq_false (by omega)]; rfl, rfl, rfl⟩
  · refine V_aload_n hX dX5_isAt_8 rfl rfl ?_
    refine V_get hX dX5_isAt_9 h0 rfl inX5 0 (by decide) wF_X5_7 rfl rfl ?_
    refine V_iload_n hX dX5_isAt_12 rfl rfl ?_
    refine V_ialdN hX dX5_isAt_13 h1 (by omega) (by omega) rfl rfl ?_
    refine V_iload_n hX dX5_isAt_14 rfl rfl ?_
    refine V_icmp_ne hX dX5_isAt_15 rfl rfl (fun c15 => ?_) (fun c15 => ?_)
    · have hc : ¬ (tn p : Int) = v.toInt := mt (i32_nIe (by have := o3 p (by omega); omega)).mpr c15
      refine V_iconst (v := nI 0) hX dX5_isAt_22 (by decide) rfl ?_
      refine V_zret hX hR dX5_isAt_23 (by rfl) ?_
      exact ⟨by rw [decide_eq_false (by omega)]; rfl, rfl, rfl⟩
    · have hc : (tn p : Int) = v.toInt := (i32_nIe (by have := o3 p (by omega); omega)).mp c15
      refine V_iconst (v := nI 1) hX dX5_isAt_18 (by decide) rfl ?_
      refine V_goto hX dX5_isAt_19 rfl ?_
      refine V_zret hX hR dX5_isAt_23 (by rfl) ?_
      exact ⟨by rw [decide_eq_true (by omega)]; rfl, rfl, rfl⟩
set_option maxRecDepth 100000 in
set_option maxHeartbeats 4000000 in
theorem c_Table_valueOf {G : Gd} {z : Nat} {h : AH} {a cap sz : Nat} {tn tv : Nat → Nat} (v o : Int32) (hT : tabAt G h a cap tn tv sz) (hO : tabOk cap tn sz) : Ct G yX5_valueOf cX5_valueOf 4 (some .int) 1 0 0 [.ref a, .int v, .int o] z h (fun r z' h' => ∃ x, r = some (.int x) ∧ z' = z ∧ h' = h ∧ ((∃ j, j < sz ∧ (tn j : Int) = v.toInt ∧ x = nI (tv j)) ∨ ((∀ j, j < sz → (tn j : Int) ≠ v.toInt) ∧ x = o))) := by
  refine Ct.of (lv := [_, _, _, _]) (by decide) (Nat.le_of_ble_eq_true rfl) rfl ?_
  rintro X rfl hX hR hnm
  obtain ⟨h0, h1, h2⟩ := id hT
  obtain ⟨o1, o2, o3, o4⟩ := id hO
  refine V_aload_n hX dX5_valueOf_0 rfl rfl ?_
  refine V_iload_n hX dX5_valueOf_1 rfl rfl ?_
  refine V_callV (nA := 1) hX dX5_valueOf_2 (c_Table_placeOf v hT hO) h0 rfl wM_X5_20 wI_X5_placeOf wL_X5_placeOf wN_X5 wC_X5_placeOf rfl hy_X5_placeOf rfl (Nat.le_of_ble_eq_true rfl) (by decide) (by omega) rfl rfl (by omega) rfl (by omega) rfl ?_
  rintro _ z h ⟨p, rfl, rfl, rfl, hp⟩
  refine V_istore_n (lv' := [_, _, _, _]) hX dX5_valueOf_5 (Nat.le_of_ble_eq_true rfl) rfl rfl ?_
  refine V_aload_n hX dX5_valueOf_6 rfl rfl ?_
  refine V_iload_n hX dX5_valueOf_7 rfl rfl ?_
  refine V_iload_n hX dX5_valueOf_8 rfl rfl ?_
  refine V_callV (nA := 2) hX dX5_valueOf_9 (c_Table_isAt v p hp.1 hT hO) h0 rfl wM_X5_24 wI_X5_isAt wL_X5_isAt wN_X5 wC_X5_isAt rfl hy_X5_isAt rfl (Nat.le_of_ble_eq_true rfl) (by decide) (by omega) rfl rfl (by omega) rfl (by omega) rfl ?_
  rintro _ z h ⟨rfl, rfl, rfl⟩
  refine V_if_eqB hX dX5_valueOf_12 rfl rfl (fun c12 => ?_) (fun c12 => ?_)
  · have hc := of_decide_eq_false c12
    refine V_iload_n hX dX5_valueOf_24 rfl rfl ?_
    refine V_iret hX hR dX5_valueOf_25 ?_
    exact ⟨_, rfl, rfl, rfl, Or.inr ⟨tabPl_no hO hp hc, rfl⟩⟩
  · have hc := of_decide_eq_true c12
    refine V_aload_n hX dX5_valueOf_15 rfl rfl ?_
    refine V_get hX dX5_valueOf_16 h0 rfl inX5 1 (by decide) wF_X5_13 rfl rfl ?_
    refine V_iload_n hX dX5_valueOf_19 rfl rfl ?_
    refine V_ialdN hX dX5_valueOf_20 h2 (by omega) (by omega) rfl rfl ?_
    refine V_goto hX dX5_valueOf_21 rfl ?_
    refine V_iret hX hR dX5_valueOf_25 ?_
    exact ⟨_, rfl, rfl, rfl, Or.inl ⟨p, hc.1, hc.2, rfl⟩⟩
set_option maxRecDepth 100000 in
set_option maxHeartbeats 4000000 in
theorem c_Table_write {G : Gd} {z : Nat} {h : AH} {a cap sz : Nat} {tn tv : Nat → Nat} (k w : Nat) (hk : k < 1000000) (hT : tabAt G h a cap tn tv sz) (hO : tabOk cap tn sz) : Ct G yX5_write cX5_write 4 (some .boolean) 1 0 0 [.ref a, .int (nI k), .int (nI w)] z h (fun r z' h' => ∃ (b : Bool) (tn' tv' : Nat → Nat) (sz' : Nat), r = some (.int (bI b)) ∧ z' = z ∧ tabAt G h' a cap tn' tv' sz' ∧ tabOk cap tn' sz' ∧ fr a (a + 3) h h' ∧ (b = true → (∀ u, tget tn' tv' sz' u = if u = k then some w else tget tn tv sz u) ∧ sz' = if tget tn tv sz k = none then sz + 1 else sz) ∧ (b = false → tget tn tv sz k = none ∧ sz = cap ∧ tn' = tn ∧ tv' = tv ∧ sz' = sz) ∧ (sz < cap → b = true)) := by
  refine Ct.of (lv := [_, _, _, _]) (by decide) (Nat.le_of_ble_eq_true rfl) rfl ?_
  rintro X rfl hX hR hnm
  obtain ⟨h0, h1, h2⟩ := id hT
  obtain ⟨o1, o2, o3, o4⟩ := id hO
  refine V_aload_n hX dX5_write_0 rfl rfl ?_
  refine V_iload_n hX dX5_write_1 rfl rfl ?_
  refine V_callV (nA := 1) hX dX5_write_2 (c_Table_placeOf (nI k) hT hO) h0 rfl wM_X5_20 wI_X5_placeOf wL_X5_placeOf wN_X5 wC_X5_placeOf rfl hy_X5_placeOf rfl (Nat.le_of_ble_eq_true rfl) (by decide) (by omega) rfl rfl (by omega) rfl (by omega) rfl ?_
  rintro _ z h ⟨p, rfl, rfl, rfl, hp⟩
  have hp1 := hp.1
  refine V_istore_n (lv' := [_, _, _, _]) hX dX5_write_5 (Nat.le_of_ble_eq_true rfl) rfl rfl ?_
  refine V_aload_n hX dX5_write_6 rfl rfl ?_
  refine V_iload_n hX dX5_write_7 rfl rfl ?_
  refine V_iload_n hX dX5_write_8 rfl rfl ?_
  have jn : ∀ (h' : AH) (tn' tv' : Nat → Nat) (sz' : Nat), tabAt X.G h' a cap tn' tv' sz' → fr a (a + 3) h h' → p < sz' → sz' ≤ cap → (tabOk cap tn' sz' ∧ (∀ u, tget tn' (va_up tv' p w) sz' u = if u = k then some w else tget tn tv sz u) ∧ sz' = if tget tn tv sz k = none then sz + 1 else sz) → V X 0 0 z h' 88 [some (.ref a), some (.int (nI k)), some (.int (nI w)), some (.int (nI p))] [] := by
    intro h' tn' tv' sz' j0 j1 j2 j3 j4
    obtain ⟨j5, j6, j7⟩ := j4
    obtain ⟨h0, h1, h2⟩ := id j0
    refine V_aload_n hX dX5_write_88 rfl rfl ?_
    refine V_get hX dX5_write_89 h0 rfl inX5 1 (by decide) wF_X5_13 rfl rfl ?_
    refine V_iload_n hX dX5_write_92 rfl rfl ?_
    refine V_iload_n hX dX5_write_93 rfl rfl ?_
    refine V_iastN hX dX5_write_94 h2 (by omega) (by omega) rfl ?_
    refine V_iconst (v := nI 1) hX dX5_write_95 (by decide) rfl ?_
    refine V_zret hX hR dX5_write_96 (by rfl) ?_
    exact ⟨true, tn', va_up tv' p w, sz', rfl, rfl, ⟨((hup_n (by omega)).trans h0), ((hup_n (by omega)).trans h1), hup_s⟩, j5, fr.up j1 (by omega) (by omega), fun _ => ⟨j6, j7⟩, (fun q => by cases q), fun _ => rfl⟩
  refine V_callV (nA := 2) hX dX5_write_9 (c_Table_isAt (nI k) p hp.1 hT hO) h0 rfl wM_X5_24 wI_X5_isAt wL_X5_isAt wN_X5 wC_X5_isAt rfl hy_X5_isAt rfl (Nat.le_of_ble_eq_true rfl) (by decide) (by omega) rfl rfl (by omega) rfl (by omega) rfl ?_
  rintro _ z h ⟨rfl, rfl, rfl⟩
  refine V_if_neB hX dX5_write_12 rfl rfl (fun c12 => ?_) (fun c12 => ?_)
  · have hc := of_decide_eq_true c12
    have e : tn p = k := by have := hc.2; rw [nI_toInt (by omega)] at this; omega
    exact jn h tn tv sz hT fr.rf hc.1 o1 ⟨hO, fun u => by rw [tab_set hO hc.1 u, e], by rw [if_neg (by rw [← e, tget_at hO hc.1]; simp)]⟩
  · have hc := of_decide_eq_false c12
    have hne : ∀ j, j < sz → tn j ≠ k := fun j hj e => tabPl_no hO hp hc j hj (by rw [nI_toInt (by omega)]; omega)
    refine V_aload_n hX dX5_write_15 rfl rfl ?_
    refine V_get hX dX5_write_16 h0 rfl inX5 2 (by decide) wF_X5_16 rfl rfl ?_
    refine V_aload_n hX dX5_write_19 rfl rfl ?_
    refine V_get hX dX5_write_20 h0 rfl inX5 0 (by decide) wF_X5_7 rfl rfl ?_
    refine V_alenN hX dX5_write_23 h1 rfl ?_
    refine V_icmp_ltN hX dX5_write_24 (by omega) (by omega) rfl rfl (fun c24 => ?_) (fun c24 => ?_)
    · refine V_aload_n hX dX5_write_29 rfl rfl ?_
      refine V_get hX dX5_write_30 h0 rfl inX5 0 (by decide) wF_X5_7 rfl rfl ?_
      refine V_iload_n hX dX5_write_33 rfl rfl ?_
      refine V_aload_n hX dX5_write_34 rfl rfl ?_
      refine V_get hX dX5_write_35 h0 rfl inX5 0 (by decide) wF_X5_7 rfl rfl ?_
      refine V_iload_n hX dX5_write_38 rfl rfl ?_
      refine V_iconst (v := nI 1) hX dX5_write_39 (by decide) rfl ?_
      refine V_iaddN hX dX5_write_40 rfl ?_
      refine V_aload_n hX dX5_write_41 rfl rfl ?_
      refine V_get hX dX5_write_42 h0 rfl inX5 2 (by decide) wF_X5_16 rfl rfl ?_
      refine V_iload_n hX dX5_write_45 rfl rfl ?_
      refine V_isubN hX dX5_write_46 (by omega) rfl ?_
      refine V_copyN hX dX5_write_47 wM_X5_35 h1 h1 (by omega) (by omega) (by omega) (by omega) (by omega) rfl (Nat.le_of_ble_eq_true rfl) rfl ?_
      refine V_aload_n hX dX5_write_50 rfl rfl ?_
      refine V_get hX dX5_write_51 ((hup_n (by omega)).trans h0) rfl inX5 1 (by decide) wF_X5_13 rfl rfl ?_
      refine V_iload_n hX dX5_write_54 rfl rfl ?_
      refine V_aload_n hX dX5_write_55 rfl rfl ?_
      refine V_get hX dX5_write_56 ((hup_n (by omega)).trans h0) rfl inX5 1 (by decide) wF_X5_13 rfl rfl ?_
      refine V_iload_n hX dX5_write_59 rfl rfl ?_
      refine V_iconst (v := nI 1) hX dX5_write_60 (by decide) rfl ?_
      refine V_iaddN hX dX5_write_61 rfl ?_
      refine V_aload_n hX dX5_write_62 rfl rfl ?_
      refine V_get hX dX5_write_63 ((hup_n (by omega)).trans h0) rfl inX5 2 (by decide) wF_X5_16 rfl rfl ?_
      refine V_iload_n hX dX5_write_66 rfl rfl ?_
      refine V_isubN hX dX5_write_67 (by omega) rfl ?_
      refine V_copyN hX dX5_write_68 wM_X5_35 ((hup_n (by omega)).trans h2) ((hup_n (by omega)).trans h2) (by omega) (by omega) (by omega) (by omega) (by omega) rfl (Nat.le_of_ble_eq_true rfl) rfl ?_
      refine V_aload_n hX dX5_write_71 rfl rfl ?_
      refine V_get hX dX5_write_72 ((hup_n (by omega)).trans ((hup_n (by omega)).trans h0)) rfl inX5 0 (by decide) wF_X5_7 rfl rfl ?_
      refine V_iload_n hX dX5_write_75 rfl rfl ?_
      refine V_iload_n hX dX5_write_76 rfl rfl ?_
      refine V_iastN hX dX5_write_77 ((hup_n (by omega)).trans hup_s) (by omega) (by omega) rfl ?_
      refine V_aload_n hX dX5_write_78 rfl rfl ?_
      refine V_dup hX dX5_write_79 rfl rfl ?_
      refine V_get hX dX5_write_80 ((hup_n (by omega)).trans ((hup_n (by omega)).trans ((hup_n (by omega)).trans h0))) rfl inX5 2 (by decide) wF_X5_16 rfl rfl ?_
      refine V_iconst (v := nI 1) hX dX5_write_83 (by decide) rfl ?_
      refine V_iaddN hX dX5_write_84 rfl ?_
      refine V_put (fs' := [_, _, _]) (ty0 := tyX5) hX dX5_write_85 ((hup_n (by omega)).trans ((hup_n (by omega)).trans ((hup_n (by omega)).trans h0))) rfl inX5 tyX5_ok nmX5 2 (by decide) wF_X5_16 rfl (tyX5_ok 2 (by decide)) rfl rfl (Nat.le_of_ble_eq_true rfl) rfl rfl ?_
      have q := tab_ins (tv := tv) (w := w) hO hp hne c24 hk
      refine jn _ (va_up (va_cpy tn tn p (p + 1) (sz - p)) p k) (va_cpy tv tv p (p + 1) (sz - p)) (sz + 1) ⟨hup_s, ((hup_n (by omega)).trans hup_s), ((hup_n (by omega)).trans ((hup_n (by omega)).trans hup_s))⟩ (fr.up (fr.up (fr.up (fr.up fr.rf (by omega) (by omega)) (by omega) (by omega)) (by omega) (by omega)) (by omega) (by omega)) (by have := hp.1; omega) (by omega) ⟨q.1, q.2, ?_⟩
      rw [if_pos (tget_no.mpr hne)]
    · refine V_iconst (v := nI 0) hX dX5_write_27 (by decide) rfl ?_
      refine V_zret hX hR dX5_write_28 rfl ?_
      exact ⟨false, tn, tv, sz, rfl, rfl, hT, hO, fr.rf, (fun q => by cases q), fun _ => ⟨tget_no.mpr hne, by omega, rfl, rfl, rfl⟩, fun q => by omega⟩
set_option maxRecDepth 100000 in
set_option maxHeartbeats 4000000 in
theorem c_Table_raise {G : Gd} {z : Nat} {h : AH} {a cap sz : Nat} {tn tv : Nat → Nat} (k : Nat) (hk : k < 1000000) (hroom : sz < cap) (hT : tabAt G h a cap tn tv sz) (hO : tabOk cap tn sz) : Ct G yX5_raise cX5_raise 2 none 2 0 0 [.ref a, .int (nI k)] z h (fun r z' h' => ∃ (tn' tv' : Nat → Nat) (sz' : Nat), r = none ∧ z' = z ∧ tabAt G h' a cap tn' tv' sz' ∧ tabOk cap tn' sz' ∧ fr a (a + 3) h h' ∧ (∀ u, tget tn' tv' sz' u = if u = k then some ((tget tn tv sz k).getD 0 + 1) else tget tn tv sz u) ∧ sz' = if tget tn tv sz k = none then sz + 1 else sz) := by
  refine Ct.of (lv := [_, _]) (by decide) (Nat.le_of_ble_eq_true rfl) rfl ?_
  rintro X rfl hX hR hnm
  obtain ⟨h0, h1, h2⟩ := id hT
  obtain ⟨o1, o2, o3, o4⟩ := id hO
  refine V_aload_n hX dX5_raise_0 rfl rfl ?_
  refine V_iload_n hX dX5_raise_1 rfl rfl ?_
  refine V_aload_n hX dX5_raise_2 rfl rfl ?_
  refine V_iload_n hX dX5_raise_3 rfl rfl ?_
  refine V_iconst (v := nI 0) hX dX5_raise_4 (by decide) rfl ?_
  refine V_callV (nA := 2) hX dX5_raise_5 (c_Table_valueOf (nI k) (nI 0) hT hO) h0 rfl wM_X5_28 wI_X5_valueOf wL_X5_valueOf wN_X5 wC_X5_valueOf rfl hy_X5_valueOf rfl (Nat.le_of_ble_eq_true rfl) (by decide) (by omega) rfl rfl (by omega) rfl (by omega) rfl ?_
  rintro _ z h ⟨x, rfl, rfl, rfl, hx⟩
  obtain ⟨y, ey, gy⟩ : ∃ y, x = nI y ∧ y = (tget tn tv sz k).getD 0 := by
    rcases hx with ⟨j, j1, j2, j3⟩ | ⟨j1, j2⟩
    · rw [nI_toInt (by omega)] at j2
      refine ⟨tv j, j3, ?_⟩
      rw [show k = tn j by omega, tget_at hO j1]; rfl
    · refine ⟨0, j2, ?_⟩
      rw [tget_no.mpr (fun j hj e => j1 j hj (by rw [nI_toInt (by omega)]; omega))]; rfl
  subst ey
  refine V_iconst (v := nI 1) hX dX5_raise_8 (by decide) rfl ?_
  refine V_iaddN hX dX5_raise_9 rfl ?_
  refine V_callV (nA := 2) hX dX5_raise_10 (c_Table_write k (y + 1) hk hT hO) h0 rfl wM_X5_32 wI_X5_write wL_X5_write wN_X5 wC_X5_write rfl hy_X5_write rfl (Nat.le_of_ble_eq_true rfl) (by decide) (by omega) rfl rfl (by omega) rfl (by omega) rfl ?_
  rintro _ z h' ⟨b, tn', tv', sz', rfl, rfl, q1, q2, q3, q4, -, q5⟩
  obtain ⟨q6, q7⟩ := q4 (q5 hroom)
  refine V_pop hX dX5_raise_13 rfl rfl ?_
  refine V_vret hX hR dX5_raise_14 ?_
  exact ⟨tn', tv', sz', rfl, rfl, q1, q2, q3, by rw [← gy]; exact q6, q7⟩
end
