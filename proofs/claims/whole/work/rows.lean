section
-- ===== PART A: goes FIRST, ahead of the names: the tables' words, and 'selects' of the private methods out of them =====
/-- a private method of a class that the tables say can be made, by its rows of tables_1 -/
def lw_okq (q : MethodName × Nat) : Prop := (q.1.cls ≠ "java/lang/invoke/MethodHandle" ∧ q.1.cls ≠ "java/lang/invoke/VarHandle") ∧ Cond.instantiable q.1.cls q.2 ∈ tables_1 ∧ Cond.privateMethod q.1 ∈ tables_1 ∧ Cond.instanceMethod q.1 ∈ tables_1
theorem lw_p0 : lw_okq (⟨"PairSieve", "setOf", "(I)LPairSieve$NumberSet;"⟩, 13) := ⟨⟨by decide +kernel, by decide +kernel⟩, List.mem_of_getElem? (i := 19) (by decide +kernel), List.mem_of_getElem? (i := 217) (by decide +kernel), List.mem_of_getElem? (i := 218) (by decide +kernel)⟩
theorem lw_p1 : lw_okq (⟨"PairSieve$Table", "placeOf", "(I)I"⟩, 3) := ⟨⟨by decide +kernel, by decide +kernel⟩, List.mem_of_getElem? (i := 29) (by decide +kernel), List.mem_of_getElem? (i := 240) (by decide +kernel), List.mem_of_getElem? (i := 241) (by decide +kernel)⟩
theorem lw_p2 : lw_okq (⟨"PairSieve$Table", "isAt", "(II)Z"⟩, 3) := ⟨⟨by decide +kernel, by decide +kernel⟩, List.mem_of_getElem? (i := 29) (by decide +kernel), List.mem_of_getElem? (i := 244) (by decide +kernel), List.mem_of_getElem? (i := 245) (by decide +kernel)⟩
theorem lw_p3 : lw_okq (⟨"PairSieve", "weightOf", "(I)I"⟩, 13) := ⟨⟨by decide +kernel, by decide +kernel⟩, List.mem_of_getElem? (i := 19) (by decide +kernel), List.mem_of_getElem? (i := 249) (by decide +kernel), List.mem_of_getElem? (i := 250) (by decide +kernel)⟩
theorem lw_p4 : lw_okq (⟨"PairSieve$NumberSet", "placeOf", "(I)I"⟩, 4) := ⟨⟨by decide +kernel, by decide +kernel⟩, List.mem_of_getElem? (i := 189) (by decide +kernel), List.mem_of_getElem? (i := 258) (by decide +kernel), List.mem_of_getElem? (i := 259) (by decide +kernel)⟩
theorem lw_p5 : lw_okq (⟨"PairSieve", "weighAll", "()V"⟩, 13) := ⟨⟨by decide +kernel, by decide +kernel⟩, List.mem_of_getElem? (i := 19) (by decide +kernel), List.mem_of_getElem? (i := 282) (by decide +kernel), List.mem_of_getElem? (i := 283) (by decide +kernel)⟩
theorem lw_p6 : lw_okq (⟨"PairSieve$Tape", "countLikeOnesAhead", "(II)I"⟩, 3) := ⟨⟨by decide +kernel, by decide +kernel⟩, List.mem_of_getElem? (i := 66) (by decide +kernel), List.mem_of_getElem? (i := 322) (by decide +kernel), List.mem_of_getElem? (i := 323) (by decide +kernel)⟩
theorem lw_p7 : lw_okq (⟨"PairSieve$Tape", "pieceAt", "(II)I"⟩, 3) := ⟨⟨by decide +kernel, by decide +kernel⟩, List.mem_of_getElem? (i := 66) (by decide +kernel), List.mem_of_getElem? (i := 326) (by decide +kernel), List.mem_of_getElem? (i := 327) (by decide +kernel)⟩
theorem lw_p8 : lw_okq (⟨"PairSieve", "beginningOf", "(LPairSieve$NumberSet;)I"⟩, 13) := ⟨⟨by decide +kernel, by decide +kernel⟩, List.mem_of_getElem? (i := 19) (by decide +kernel), List.mem_of_getElem? (i := 382) (by decide +kernel), List.mem_of_getElem? (i := 383) (by decide +kernel)⟩
theorem lw_p9 : lw_okq (⟨"PairSieve", "freshNet", "()LPairSieve$Net;"⟩, 13) := ⟨⟨by decide +kernel, by decide +kernel⟩, List.mem_of_getElem? (i := 19) (by decide +kernel), List.mem_of_getElem? (i := 390) (by decide +kernel), List.mem_of_getElem? (i := 391) (by decide +kernel)⟩
theorem lw_p10 : lw_okq (⟨"PairSieve", "arePair", "(II)Z"⟩, 13) := ⟨⟨by decide +kernel, by decide +kernel⟩, List.mem_of_getElem? (i := 19) (by decide +kernel), List.mem_of_getElem? (i := 398) (by decide +kernel), List.mem_of_getElem? (i := 399) (by decide +kernel)⟩
theorem lw_p11 : lw_okq (⟨"PairSieve$Net", "friendsOf", "(J)J"⟩, 2) := ⟨⟨by decide +kernel, by decide +kernel⟩, List.mem_of_getElem? (i := 133) (by decide +kernel), List.mem_of_getElem? (i := 441) (by decide +kernel), List.mem_of_getElem? (i := 442) (by decide +kernel)⟩
theorem lw_p12 : lw_okq (⟨"PairSieve", "fateOf", "(LPairSieve$NumberSet;ILPairSieve$NumberSet;I)I"⟩, 13) := ⟨⟨by decide +kernel, by decide +kernel⟩, List.mem_of_getElem? (i := 19) (by decide +kernel), List.mem_of_getElem? (i := 481) (by decide +kernel), List.mem_of_getElem? (i := 482) (by decide +kernel)⟩
theorem lw_p13 : lw_okq (⟨"PairSieve", "startSieve", "()V"⟩, 13) := ⟨⟨by decide +kernel, by decide +kernel⟩, List.mem_of_getElem? (i := 19) (by decide +kernel), List.mem_of_getElem? (i := 490) (by decide +kernel), List.mem_of_getElem? (i := 491) (by decide +kernel)⟩
theorem lw_p14 : lw_okq (⟨"PairSieve", "sift", "(II)V"⟩, 13) := ⟨⟨by decide +kernel, by decide +kernel⟩, List.mem_of_getElem? (i := 19) (by decide +kernel), List.mem_of_getElem? (i := 498) (by decide +kernel), List.mem_of_getElem? (i := 499) (by decide +kernel)⟩
theorem lw_p15 : lw_okq (⟨"PairSieve", "rank", "(III)V"⟩, 13) := ⟨⟨by decide +kernel, by decide +kernel⟩, List.mem_of_getElem? (i := 19) (by decide +kernel), List.mem_of_getElem? (i := 514) (by decide +kernel), List.mem_of_getElem? (i := 515) (by decide +kernel)⟩
def lw_privs_1 : List (MethodName × Nat) := [(⟨"PairSieve", "setOf", "(I)LPairSieve$NumberSet;"⟩, 13), (⟨"PairSieve$Table", "placeOf", "(I)I"⟩, 3), (⟨"PairSieve$Table", "isAt", "(II)Z"⟩, 3), (⟨"PairSieve", "weightOf", "(I)I"⟩, 13), (⟨"PairSieve$NumberSet", "placeOf", "(I)I"⟩, 4), (⟨"PairSieve", "weighAll", "()V"⟩, 13), (⟨"PairSieve$Tape", "countLikeOnesAhead", "(II)I"⟩, 3), (⟨"PairSieve$Tape", "pieceAt", "(II)I"⟩, 3), (⟨"PairSieve", "beginningOf", "(LPairSieve$NumberSet;)I"⟩, 13), (⟨"PairSieve", "freshNet", "()LPairSieve$Net;"⟩, 13), (⟨"PairSieve", "arePair", "(II)Z"⟩, 13), (⟨"PairSieve$Net", "friendsOf", "(J)J"⟩, 2), (⟨"PairSieve", "fateOf", "(LPairSieve$NumberSet;ILPairSieve$NumberSet;I)I"⟩, 13), (⟨"PairSieve", "startSieve", "()V"⟩, 13), (⟨"PairSieve", "sift", "(II)V"⟩, 13), (⟨"PairSieve", "rank", "(III)V"⟩, 13)]
theorem lw_r1 : ∀ q ∈ lw_privs_1, lw_okq q := List.forall_mem_cons.mpr ⟨lw_p0, List.forall_mem_cons.mpr ⟨lw_p1, List.forall_mem_cons.mpr ⟨lw_p2, List.forall_mem_cons.mpr ⟨lw_p3, List.forall_mem_cons.mpr ⟨lw_p4, List.forall_mem_cons.mpr ⟨lw_p5, List.forall_mem_cons.mpr ⟨lw_p6, List.forall_mem_cons.mpr ⟨lw_p7, List.forall_mem_cons.mpr ⟨lw_p8, List.forall_mem_cons.mpr ⟨lw_p9, List.forall_mem_cons.mpr ⟨lw_p10, List.forall_mem_cons.mpr ⟨lw_p11, List.forall_mem_cons.mpr ⟨lw_p12, List.forall_mem_cons.mpr ⟨lw_p13, List.forall_mem_cons.mpr ⟨lw_p14, List.forall_mem_cons.mpr ⟨lw_p15, fun _ h => absurd h List.not_mem_nil⟩⟩⟩⟩⟩⟩⟩⟩⟩⟩⟩⟩⟩⟩⟩⟩
theorem lw_p16 : lw_okq (⟨"PairSieve", "countRecords", "()I"⟩, 13) := ⟨⟨by decide +kernel, by decide +kernel⟩, List.mem_of_getElem? (i := 19) (by decide +kernel), List.mem_of_getElem? (i := 570) (by decide +kernel), List.mem_of_getElem? (i := 571) (by decide +kernel)⟩
theorem lw_p17 : lw_okq (⟨"PairSieve", "countNumbers", "()I"⟩, 13) := ⟨⟨by decide +kernel, by decide +kernel⟩, List.mem_of_getElem? (i := 19) (by decide +kernel), List.mem_of_getElem? (i := 574) (by decide +kernel), List.mem_of_getElem? (i := 575) (by decide +kernel)⟩
theorem lw_p18 : lw_okq (⟨"PairSieve", "countFamilies", "()I"⟩, 13) := ⟨⟨by decide +kernel, by decide +kernel⟩, List.mem_of_getElem? (i := 19) (by decide +kernel), List.mem_of_getElem? (i := 578) (by decide +kernel), List.mem_of_getElem? (i := 579) (by decide +kernel)⟩
theorem lw_p19 : lw_okq (⟨"java/lang/Throwable", "fillInStackTrace", "(I)Ljava/lang/Throwable;"⟩, 6) := ⟨⟨by decide +kernel, by decide +kernel⟩, List.mem_of_getElem? (i := 626) (by decide +kernel), List.mem_of_getElem? (i := 624) (by decide +kernel), List.mem_of_getElem? (i := 625) (by decide +kernel)⟩
theorem lw_p20 : lw_okq (⟨"PairSieveModel", "is", "(I)Z"⟩, 30) := ⟨⟨by decide +kernel, by decide +kernel⟩, List.mem_of_getElem? (i := 656) (by decide +kernel), List.mem_of_getElem? (i := 766) (by decide +kernel), List.mem_of_getElem? (i := 767) (by decide +kernel)⟩
theorem lw_p21 : lw_okq (⟨"PairSieveModel", "place", "(II)I"⟩, 30) := ⟨⟨by decide +kernel, by decide +kernel⟩, List.mem_of_getElem? (i := 656) (by decide +kernel), List.mem_of_getElem? (i := 781) (by decide +kernel), List.mem_of_getElem? (i := 782) (by decide +kernel)⟩
theorem lw_p22 : lw_okq (⟨"PairSieveModel", "place0", "(II)I"⟩, 30) := ⟨⟨by decide +kernel, by decide +kernel⟩, List.mem_of_getElem? (i := 656) (by decide +kernel), List.mem_of_getElem? (i := 789) (by decide +kernel), List.mem_of_getElem? (i := 790) (by decide +kernel)⟩
theorem lw_p23 : lw_okq (⟨"PairSieveModel", "four", "(I)V"⟩, 30) := ⟨⟨by decide +kernel, by decide +kernel⟩, List.mem_of_getElem? (i := 656) (by decide +kernel), List.mem_of_getElem? (i := 801) (by decide +kernel), List.mem_of_getElem? (i := 802) (by decide +kernel)⟩
theorem lw_p24 : lw_okq (⟨"PairSieveModel", "piece", "(II)I"⟩, 30) := ⟨⟨by decide +kernel, by decide +kernel⟩, List.mem_of_getElem? (i := 656) (by decide +kernel), List.mem_of_getElem? (i := 813) (by decide +kernel), List.mem_of_getElem? (i := 814) (by decide +kernel)⟩
theorem lw_p25 : lw_okq (⟨"PairSieveModel", "frequencyOf", "(I)I"⟩, 30) := ⟨⟨by decide +kernel, by decide +kernel⟩, List.mem_of_getElem? (i := 656) (by decide +kernel), List.mem_of_getElem? (i := 829) (by decide +kernel), List.mem_of_getElem? (i := 830) (by decide +kernel)⟩
theorem lw_p26 : lw_okq (⟨"PairSieveModel", "isTwo", "(II)Z"⟩, 30) := ⟨⟨by decide +kernel, by decide +kernel⟩, List.mem_of_getElem? (i := 656) (by decide +kernel), List.mem_of_getElem? (i := 837) (by decide +kernel), List.mem_of_getElem? (i := 838) (by decide +kernel)⟩
theorem lw_p27 : lw_okq (⟨"PairSieveModel", "whyOf", "(II)I"⟩, 30) := ⟨⟨by decide +kernel, by decide +kernel⟩, List.mem_of_getElem? (i := 656) (by decide +kernel), List.mem_of_getElem? (i := 841) (by decide +kernel), List.mem_of_getElem? (i := 842) (by decide +kernel)⟩
theorem lw_p28 : lw_okq (⟨"PairSieveModel", "sort", "(I[I)V"⟩, 30) := ⟨⟨by decide +kernel, by decide +kernel⟩, List.mem_of_getElem? (i := 656) (by decide +kernel), List.mem_of_getElem? (i := 845) (by decide +kernel), List.mem_of_getElem? (i := 846) (by decide +kernel)⟩
theorem lw_p29 : lw_okq (⟨"PairSieveModel", "isAhead", "(II)Z"⟩, 30) := ⟨⟨by decide +kernel, by decide +kernel⟩, List.mem_of_getElem? (i := 656) (by decide +kernel), List.mem_of_getElem? (i := 849) (by decide +kernel), List.mem_of_getElem? (i := 850) (by decide +kernel)⟩
theorem lw_p30 : lw_okq (⟨"PairSieveModel", "beginning", "([II)I"⟩, 30) := ⟨⟨by decide +kernel, by decide +kernel⟩, List.mem_of_getElem? (i := 656) (by decide +kernel), List.mem_of_getElem? (i := 853) (by decide +kernel), List.mem_of_getElem? (i := 854) (by decide +kernel)⟩
theorem lw_p31 : lw_okq (⟨"PairSieveModel", "amount", "([III)I"⟩, 30) := ⟨⟨by decide +kernel, by decide +kernel⟩, List.mem_of_getElem? (i := 656) (by decide +kernel), List.mem_of_getElem? (i := 857) (by decide +kernel), List.mem_of_getElem? (i := 858) (by decide +kernel)⟩
def lw_privs_2 : List (MethodName × Nat) := [(⟨"PairSieve", "countRecords", "()I"⟩, 13), (⟨"PairSieve", "countNumbers", "()I"⟩, 13), (⟨"PairSieve", "countFamilies", "()I"⟩, 13), (⟨"java/lang/Throwable", "fillInStackTrace", "(I)Ljava/lang/Throwable;"⟩, 6), (⟨"PairSieveModel", "is", "(I)Z"⟩, 30), (⟨"PairSieveModel", "place", "(II)I"⟩, 30), (⟨"PairSieveModel", "place0", "(II)I"⟩, 30), (⟨"PairSieveModel", "four", "(I)V"⟩, 30), (⟨"PairSieveModel", "piece", "(II)I"⟩, 30), (⟨"PairSieveModel", "frequencyOf", "(I)I"⟩, 30), (⟨"PairSieveModel", "isTwo", "(II)Z"⟩, 30), (⟨"PairSieveModel", "whyOf", "(II)I"⟩, 30), (⟨"PairSieveModel", "sort", "(I[I)V"⟩, 30), (⟨"PairSieveModel", "isAhead", "(II)Z"⟩, 30), (⟨"PairSieveModel", "beginning", "([II)I"⟩, 30), (⟨"PairSieveModel", "amount", "([III)I"⟩, 30)]
theorem lw_r2 : ∀ q ∈ lw_privs_2, lw_okq q := List.forall_mem_cons.mpr ⟨lw_p16, List.forall_mem_cons.mpr ⟨lw_p17, List.forall_mem_cons.mpr ⟨lw_p18, List.forall_mem_cons.mpr ⟨lw_p19, List.forall_mem_cons.mpr ⟨lw_p20, List.forall_mem_cons.mpr ⟨lw_p21, List.forall_mem_cons.mpr ⟨lw_p22, List.forall_mem_cons.mpr ⟨lw_p23, List.forall_mem_cons.mpr ⟨lw_p24, List.forall_mem_cons.mpr ⟨lw_p25, List.forall_mem_cons.mpr ⟨lw_p26, List.forall_mem_cons.mpr ⟨lw_p27, List.forall_mem_cons.mpr ⟨lw_p28, List.forall_mem_cons.mpr ⟨lw_p29, List.forall_mem_cons.mpr ⟨lw_p30, List.forall_mem_cons.mpr ⟨lw_p31, fun _ h => absurd h List.not_mem_nil⟩⟩⟩⟩⟩⟩⟩⟩⟩⟩⟩⟩⟩⟩⟩⟩
theorem lw_p32 : lw_okq (⟨"PairSieveModel", "weightOf", "(I)I"⟩, 30) := ⟨⟨by decide +kernel, by decide +kernel⟩, List.mem_of_getElem? (i := 656) (by decide +kernel), List.mem_of_getElem? (i := 861) (by decide +kernel), List.mem_of_getElem? (i := 862) (by decide +kernel)⟩
theorem lw_p33 : lw_okq (⟨"PairSieveModel", "least", "(J)J"⟩, 30) := ⟨⟨by decide +kernel, by decide +kernel⟩, List.mem_of_getElem? (i := 656) (by decide +kernel), List.mem_of_getElem? (i := 865) (by decide +kernel), List.mem_of_getElem? (i := 866) (by decide +kernel)⟩
theorem lw_p34 : lw_okq (⟨"PairSieveModel", "amountOf", "(I)I"⟩, 30) := ⟨⟨by decide +kernel, by decide +kernel⟩, List.mem_of_getElem? (i := 656) (by decide +kernel), List.mem_of_getElem? (i := 873) (by decide +kernel), List.mem_of_getElem? (i := 874) (by decide +kernel)⟩
theorem lw_p35 : lw_okq (⟨"PairSieveModel", "needed", "(JJ)J"⟩, 30) := ⟨⟨by decide +kernel, by decide +kernel⟩, List.mem_of_getElem? (i := 656) (by decide +kernel), List.mem_of_getElem? (i := 877) (by decide +kernel), List.mem_of_getElem? (i := 878) (by decide +kernel)⟩
theorem lw_p36 : lw_okq (⟨"PairSieveModel", "isPair", "(II)Z"⟩, 30) := ⟨⟨by decide +kernel, by decide +kernel⟩, List.mem_of_getElem? (i := 656) (by decide +kernel), List.mem_of_getElem? (i := 881) (by decide +kernel), List.mem_of_getElem? (i := 882) (by decide +kernel)⟩
theorem lw_p37 : lw_okq (⟨"PairSieveModel", "shared", "(II)I"⟩, 30) := ⟨⟨by decide +kernel, by decide +kernel⟩, List.mem_of_getElem? (i := 656) (by decide +kernel), List.mem_of_getElem? (i := 885) (by decide +kernel), List.mem_of_getElem? (i := 886) (by decide +kernel)⟩
theorem lw_p38 : lw_okq (⟨"PairSieveModel", "above", "(JJJ)J"⟩, 30) := ⟨⟨by decide +kernel, by decide +kernel⟩, List.mem_of_getElem? (i := 656) (by decide +kernel), List.mem_of_getElem? (i := 889) (by decide +kernel), List.mem_of_getElem? (i := 890) (by decide +kernel)⟩
theorem lw_p39 : lw_okq (⟨"PairSieveModel", "below", "(JJJ)J"⟩, 30) := ⟨⟨by decide +kernel, by decide +kernel⟩, List.mem_of_getElem? (i := 656) (by decide +kernel), List.mem_of_getElem? (i := 893) (by decide +kernel), List.mem_of_getElem? (i := 894) (by decide +kernel)⟩
theorem lw_p40 : lw_okq (⟨"PairSieveModel", "keep", "(III)V"⟩, 30) := ⟨⟨by decide +kernel, by decide +kernel⟩, List.mem_of_getElem? (i := 656) (by decide +kernel), List.mem_of_getElem? (i := 909) (by decide +kernel), List.mem_of_getElem? (i := 910) (by decide +kernel)⟩
theorem lw_p41 : lw_okq (⟨"PairSieveModel", "spent", "()I"⟩, 30) := ⟨⟨by decide +kernel, by decide +kernel⟩, List.mem_of_getElem? (i := 656) (by decide +kernel), List.mem_of_getElem? (i := 913) (by decide +kernel), List.mem_of_getElem? (i := 914) (by decide +kernel)⟩
theorem lw_p42 : lw_okq (⟨"PairSieveModel", "isLiker", "(IIII)Z"⟩, 30) := ⟨⟨by decide +kernel, by decide +kernel⟩, List.mem_of_getElem? (i := 656) (by decide +kernel), List.mem_of_getElem? (i := 925) (by decide +kernel), List.mem_of_getElem? (i := 926) (by decide +kernel)⟩
theorem lw_p43 : lw_okq (⟨"PairSieveModel", "steps", "(I)V"⟩, 30) := ⟨⟨by decide +kernel, by decide +kernel⟩, List.mem_of_getElem? (i := 656) (by decide +kernel), List.mem_of_getElem? (i := 933) (by decide +kernel), List.mem_of_getElem? (i := 934) (by decide +kernel)⟩
theorem lw_p44 : lw_okq (⟨"PairSieveModel", "grow", "(IIII)V"⟩, 30) := ⟨⟨by decide +kernel, by decide +kernel⟩, List.mem_of_getElem? (i := 656) (by decide +kernel), List.mem_of_getElem? (i := 953) (by decide +kernel), List.mem_of_getElem? (i := 954) (by decide +kernel)⟩
def lw_privs_3 : List (MethodName × Nat) := [(⟨"PairSieveModel", "weightOf", "(I)I"⟩, 30), (⟨"PairSieveModel", "least", "(J)J"⟩, 30), (⟨"PairSieveModel", "amountOf", "(I)I"⟩, 30), (⟨"PairSieveModel", "needed", "(JJ)J"⟩, 30), (⟨"PairSieveModel", "isPair", "(II)Z"⟩, 30), (⟨"PairSieveModel", "shared", "(II)I"⟩, 30), (⟨"PairSieveModel", "above", "(JJJ)J"⟩, 30), (⟨"PairSieveModel", "below", "(JJJ)J"⟩, 30), (⟨"PairSieveModel", "keep", "(III)V"⟩, 30), (⟨"PairSieveModel", "spent", "()I"⟩, 30), (⟨"PairSieveModel", "isLiker", "(IIII)Z"⟩, 30), (⟨"PairSieveModel", "steps", "(I)V"⟩, 30), (⟨"PairSieveModel", "grow", "(IIII)V"⟩, 30)]
theorem lw_r3 : ∀ q ∈ lw_privs_3, lw_okq q := List.forall_mem_cons.mpr ⟨lw_p32, List.forall_mem_cons.mpr ⟨lw_p33, List.forall_mem_cons.mpr ⟨lw_p34, List.forall_mem_cons.mpr ⟨lw_p35, List.forall_mem_cons.mpr ⟨lw_p36, List.forall_mem_cons.mpr ⟨lw_p37, List.forall_mem_cons.mpr ⟨lw_p38, List.forall_mem_cons.mpr ⟨lw_p39, List.forall_mem_cons.mpr ⟨lw_p40, List.forall_mem_cons.mpr ⟨lw_p41, List.forall_mem_cons.mpr ⟨lw_p42, List.forall_mem_cons.mpr ⟨lw_p43, List.forall_mem_cons.mpr ⟨lw_p44, fun _ h => absurd h List.not_mem_nil⟩⟩⟩⟩⟩⟩⟩⟩⟩⟩⟩⟩⟩
def lw_privs : List (MethodName × Nat) := lw_privs_1 ++ (lw_privs_2 ++ (lw_privs_3))
def lw_tbl : List Cond := k2_sels lw_privs ++ tables_1
theorem lw_privs_ok : ∀ q ∈ lw_privs, lw_okq q := by
  show ∀ q ∈ lw_privs_1 ++ (lw_privs_2 ++ (lw_privs_3)), lw_okq q
  exact List.forall_mem_append.mpr ⟨lw_r1, List.forall_mem_append.mpr ⟨lw_r2, lw_r3⟩⟩
end
section
/-! ===== BEGIN words of one list among another's, by their places ===== -/
theorem goodIn_r {big : List Cond} (ws : List Cond) (ps : List Nat) (hp : ws = ps.filterMap (fun i => big[i]?)) (h : ws.all goodWord = true) : GoodIn big ws := by
  intro w hw
  have h1 := List.all_eq_true.mp h w hw
  rw [hp] at hw
  obtain ⟨i, -, hi⟩ := List.mem_filterMap.mp hw
  have hm : w ∈ big := by first | exact List.mem_of_getElem? hi | exact List.getElem?_mem hi
  exact ⟨hm, good_of_word h1⟩
theorem goodIn_app {big a b : List Cond} (ha : GoodIn big a) (hb : GoodIn big b) : GoodIn big (a ++ b) := fun w h => (List.mem_append.mp h).elim (ha w) (hb w)
theorem goodIn_ca {big a b : List Cond} {c : Cond} (ha : GoodIn big (c :: a)) (hb : GoodIn big b) : GoodIn big (c :: (a ++ b)) := fun w h => (List.mem_cons.mp h).elim (fun e => ha w (List.mem_cons.mpr (Or.inl e))) (fun h => (List.mem_append.mp h).elim (fun h => ha w (List.mem_cons.mpr (Or.inr h))) (hb w))
theorem goodIn_sub {big ws : List Cond} (hm : ∀ w ∈ ws, w ∈ big) (h : ws.all goodWord = true) : GoodIn big ws := fun w hw => ⟨hm w hw, good_of_word (List.all_eq_true.mp h w hw)⟩
/-! ===== END ===== -/
/-! ===== BEGIN printed: names, fields, word lists, decode rows ===== -/
def RX0 : String := "PairSieve$KeptPairs"
def TX0 : u_T := fun k => match k with
  | 0 => ("PairSieve$KeptPairs", "first", "[I", true)
  | 1 => ("PairSieve$KeptPairs", "second", "[I", true)
  | 2 => ("PairSieve$KeptPairs", "shared", "[I", true)
  | 3 => ("PairSieve$KeptPairs", "above", "[J", true)
  | 4 => ("PairSieve$KeptPairs", "below", "[J", true)
  | _ => ("PairSieve$KeptPairs", "size", "I", false)
def tyX0 : Nat → FieldType := fun k => match k with
  | 0 => .array .int
  | 1 => .array .int
  | 2 => .array .int
  | 3 => .array .long
  | 4 => .array .long
  | _ => .int
abbrev wsX00 : List Cond := u_ws RX0 TX0 6
theorem nmX0 : ∀ a, a < 6 → ∀ b, b < 6 → a ≠ b → (TX0 a).2.1 ≠ (TX0 b).2.1 := by decide +kernel
theorem tyX0_ok : ∀ k, k < 6 → parseFieldDescriptor (TX0 k).2.2.1 = some (tyX0 k) := by decide +kernel
abbrev cX0_init : ByteArray := prog_2_method_1_code
def yX0_init : MethodName := ⟨RX0, "<init>", "()V"⟩
abbrev cX0_clear : ByteArray := prog_2_method_2_code
def yX0_clear : MethodName := ⟨RX0, "clear", "()V"⟩
abbrev cX0_append : ByteArray := prog_2_method_3_code
def yX0_append : MethodName := ⟨RX0, "append", "(III)V"⟩
abbrev cX0_set : ByteArray := prog_2_method_4_code
def yX0_set : MethodName := ⟨RX0, "set", "(IIII)V"⟩
abbrev cX0_setLikeness : ByteArray := prog_2_method_5_code
def yX0_setLikeness : MethodName := ⟨RX0, "setLikeness", "(IJJ)V"⟩
abbrev cX0_placeFor : ByteArray := prog_2_method_6_code
def yX0_placeFor : MethodName := ⟨RX0, "placeFor", "(JJ)I"⟩
abbrev cX0_makeRoom : ByteArray := prog_2_method_7_code
def yX0_makeRoom : MethodName := ⟨RX0, "makeRoom", "(II)V"⟩
def RX1 : String := "PairSieve$Measure"
def TX1 : u_T := fun k => match k with
  | 0 => ("PairSieve$Measure", "kind", "I", false)
  | 1 => ("PairSieve$Measure", "p", "I", false)
  | _ => ("PairSieve$Measure", "q", "I", false)
def tyX1 : Nat → FieldType := fun k => match k with
  | 0 => .int
  | 1 => .int
  | _ => .int
abbrev wsX10 : List Cond := u_ws RX1 TX1 3
theorem nmX1 : ∀ a, a < 3 → ∀ b, b < 3 → a ≠ b → (TX1 a).2.1 ≠ (TX1 b).2.1 := by decide +kernel
theorem tyX1_ok : ∀ k, k < 3 → parseFieldDescriptor (TX1 k).2.2.1 = some (tyX1 k) := by decide +kernel
abbrev cX1_init : ByteArray := prog_3_method_1_code
def yX1_init : MethodName := ⟨RX1, "<init>", "()V"⟩
abbrev cX1_tell : ByteArray := prog_3_method_2_code
def yX1_tell : MethodName := ⟨RX1, "tell", "(III)Z"⟩
abbrev cX1_isAllowed : ByteArray := prog_3_method_3_code
def yX1_isAllowed : MethodName := ⟨RX1, "isAllowed", "(III)Z"⟩
abbrev cX1_needed : ByteArray := prog_3_method_4_code
def yX1_needed : MethodName := ⟨RX1, "needed", "(JJ)J"⟩
abbrev cX1_least : ByteArray := prog_3_method_5_code
def yX1_least : MethodName := ⟨RX1, "least", "(J)J"⟩
abbrev cX1_isReached : ByteArray := prog_3_method_6_code
def yX1_isReached : MethodName := ⟨RX1, "isReached", "(JJJ)Z"⟩
abbrev cX1_likenessAbove : ByteArray := prog_3_method_7_code
def yX1_likenessAbove : MethodName := ⟨RX1, "likenessAbove", "(JJJ)J"⟩
abbrev cX1_likenessBelow : ByteArray := prog_3_method_8_code
def yX1_likenessBelow : MethodName := ⟨RX1, "likenessBelow", "(JJJ)J"⟩
abbrev cX1_withoutDivisor : ByteArray := prog_3_method_9_code
def yX1_withoutDivisor : MethodName := ⟨RX1, "withoutDivisor", "(JJJ)J"⟩
abbrev cX1_quotientUp : ByteArray := prog_3_method_10_code
def yX1_quotientUp : MethodName := ⟨RX1, "quotientUp", "(JJ)J"⟩
abbrev cX1_rootUp : ByteArray := prog_3_method_11_code
def yX1_rootUp : MethodName := ⟨RX1, "rootUp", "(JJ)J"⟩
def RX2 : String := "PairSieve$Net"
def TX2 : u_T := fun k => match k with
  | 0 => ("PairSieve$Net", "friends", "[J", true)
  | _ => ("PairSieve$Net", "forgotten", "J", false)
def tyX2 : Nat → FieldType := fun k => match k with
  | 0 => .array .long
  | _ => .long
abbrev wsX20 : List Cond := u_ws RX2 TX2 2
theorem nmX2 : ∀ a, a < 2 → ∀ b, b < 2 → a ≠ b → (TX2 a).2.1 ≠ (TX2 b).2.1 := by decide +kernel
theorem tyX2_ok : ∀ k, k < 2 → parseFieldDescriptor (TX2 k).2.2.1 = some (tyX2 k) := by decide +kernel
abbrev cX2_init : ByteArray := prog_4_method_1_code
def yX2_init : MethodName := ⟨RX2, "<init>", "()V"⟩
abbrev cX2_forget : ByteArray := prog_4_method_2_code
def yX2_forget : MethodName := ⟨RX2, "forget", "(I)V"⟩
abbrev cX2_isForgotten : ByteArray := prog_4_method_3_code
def yX2_isForgotten : MethodName := ⟨RX2, "isForgotten", "(I)Z"⟩
abbrev cX2_know : ByteArray := prog_4_method_4_code
def yX2_know : MethodName := ⟨RX2, "know", "(I)V"⟩
abbrev cX2_tie : ByteArray := prog_4_method_5_code
def yX2_tie : MethodName := ⟨RX2, "tie", "(IIZ)V"⟩
abbrev cX2_leastOf : ByteArray := prog_4_method_6_code
def yX2_leastOf : MethodName := ⟨RX2, "leastOf", "(J)I"⟩
abbrev cX2_familyOf : ByteArray := prog_4_method_7_code
def yX2_familyOf : MethodName := ⟨RX2, "familyOf", "(I)J"⟩
abbrev cX2_stepsBetween : ByteArray := prog_4_method_8_code
def yX2_stepsBetween : MethodName := ⟨RX2, "stepsBetween", "(II)I"⟩
abbrev cX2_firstStep : ByteArray := prog_4_method_9_code
def yX2_firstStep : MethodName := ⟨RX2, "firstStep", "(III)I"⟩
abbrev cX2_coreOf : ByteArray := prog_4_method_10_code
def yX2_coreOf : MethodName := ⟨RX2, "coreOf", "(J)J"⟩
abbrev cX2_friendsOf : ByteArray := prog_4_method_11_code
def yX2_friendsOf : MethodName := ⟨RX2, "friendsOf", "(J)J"⟩
abbrev cX2_greatestCore : ByteArray := prog_4_method_12_code
def yX2_greatestCore : MethodName := ⟨RX2, "greatestCore", "([JJJJI)J"⟩
def RX3 : String := "PairSieve$NumberSet"
def TX3 : u_T := fun k => match k with
  | 0 => ("PairSieve$NumberSet", "keys", "[I", true)
  | 1 => ("PairSieve$NumberSet", "weights", "[I", true)
  | 2 => ("PairSieve$NumberSet", "size", "I", false)
  | _ => ("PairSieve$NumberSet", "amount", "I", false)
def tyX3 : Nat → FieldType := fun k => match k with
  | 0 => .array .int
  | 1 => .array .int
  | 2 => .int
  | _ => .int
abbrev wsX30 : List Cond := u_ws RX3 TX3 4
theorem nmX3 : ∀ a, a < 4 → ∀ b, b < 4 → a ≠ b → (TX3 a).2.1 ≠ (TX3 b).2.1 := by decide +kernel
theorem tyX3_ok : ∀ k, k < 4 → parseFieldDescriptor (TX3 k).2.2.1 = some (tyX3 k) := by decide +kernel
abbrev cX3_init : ByteArray := prog_5_method_1_code
def yX3_init : MethodName := ⟨RX3, "<init>", "()V"⟩
abbrev cX3_keyOf : ByteArray := prog_5_method_2_code
def yX3_keyOf : MethodName := ⟨RX3, "keyOf", "(ILPairSieve$Table;)I"⟩
abbrev cX3_numberAt : ByteArray := prog_5_method_3_code
def yX3_numberAt : MethodName := ⟨RX3, "numberAt", "(I)I"⟩
abbrev cX3_clear : ByteArray := prog_5_method_4_code
def yX3_clear : MethodName := ⟨RX3, "clear", "()V"⟩
abbrev cX3_insert : ByteArray := prog_5_method_5_code
def yX3_insert : MethodName := ⟨RX3, "insert", "(II)Z"⟩
abbrev cX3_remove : ByteArray := prog_5_method_6_code
def yX3_remove : MethodName := ⟨RX3, "remove", "(I)Z"⟩
abbrev cX3_reweigh : ByteArray := prog_5_method_7_code
def yX3_reweigh : MethodName := ⟨RX3, "reweigh", "(II)V"⟩
abbrev cX3_putInOrder : ByteArray := prog_5_method_8_code
def yX3_putInOrder : MethodName := ⟨RX3, "putInOrder", "(LPairSieve$Table;)V"⟩
abbrev cX3_countBeginning : ByteArray := prog_5_method_9_code
def yX3_countBeginning : MethodName := ⟨RX3, "countBeginning", "(J)I"⟩
abbrev cX3_amountBehind : ByteArray := prog_5_method_10_code
def yX3_amountBehind : MethodName := ⟨RX3, "amountBehind", "(I)I"⟩
abbrev cX3_placeOf : ByteArray := prog_5_method_11_code
def yX3_placeOf : MethodName := ⟨RX3, "placeOf", "(I)I"⟩
def RX4 : String := "PairSieve$Overlap"
def TX4 : u_T := fun k => match k with
  | 0 => ("PairSieve$Overlap", "shared", "I", false)
  | 1 => ("PairSieve$Overlap", "sharedInBeginnings", "I", false)
  | _ => ("PairSieve$Overlap", "mostByPlaces", "I", false)
def tyX4 : Nat → FieldType := fun k => match k with
  | 0 => .int
  | 1 => .int
  | _ => .int
abbrev wsX40 : List Cond := u_ws RX4 TX4 3
theorem nmX4 : ∀ a, a < 3 → ∀ b, b < 3 → a ≠ b → (TX4 a).2.1 ≠ (TX4 b).2.1 := by decide +kernel
theorem tyX4_ok : ∀ k, k < 3 → parseFieldDescriptor (TX4 k).2.2.1 = some (tyX4 k) := by decide +kernel
abbrev cX4_init : ByteArray := prog_6_method_1_code
def yX4_init : MethodName := ⟨RX4, "<init>", "()V"⟩
abbrev cX4_compare : ByteArray := prog_6_method_2_code
def yX4_compare : MethodName := ⟨RX4, "compare", "(LPairSieve$NumberSet;ILPairSieve$NumberSet;I)V"⟩
def RX5 : String := "PairSieve$Table"
def TX5 : u_T := fun k => match k with
  | 0 => ("PairSieve$Table", "numbers", "[I", true)
  | 1 => ("PairSieve$Table", "values", "[I", true)
  | _ => ("PairSieve$Table", "size", "I", false)
def tyX5 : Nat → FieldType := fun k => match k with
  | 0 => .array .int
  | 1 => .array .int
  | _ => .int
abbrev wsX50 : List Cond := u_ws RX5 TX5 3
theorem nmX5 : ∀ a, a < 3 → ∀ b, b < 3 → a ≠ b → (TX5 a).2.1 ≠ (TX5 b).2.1 := by decide +kernel
theorem tyX5_ok : ∀ k, k < 3 → parseFieldDescriptor (TX5 k).2.2.1 = some (tyX5 k) := by decide +kernel
abbrev cX5_init : ByteArray := prog_7_method_1_code
def yX5_init : MethodName := ⟨RX5, "<init>", "(I)V"⟩
abbrev cX5_clear : ByteArray := prog_7_method_2_code
def yX5_clear : MethodName := ⟨RX5, "clear", "()V"⟩
abbrev cX5_valueOf : ByteArray := prog_7_method_3_code
def yX5_valueOf : MethodName := ⟨RX5, "valueOf", "(II)I"⟩
abbrev cX5_raise : ByteArray := prog_7_method_4_code
def yX5_raise : MethodName := ⟨RX5, "raise", "(I)V"⟩
abbrev cX5_write : ByteArray := prog_7_method_5_code
def yX5_write : MethodName := ⟨RX5, "write", "(II)Z"⟩
abbrev cX5_isAt : ByteArray := prog_7_method_6_code
def yX5_isAt : MethodName := ⟨RX5, "isAt", "(II)Z"⟩
abbrev cX5_placeOf : ByteArray := prog_7_method_7_code
def yX5_placeOf : MethodName := ⟨RX5, "placeOf", "(I)I"⟩
def RX6 : String := "PairSieve$Tape"
def TX6 : u_T := fun k => match k with
  | 0 => ("PairSieve$Tape", "bytes", "[I", true)
  | 1 => ("PairSieve$Tape", "length", "I", false)
  | _ => ("PairSieve$Tape", "numbers", "[I", true)
def tyX6 : Nat → FieldType := fun k => match k with
  | 0 => .array .int
  | 1 => .int
  | _ => .array .int
abbrev wsX60 : List Cond := u_ws RX6 TX6 3
theorem nmX6 : ∀ a, a < 3 → ∀ b, b < 3 → a ≠ b → (TX6 a).2.1 ≠ (TX6 b).2.1 := by decide +kernel
theorem tyX6_ok : ∀ k, k < 3 → parseFieldDescriptor (TX6 k).2.2.1 = some (tyX6 k) := by decide +kernel
abbrev cX6_init : ByteArray := prog_8_method_1_code
def yX6_init : MethodName := ⟨RX6, "<init>", "()V"⟩
abbrev cX6_hasRoomFor : ByteArray := prog_8_method_2_code
def yX6_hasRoomFor : MethodName := ⟨RX6, "hasRoomFor", "(I)Z"⟩
abbrev cX6_append : ByteArray := prog_8_method_3_code
def yX6_append : MethodName := ⟨RX6, "append", "(I)V"⟩
abbrev cX6_cut : ByteArray := prog_8_method_4_code
def yX6_cut : MethodName := ⟨RX6, "cut", "(I)Z"⟩
abbrev cX6_findNumbers : ByteArray := prog_8_method_5_code
def yX6_findNumbers : MethodName := ⟨RX6, "findNumbers", "(I)I"⟩
abbrev cX6_countLikeOnesAhead : ByteArray := prog_8_method_6_code
def yX6_countLikeOnesAhead : MethodName := ⟨RX6, "countLikeOnesAhead", "(II)I"⟩
abbrev cX6_pieceAt : ByteArray := prog_8_method_7_code
def yX6_pieceAt : MethodName := ⟨RX6, "pieceAt", "(II)I"⟩
def RX7 : String := "PairSieve"
def TX7 : u_T := fun k => match k with
  | 0 => ("PairSieve", "sets", "[LPairSieve$NumberSet;", true)
  | 1 => ("PairSieve", "made", "I", false)
  | 2 => ("PairSieve", "frequencies", "LPairSieve$Table;", true)
  | 3 => ("PairSieve", "told", "LPairSieve$Table;", true)
  | 4 => ("PairSieve", "limit", "LPairSieve$Measure;", true)
  | 5 => ("PairSieve", "tape", "LPairSieve$Tape;", true)
  | 6 => ("PairSieve", "overlap", "LPairSieve$Overlap;", true)
  | 7 => ("PairSieve", "beginnings", "[I", true)
  | 8 => ("PairSieve", "tally", "[I", true)
  | 9 => ("PairSieve", "spent", "I", false)
  | 10 => ("PairSieve", "kept", "LPairSieve$KeptPairs;", true)
  | 11 => ("PairSieve", "net", "LPairSieve$Net;", true)
  | _ => ("PairSieve", "keptCore", "J", false)
def tyX7 : Nat → FieldType := fun k => match k with
  | 0 => .array (.object "PairSieve$NumberSet")
  | 1 => .int
  | 2 => .object "PairSieve$Table"
  | 3 => .object "PairSieve$Table"
  | 4 => .object "PairSieve$Measure"
  | 5 => .object "PairSieve$Tape"
  | 6 => .object "PairSieve$Overlap"
  | 7 => .array .int
  | 8 => .array .int
  | 9 => .int
  | 10 => .object "PairSieve$KeptPairs"
  | 11 => .object "PairSieve$Net"
  | _ => .long
abbrev wsX70 : List Cond := u_ws RX7 TX7 13
theorem nmX7 : ∀ a, a < 13 → ∀ b, b < 13 → a ≠ b → (TX7 a).2.1 ≠ (TX7 b).2.1 := by decide +kernel
theorem tyX7_ok : ∀ k, k < 13 → parseFieldDescriptor (TX7 k).2.2.1 = some (tyX7 k) := by decide +kernel
abbrev cX7_init : ByteArray := prog_1_method_1_code
def yX7_init : MethodName := ⟨RX7, "<init>", "()V"⟩
abbrev cX7_record : ByteArray := prog_1_method_2_code
def yX7_record : MethodName := ⟨RX7, "record", "()I"⟩
abbrev cX7_drop : ByteArray := prog_1_method_3_code
def yX7_drop : MethodName := ⟨RX7, "drop", "(I)Z"⟩
abbrev cX7_put : ByteArray := prog_1_method_4_code
def yX7_put : MethodName := ⟨RX7, "put", "(II)Z"⟩
abbrev cX7_take : ByteArray := prog_1_method_5_code
def yX7_take : MethodName := ⟨RX7, "take", "(II)Z"⟩
abbrev cX7_weight : ByteArray := prog_1_method_6_code
def yX7_weight : MethodName := ⟨RX7, "weight", "(II)Z"⟩
abbrev cX7_feed : ByteArray := prog_1_method_7_code
def yX7_feed : MethodName := ⟨RX7, "feed", "(IIIII)I"⟩
abbrev cX7_end : ByteArray := prog_1_method_8_code
def yX7_end : MethodName := ⟨RX7, "end", "(I)I"⟩
abbrev cX7_text : ByteArray := prog_1_method_9_code
def yX7_text : MethodName := ⟨RX7, "text", "(II)I"⟩
abbrev cX7_measure : ByteArray := prog_1_method_10_code
def yX7_measure : MethodName := ⟨RX7, "measure", "(III)Z"⟩
abbrev cX7_order : ByteArray := prog_1_method_11_code
def yX7_order : MethodName := ⟨RX7, "order", "()I"⟩
abbrev cX7_frequency : ByteArray := prog_1_method_12_code
def yX7_frequency : MethodName := ⟨RX7, "frequency", "(I)I"⟩
abbrev cX7_about : ByteArray := prog_1_method_13_code
def yX7_about : MethodName := ⟨RX7, "about", "(II)I"⟩
abbrev cX7_at : ByteArray := prog_1_method_14_code
def yX7_at : MethodName := ⟨RX7, "at", "(II)I"⟩
abbrev cX7_like : ByteArray := prog_1_method_15_code
def yX7_like : MethodName := ⟨RX7, "like", "(III)J"⟩
abbrev cX7_why : ByteArray := prog_1_method_16_code
def yX7_why : MethodName := ⟨RX7, "why", "(II)I"⟩
abbrev cX7_pairs : ByteArray := prog_1_method_17_code
def yX7_pairs : MethodName := ⟨RX7, "pairs", "()I"⟩
abbrev cX7_pair : ByteArray := prog_1_method_18_code
def yX7_pair : MethodName := ⟨RX7, "pair", "(II)I"⟩
abbrev cX7_top : ByteArray := prog_1_method_19_code
def yX7_top : MethodName := ⟨RX7, "top", "(I)I"⟩
abbrev cX7_core : ByteArray := prog_1_method_20_code
def yX7_core : MethodName := ⟨RX7, "core", "(I)I"⟩
abbrev cX7_member : ByteArray := prog_1_method_21_code
def yX7_member : MethodName := ⟨RX7, "member", "(I)I"⟩
abbrev cX7_chain : ByteArray := prog_1_method_22_code
def yX7_chain : MethodName := ⟨RX7, "chain", "(II)I"⟩
abbrev cX7_next : ByteArray := prog_1_method_23_code
def yX7_next : MethodName := ⟨RX7, "next", "(II)I"⟩
abbrev cX7_count : ByteArray := prog_1_method_24_code
def yX7_count : MethodName := ⟨RX7, "count", "(I)I"⟩
abbrev cX7_isNumber : ByteArray := prog_1_method_25_code
def yX7_isNumber : MethodName := ⟨RX7, "isNumber", "(I)Z"⟩
abbrev cX7_setOf : ByteArray := prog_1_method_26_code
def yX7_setOf : MethodName := ⟨RX7, "setOf", "(I)LPairSieve$NumberSet;"⟩
abbrev cX7_weightOf : ByteArray := prog_1_method_27_code
def yX7_weightOf : MethodName := ⟨RX7, "weightOf", "(I)I"⟩
abbrev cX7_weighAll : ByteArray := prog_1_method_28_code
def yX7_weighAll : MethodName := ⟨RX7, "weighAll", "()V"⟩
abbrev cX7_beginningOf : ByteArray := prog_1_method_29_code
def yX7_beginningOf : MethodName := ⟨RX7, "beginningOf", "(LPairSieve$NumberSet;)I"⟩
abbrev cX7_fateOf : ByteArray := prog_1_method_30_code
def yX7_fateOf : MethodName := ⟨RX7, "fateOf", "(LPairSieve$NumberSet;ILPairSieve$NumberSet;I)I"⟩
abbrev cX7_startSieve : ByteArray := prog_1_method_31_code
def yX7_startSieve : MethodName := ⟨RX7, "startSieve", "()V"⟩
abbrev cX7_sift : ByteArray := prog_1_method_32_code
def yX7_sift : MethodName := ⟨RX7, "sift", "(II)V"⟩
abbrev cX7_rank : ByteArray := prog_1_method_33_code
def yX7_rank : MethodName := ⟨RX7, "rank", "(III)V"⟩
abbrev cX7_freshNet : ByteArray := prog_1_method_34_code
def yX7_freshNet : MethodName := ⟨RX7, "freshNet", "()LPairSieve$Net;"⟩
abbrev cX7_arePair : ByteArray := prog_1_method_35_code
def yX7_arePair : MethodName := ⟨RX7, "arePair", "(II)Z"⟩
abbrev cX7_countRecords : ByteArray := prog_1_method_36_code
def yX7_countRecords : MethodName := ⟨RX7, "countRecords", "()I"⟩
abbrev cX7_countNumbers : ByteArray := prog_1_method_37_code
def yX7_countNumbers : MethodName := ⟨RX7, "countNumbers", "()I"⟩
abbrev cX7_countFamilies : ByteArray := prog_1_method_38_code
def yX7_countFamilies : MethodName := ⟨RX7, "countFamilies", "()I"⟩
def RX8 : String := "PairSieveModel"
def TX8 : u_T := fun k => match k with
  | 0 => ("PairSieveModel", "thrown", "I", false)
  | 1 => ("PairSieveModel", "records", "I", false)
  | 2 => ("PairSieveModel", "isDropped", "[Z", true)
  | 3 => ("PairSieveModel", "many", "[I", true)
  | 4 => ("PairSieveModel", "set", "[I", true)
  | 5 => ("PairSieveModel", "told", "I", false)
  | 6 => ("PairSieveModel", "toldNumber", "[I", true)
  | 7 => ("PairSieveModel", "toldWeight", "[I", true)
  | 8 => ("PairSieveModel", "known", "I", false)
  | 9 => ("PairSieveModel", "knownNumber", "[I", true)
  | 10 => ("PairSieveModel", "knownMany", "[I", true)
  | 11 => ("PairSieveModel", "kind", "I", false)
  | 12 => ("PairSieveModel", "p", "I", false)
  | 13 => ("PairSieveModel", "q", "I", false)
  | 14 => ("PairSieveModel", "one", "[I", true)
  | 15 => ("PairSieveModel", "two", "[I", true)
  | 16 => ("PairSieveModel", "tape", "[I", true)
  | 17 => ("PairSieveModel", "taped", "I", false)
  | 18 => ("PairSieveModel", "kept", "I", false)
  | 19 => ("PairSieveModel", "keptA", "[I", true)
  | 20 => ("PairSieveModel", "keptB", "[I", true)
  | 21 => ("PairSieveModel", "keptS", "[I", true)
  | 22 => ("PairSieveModel", "sieved", "[I", true)
  | 23 => ("PairSieveModel", "far", "[I", true)
  | 24 => ("PairSieveModel", "familyMany", "I", false)
  | 25 => ("PairSieveModel", "coreMany", "I", false)
  | 26 => ("PairSieveModel", "family", "[I", true)
  | 27 => ("PairSieveModel", "beside", "[I", true)
  | 28 => ("PairSieveModel", "coreOf", "[I", true)
  | _ => ("PairSieveModel", "best", "I", false)
def tyX8 : Nat → FieldType := fun k => match k with
  | 0 => .int
  | 1 => .int
  | 2 => .array .boolean
  | 3 => .array .int
  | 4 => .array .int
  | 5 => .int
  | 6 => .array .int
  | 7 => .array .int
  | 8 => .int
  | 9 => .array .int
  | 10 => .array .int
  | 11 => .int
  | 12 => .int
  | 13 => .int
  | 14 => .array .int
  | 15 => .array .int
  | 16 => .array .int
  | 17 => .int
  | 18 => .int
  | 19 => .array .int
  | 20 => .array .int
  | 21 => .array .int
  | 22 => .array .int
  | 23 => .array .int
  | 24 => .int
  | 25 => .int
  | 26 => .array .int
  | 27 => .array .int
  | 28 => .array .int
  | _ => .int
abbrev wsX80 : List Cond := u_ws RX8 TX8 30
theorem nmX8 : ∀ a, a < 30 → ∀ b, b < 30 → a ≠ b → (TX8 a).2.1 ≠ (TX8 b).2.1 := by decide +kernel
theorem tyX8_ok : ∀ k, k < 30 → parseFieldDescriptor (TX8 k).2.2.1 = some (tyX8 k) := by decide +kernel
abbrev cX8_init : ByteArray := prog_10_method_1_code
def yX8_init : MethodName := ⟨RX8, "<init>", "()V"⟩
abbrev cX8_thrown : ByteArray := prog_10_method_2_code
def yX8_thrown : MethodName := ⟨RX8, "thrown", "()I"⟩
abbrev cX8_in : ByteArray := prog_10_method_3_code
def yX8_in : MethodName := ⟨RX8, "in", "(III)Z"⟩
abbrev cX8_is : ByteArray := prog_10_method_4_code
def yX8_is : MethodName := ⟨RX8, "is", "(I)Z"⟩
abbrev cX8_isTwo : ByteArray := prog_10_method_5_code
def yX8_isTwo : MethodName := ⟨RX8, "isTwo", "(II)Z"⟩
abbrev cX8_isNumber : ByteArray := prog_10_method_6_code
def yX8_isNumber : MethodName := ⟨RX8, "isNumber", "(I)Z"⟩
abbrev cX8_place : ByteArray := prog_10_method_7_code
def yX8_place : MethodName := ⟨RX8, "place", "(II)I"⟩
abbrev cX8_record : ByteArray := prog_10_method_8_code
def yX8_record : MethodName := ⟨RX8, "record", "()I"⟩
abbrev cX8_drop : ByteArray := prog_10_method_9_code
def yX8_drop : MethodName := ⟨RX8, "drop", "(I)Z"⟩
abbrev cX8_put : ByteArray := prog_10_method_10_code
def yX8_put : MethodName := ⟨RX8, "put", "(II)Z"⟩
abbrev cX8_take : ByteArray := prog_10_method_11_code
def yX8_take : MethodName := ⟨RX8, "take", "(II)Z"⟩
abbrev cX8_place0 : ByteArray := prog_10_method_12_code
def yX8_place0 : MethodName := ⟨RX8, "place0", "(II)I"⟩
abbrev cX8_weight : ByteArray := prog_10_method_13_code
def yX8_weight : MethodName := ⟨RX8, "weight", "(II)Z"⟩
abbrev cX8_weightOf : ByteArray := prog_10_method_14_code
def yX8_weightOf : MethodName := ⟨RX8, "weightOf", "(I)I"⟩
abbrev cX8_frequencyOf : ByteArray := prog_10_method_15_code
def yX8_frequencyOf : MethodName := ⟨RX8, "frequencyOf", "(I)I"⟩
abbrev cX8_isAhead : ByteArray := prog_10_method_16_code
def yX8_isAhead : MethodName := ⟨RX8, "isAhead", "(II)Z"⟩
abbrev cX8_sort : ByteArray := prog_10_method_17_code
def yX8_sort : MethodName := ⟨RX8, "sort", "(I[I)V"⟩
abbrev cX8_amount : ByteArray := prog_10_method_18_code
def yX8_amount : MethodName := ⟨RX8, "amount", "([III)I"⟩
abbrev cX8_amountOf : ByteArray := prog_10_method_19_code
def yX8_amountOf : MethodName := ⟨RX8, "amountOf", "(I)I"⟩
abbrev cX8_shared : ByteArray := prog_10_method_20_code
def yX8_shared : MethodName := ⟨RX8, "shared", "(II)I"⟩
abbrev cX8_four : ByteArray := prog_10_method_21_code
def yX8_four : MethodName := ⟨RX8, "four", "(I)V"⟩
abbrev cX8_feed : ByteArray := prog_10_method_22_code
def yX8_feed : MethodName := ⟨RX8, "feed", "(IIIII)I"⟩
abbrev cX8_end : ByteArray := prog_10_method_23_code
def yX8_end : MethodName := ⟨RX8, "end", "(I)I"⟩
abbrev cX8_piece : ByteArray := prog_10_method_24_code
def yX8_piece : MethodName := ⟨RX8, "piece", "(II)I"⟩
abbrev cX8_text : ByteArray := prog_10_method_25_code
def yX8_text : MethodName := ⟨RX8, "text", "(II)I"⟩
abbrev cX8_measure : ByteArray := prog_10_method_26_code
def yX8_measure : MethodName := ⟨RX8, "measure", "(III)Z"⟩
abbrev cX8_order : ByteArray := prog_10_method_27_code
def yX8_order : MethodName := ⟨RX8, "order", "()I"⟩
abbrev cX8_frequency : ByteArray := prog_10_method_28_code
def yX8_frequency : MethodName := ⟨RX8, "frequency", "(I)I"⟩
abbrev cX8_up : ByteArray := prog_10_method_29_code
def yX8_up : MethodName := ⟨RX8, "up", "(JJ)J"⟩
abbrev cX8_needed : ByteArray := prog_10_method_30_code
def yX8_needed : MethodName := ⟨RX8, "needed", "(JJ)J"⟩
abbrev cX8_least : ByteArray := prog_10_method_31_code
def yX8_least : MethodName := ⟨RX8, "least", "(J)J"⟩
abbrev cX8_divisor : ByteArray := prog_10_method_32_code
def yX8_divisor : MethodName := ⟨RX8, "divisor", "(JJ)J"⟩
abbrev cX8_above : ByteArray := prog_10_method_33_code
def yX8_above : MethodName := ⟨RX8, "above", "(JJJ)J"⟩
abbrev cX8_below : ByteArray := prog_10_method_34_code
def yX8_below : MethodName := ⟨RX8, "below", "(JJJ)J"⟩
abbrev cX8_isPair : ByteArray := prog_10_method_35_code
def yX8_isPair : MethodName := ⟨RX8, "isPair", "(II)Z"⟩
abbrev cX8_beginning : ByteArray := prog_10_method_36_code
def yX8_beginning : MethodName := ⟨RX8, "beginning", "([II)I"⟩
abbrev cX8_whyOf : ByteArray := prog_10_method_37_code
def yX8_whyOf : MethodName := ⟨RX8, "whyOf", "(II)I"⟩
abbrev cX8_why : ByteArray := prog_10_method_38_code
def yX8_why : MethodName := ⟨RX8, "why", "(II)I"⟩
abbrev cX8_like : ByteArray := prog_10_method_39_code
def yX8_like : MethodName := ⟨RX8, "like", "(III)J"⟩
abbrev cX8_keep : ByteArray := prog_10_method_40_code
def yX8_keep : MethodName := ⟨RX8, "keep", "(III)V"⟩
abbrev cX8_spent : ByteArray := prog_10_method_41_code
def yX8_spent : MethodName := ⟨RX8, "spent", "()I"⟩
abbrev cX8_pairs : ByteArray := prog_10_method_42_code
def yX8_pairs : MethodName := ⟨RX8, "pairs", "()I"⟩
abbrev cX8_pair : ByteArray := prog_10_method_43_code
def yX8_pair : MethodName := ⟨RX8, "pair", "(II)I"⟩
abbrev cX8_isLiker : ByteArray := prog_10_method_44_code
def yX8_isLiker : MethodName := ⟨RX8, "isLiker", "(IIII)Z"⟩
abbrev cX8_top : ByteArray := prog_10_method_45_code
def yX8_top : MethodName := ⟨RX8, "top", "(I)I"⟩
abbrev cX8_steps : ByteArray := prog_10_method_46_code
def yX8_steps : MethodName := ⟨RX8, "steps", "(I)V"⟩
abbrev cX8_about : ByteArray := prog_10_method_47_code
def yX8_about : MethodName := ⟨RX8, "about", "(II)I"⟩
abbrev cX8_at : ByteArray := prog_10_method_48_code
def yX8_at : MethodName := ⟨RX8, "at", "(II)I"⟩
abbrev cX8_chain : ByteArray := prog_10_method_49_code
def yX8_chain : MethodName := ⟨RX8, "chain", "(II)I"⟩
abbrev cX8_next : ByteArray := prog_10_method_50_code
def yX8_next : MethodName := ⟨RX8, "next", "(II)I"⟩
abbrev cX8_grow : ByteArray := prog_10_method_51_code
def yX8_grow : MethodName := ⟨RX8, "grow", "(IIII)V"⟩
abbrev cX8_core : ByteArray := prog_10_method_52_code
def yX8_core : MethodName := ⟨RX8, "core", "(I)I"⟩
abbrev cX8_member : ByteArray := prog_10_method_53_code
def yX8_member : MethodName := ⟨RX8, "member", "(I)I"⟩
abbrev cX8_count : ByteArray := prog_10_method_54_code
def yX8_count : MethodName := ⟨RX8, "count", "(I)I"⟩
def RJ6 : String := "java/lang/Integer"
def TJ6 : u_T := fun k => match k with
  | _ => ("", "", "", false)
def tyJ6 : Nat → FieldType := fun k => match k with
  | _ => .int
abbrev wsJ60 : List Cond := u_ws RJ6 TJ6 0
theorem nmJ6 : ∀ a, a < 0 → ∀ b, b < 0 → a ≠ b → (TJ6 a).2.1 ≠ (TJ6 b).2.1 := by decide +kernel
theorem tyJ6_ok : ∀ k, k < 0 → parseFieldDescriptor (TJ6 k).2.2.1 = some (tyJ6 k) := by decide +kernel
abbrev cJ6_bitCount_0f7a4 : ByteArray := prog_12_method_49_code
def yJ6_bitCount_0f7a4 : MethodName := ⟨RJ6, "bitCount", "(I)I"⟩
def RJ13 : String := "java/lang/Long"
def TJ13 : u_T := fun k => match k with
  | _ => ("", "", "", false)
def tyJ13 : Nat → FieldType := fun k => match k with
  | _ => .int
abbrev wsJ130 : List Cond := u_ws RJ13 TJ13 0
theorem nmJ13 : ∀ a, a < 0 → ∀ b, b < 0 → a ≠ b → (TJ13 a).2.1 ≠ (TJ13 b).2.1 := by decide +kernel
theorem tyJ13_ok : ∀ k, k < 0 → parseFieldDescriptor (TJ13 k).2.2.1 = some (tyJ13 k) := by decide +kernel
abbrev cJ13_bitCount_95d88 : ByteArray := prog_13_method_50_code
def yJ13_bitCount_95d88 : MethodName := ⟨RJ13, "bitCount", "(J)I"⟩
def RJ9 : String := "java/lang/Math"
def TJ9 : u_T := fun k => match k with
  | _ => ("", "", "", false)
def tyJ9 : Nat → FieldType := fun k => match k with
  | _ => .int
abbrev wsJ90 : List Cond := u_ws RJ9 TJ9 0
theorem nmJ9 : ∀ a, a < 0 → ∀ b, b < 0 → a ≠ b → (TJ9 a).2.1 ≠ (TJ9 b).2.1 := by decide +kernel
theorem tyJ9_ok : ∀ k, k < 0 → parseFieldDescriptor (TJ9 k).2.2.1 = some (tyJ9 k) := by decide +kernel
abbrev cJ9_min_7cf53 : ByteArray := prog_14_method_69_code
def yJ9_min_7cf53 : MethodName := ⟨RJ9, "min", "(II)I"⟩
abbrev cJ9_min_f86c9 : ByteArray := prog_14_method_70_code
def yJ9_min_f86c9 : MethodName := ⟨RJ9, "min", "(JJ)J"⟩
def RJ0 : String := "java/lang/String"
def TJ0 : u_T := fun k => match k with
  | _ => ("", "", "", false)
def tyJ0 : Nat → FieldType := fun k => match k with
  | _ => .int
abbrev wsJ00 : List Cond := u_ws RJ0 TJ0 0
theorem nmJ0 : ∀ a, a < 0 → ∀ b, b < 0 → a ≠ b → (TJ0 a).2.1 ≠ (TJ0 b).2.1 := by decide +kernel
theorem tyJ0_ok : ∀ k, k < 0 → parseFieldDescriptor (TJ0 k).2.2.1 = some (tyJ0 k) := by decide +kernel
def RJ10 : String := "java/lang/System"
def TJ10 : u_T := fun k => match k with
  | _ => ("", "", "", false)
def tyJ10 : Nat → FieldType := fun k => match k with
  | _ => .int
abbrev wsJ100 : List Cond := u_ws RJ10 TJ10 0
theorem nmJ10 : ∀ a, a < 0 → ∀ b, b < 0 → a ≠ b → (TJ10 a).2.1 ≠ (TJ10 b).2.1 := by decide +kernel
theorem tyJ10_ok : ∀ k, k < 0 → parseFieldDescriptor (TJ10 k).2.2.1 = some (tyJ10 k) := by decide +kernel
def RL : String := "PairSieveLaw"
abbrev cL_pair : ByteArray := method_3_code
def yL_pair : MethodName := ⟨RL, "pair", "(LPairSieve;II[J)I"⟩
abbrev cL_law : ByteArray := code
def yL_law : MethodName := ⟨RL, "law", "([I)Z"⟩
abbrev vwCl : List vw_C := [(RX0, TX0, 6), (RX1, TX1, 3), (RX2, TX2, 2), (RX3, TX3, 4), (RX4, TX4, 3), (RX5, TX5, 3), (RX6, TX6, 3), (RX7, TX7, 13), (RX8, TX8, 30)]
end
section
/-! the words that all methods share: the good ones of the tables -/
def GG : List Cond := lw_tbl.filter goodWord
theorem GG_in {i : Nat} {w : Cond} (h : lw_tbl[i]? = some w) (hg : goodWord w = true) : w ∈ GG := List.mem_filter.mpr ⟨List.mem_of_getElem? h, hg⟩
theorem GG_good : ∀ w ∈ GG, (w.onTables && w.keeps) = true ∨ ∃ ty, w = .arrayClass ty := fun _ h => good_of_word (List.mem_filter.mp h).2
theorem wE_L_8 : Cond.classLink RL 8 RX7 ∈ GG := GG_in (i := 63) (by decide +kernel) (by decide +kernel)
theorem wB_X7 : Cond.instantiable RX7 13 ∈ GG := GG_in (i := 64) (by decide +kernel) (by decide +kernel)
theorem wN_X7 : Cond.initialized RX7 ∈ GG := GG_in (i := 46) (by decide +kernel) (by decide +kernel)
theorem wE_L_16 : Cond.classLink RL 16 RX8 ∈ GG := GG_in (i := 700) (by decide +kernel) (by decide +kernel)
theorem wB_X8 : Cond.instantiable RX8 30 ∈ GG := GG_in (i := 701) (by decide +kernel) (by decide +kernel)
theorem wN_X8 : Cond.initialized RX8 ∈ GG := GG_in (i := 53) (by decide +kernel) (by decide +kernel)
theorem wA_long : Cond.arrayClass .long ∈ GG := GG_in (i := 176) (by decide +kernel) (by decide +kernel)
theorem wM_L_15 : Cond.methodLink RL 15 yX7_init ∈ GG := GG_in (i := 65) (by decide +kernel) (by decide +kernel)
theorem wI_X7_init : Cond.instanceMethod yX7_init ∈ GG := GG_in (i := 66) (by decide +kernel) (by decide +kernel)
set_option maxRecDepth 100000 in
theorem wC_X7_init : Cond.code yX7_init cX7_init 1 none ∈ GG := GG_in (i := 67) (rfl) (by decide +kernel)
theorem wM_X7_3 : Cond.methodLink RX7 3 objectInit ∈ GG := GG_in (i := 68) (by decide +kernel) (by decide +kernel)
theorem wI_objInit : Cond.instanceMethod objectInit ∈ GG := GG_in (i := 69) (by decide +kernel) (by decide +kernel)
set_option maxRecDepth 100000 in
theorem wC_objInit : Cond.code objectInit ⟨#[0xb1]⟩ 1 none ∈ GG := GG_in (i := 70) (rfl) (by decide +kernel)
theorem wE_X7_9 : Cond.classLink RX7 9 RX3 ∈ GG := GG_in (i := 71) (by decide +kernel) (by decide +kernel)
theorem wF_X7_11 : Cond.fieldLink RX7 11 "PairSieve" "sets" "[LPairSieve$NumberSet;" ∈ GG := GG_in (i := 190) (by decide +kernel) (by decide +kernel)
theorem wE_X7_15 : Cond.classLink RX7 15 RX5 ∈ GG := GG_in (i := 73) (by decide +kernel) (by decide +kernel)
theorem wB_X5 : Cond.instantiable RX5 3 ∈ GG := GG_in (i := 74) (by decide +kernel) (by decide +kernel)
theorem wN_X5 : Cond.initialized RX5 ∈ GG := GG_in (i := 47) (by decide +kernel) (by decide +kernel)
theorem wF_X7_20 : Cond.fieldLink RX7 20 "PairSieve" "frequencies" "LPairSieve$Table;" ∈ GG := GG_in (i := 192) (by decide +kernel) (by decide +kernel)
theorem wF_X7_24 : Cond.fieldLink RX7 24 "PairSieve" "told" "LPairSieve$Table;" ∈ GG := GG_in (i := 193) (by decide +kernel) (by decide +kernel)
theorem wE_X7_27 : Cond.classLink RX7 27 RX1 ∈ GG := GG_in (i := 91) (by decide +kernel) (by decide +kernel)
theorem wB_X1 : Cond.instantiable RX1 3 ∈ GG := GG_in (i := 92) (by decide +kernel) (by decide +kernel)
theorem wN_X1 : Cond.initialized RX1 ∈ GG := GG_in (i := 48) (by decide +kernel) (by decide +kernel)
theorem wF_X7_30 : Cond.fieldLink RX7 30 "PairSieve" "limit" "LPairSieve$Measure;" ∈ GG := GG_in (i := 194) (by decide +kernel) (by decide +kernel)
theorem wE_X7_34 : Cond.classLink RX7 34 RX6 ∈ GG := GG_in (i := 110) (by decide +kernel) (by decide +kernel)
theorem wB_X6 : Cond.instantiable RX6 3 ∈ GG := GG_in (i := 111) (by decide +kernel) (by decide +kernel)
theorem wN_X6 : Cond.initialized RX6 ∈ GG := GG_in (i := 49) (by decide +kernel) (by decide +kernel)
theorem wF_X7_37 : Cond.fieldLink RX7 37 "PairSieve" "tape" "LPairSieve$Tape;" ∈ GG := GG_in (i := 195) (by decide +kernel) (by decide +kernel)
theorem wE_X7_41 : Cond.classLink RX7 41 RX4 ∈ GG := GG_in (i := 128) (by decide +kernel) (by decide +kernel)
theorem wB_X4 : Cond.instantiable RX4 3 ∈ GG := GG_in (i := 129) (by decide +kernel) (by decide +kernel)
theorem wN_X4 : Cond.initialized RX4 ∈ GG := GG_in (i := 50) (by decide +kernel) (by decide +kernel)
theorem wF_X7_44 : Cond.fieldLink RX7 44 "PairSieve" "overlap" "LPairSieve$Overlap;" ∈ GG := GG_in (i := 196) (by decide +kernel) (by decide +kernel)
theorem wA_int : Cond.arrayClass .int ∈ GG := GG_in (i := 90) (by decide +kernel) (by decide +kernel)
theorem wF_X7_48 : Cond.fieldLink RX7 48 "PairSieve" "beginnings" "[I" ∈ GG := GG_in (i := 197) (by decide +kernel) (by decide +kernel)
theorem wF_X7_52 : Cond.fieldLink RX7 52 "PairSieve" "tally" "[I" ∈ GG := GG_in (i := 198) (by decide +kernel) (by decide +kernel)
theorem wE_X7_55 : Cond.classLink RX7 55 RX0 ∈ GG := GG_in (i := 147) (by decide +kernel) (by decide +kernel)
theorem wB_X0 : Cond.instantiable RX0 6 ∈ GG := GG_in (i := 148) (by decide +kernel) (by decide +kernel)
theorem wN_X0 : Cond.initialized RX0 ∈ GG := GG_in (i := 51) (by decide +kernel) (by decide +kernel)
theorem wF_X7_58 : Cond.fieldLink RX7 58 "PairSieve" "kept" "LPairSieve$KeptPairs;" ∈ GG := GG_in (i := 200) (by decide +kernel) (by decide +kernel)
theorem wE_X7_62 : Cond.classLink RX7 62 RX2 ∈ GG := GG_in (i := 177) (by decide +kernel) (by decide +kernel)
theorem wB_X2 : Cond.instantiable RX2 2 ∈ GG := GG_in (i := 178) (by decide +kernel) (by decide +kernel)
theorem wN_X2 : Cond.initialized RX2 ∈ GG := GG_in (i := 52) (by decide +kernel) (by decide +kernel)
theorem wF_X7_65 : Cond.fieldLink RX7 65 "PairSieve" "net" "LPairSieve$Net;" ∈ GG := GG_in (i := 201) (by decide +kernel) (by decide +kernel)
theorem wM_X7_17 : Cond.methodLink RX7 17 yX5_init ∈ GG := GG_in (i := 75) (by decide +kernel) (by decide +kernel)
theorem wI_X5_init : Cond.instanceMethod yX5_init ∈ GG := GG_in (i := 76) (by decide +kernel) (by decide +kernel)
set_option maxRecDepth 100000 in
theorem wC_X5_init : Cond.code yX5_init cX5_init 2 none ∈ GG := GG_in (i := 77) (rfl) (by decide +kernel)
theorem wM_X5_1 : Cond.methodLink RX5 1 objectInit ∈ GG := GG_in (i := 78) (by decide +kernel) (by decide +kernel)
theorem wF_X5_7 : Cond.fieldLink RX5 7 "PairSieve$Table" "numbers" "[I" ∈ GG := GG_in (i := 79) (by decide +kernel) (by decide +kernel)
theorem wF_X5_13 : Cond.fieldLink RX5 13 "PairSieve$Table" "values" "[I" ∈ GG := GG_in (i := 80) (by decide +kernel) (by decide +kernel)
theorem wI_X1_init : Cond.instanceMethod yX1_init ∈ GG := GG_in (i := 94) (by decide +kernel) (by decide +kernel)
set_option maxRecDepth 100000 in
theorem wC_X1_init : Cond.code yX1_init cX1_init 1 none ∈ GG := GG_in (i := 95) (rfl) (by decide +kernel)
theorem wM_X1_3 : Cond.methodLink RX1 3 objectInit ∈ GG := GG_in (i := 96) (by decide +kernel) (by decide +kernel)
theorem wF_X1_9 : Cond.fieldLink RX1 9 "PairSieve$Measure" "kind" "I" ∈ GG := GG_in (i := 97) (by decide +kernel) (by decide +kernel)
theorem wF_X1_15 : Cond.fieldLink RX1 15 "PairSieve$Measure" "p" "I" ∈ GG := GG_in (i := 99) (by decide +kernel) (by decide +kernel)
theorem wF_X1_18 : Cond.fieldLink RX1 18 "PairSieve$Measure" "q" "I" ∈ GG := GG_in (i := 101) (by decide +kernel) (by decide +kernel)
theorem wI_X6_init : Cond.instanceMethod yX6_init ∈ GG := GG_in (i := 113) (by decide +kernel) (by decide +kernel)
set_option maxRecDepth 100000 in
theorem wC_X6_init : Cond.code yX6_init cX6_init 1 none ∈ GG := GG_in (i := 114) (rfl) (by decide +kernel)
theorem wM_X6_3 : Cond.methodLink RX6 3 objectInit ∈ GG := GG_in (i := 115) (by decide +kernel) (by decide +kernel)
theorem wF_X6_11 : Cond.fieldLink RX6 11 "PairSieve$Tape" "bytes" "[I" ∈ GG := GG_in (i := 116) (by decide +kernel) (by decide +kernel)
theorem wF_X6_15 : Cond.fieldLink RX6 15 "PairSieve$Tape" "numbers" "[I" ∈ GG := GG_in (i := 119) (by decide +kernel) (by decide +kernel)
theorem wI_X4_init : Cond.instanceMethod yX4_init ∈ GG := GG_in (i := 131) (by decide +kernel) (by decide +kernel)
set_option maxRecDepth 100000 in
theorem wC_X4_init : Cond.code yX4_init cX4_init 1 none ∈ GG := GG_in (i := 132) (rfl) (by decide +kernel)
theorem wM_X4_1 : Cond.methodLink RX4 1 objectInit ∈ GG := GG_in (i := 133) (by decide +kernel) (by decide +kernel)
theorem wI_X0_init : Cond.instanceMethod yX0_init ∈ GG := GG_in (i := 150) (by decide +kernel) (by decide +kernel)
set_option maxRecDepth 100000 in
theorem wC_X0_init : Cond.code yX0_init cX0_init 1 none ∈ GG := GG_in (i := 151) (rfl) (by decide +kernel)
theorem wM_X0_3 : Cond.methodLink RX0 3 objectInit ∈ GG := GG_in (i := 152) (by decide +kernel) (by decide +kernel)
theorem wF_X0_9 : Cond.fieldLink RX0 9 "PairSieve$KeptPairs" "first" "[I" ∈ GG := GG_in (i := 153) (by decide +kernel) (by decide +kernel)
theorem wF_X0_15 : Cond.fieldLink RX0 15 "PairSieve$KeptPairs" "second" "[I" ∈ GG := GG_in (i := 155) (by decide +kernel) (by decide +kernel)
theorem wF_X0_18 : Cond.fieldLink RX0 18 "PairSieve$KeptPairs" "shared" "[I" ∈ GG := GG_in (i := 157) (by decide +kernel) (by decide +kernel)
theorem wF_X0_21 : Cond.fieldLink RX0 21 "PairSieve$KeptPairs" "above" "[J" ∈ GG := GG_in (i := 159) (by decide +kernel) (by decide +kernel)
theorem wF_X0_25 : Cond.fieldLink RX0 25 "PairSieve$KeptPairs" "below" "[J" ∈ GG := GG_in (i := 160) (by decide +kernel) (by decide +kernel)
theorem wI_X2_init : Cond.instanceMethod yX2_init ∈ GG := GG_in (i := 180) (by decide +kernel) (by decide +kernel)
set_option maxRecDepth 100000 in
theorem wC_X2_init : Cond.code yX2_init cX2_init 1 none ∈ GG := GG_in (i := 181) (rfl) (by decide +kernel)
theorem wM_X2_3 : Cond.methodLink RX2 3 objectInit ∈ GG := GG_in (i := 182) (by decide +kernel) (by decide +kernel)
theorem wF_X2_9 : Cond.fieldLink RX2 9 "PairSieve$Net" "friends" "[J" ∈ GG := GG_in (i := 183) (by decide +kernel) (by decide +kernel)
theorem wM_L_18 : Cond.methodLink RL 18 yX8_init ∈ GG := GG_in (i := 702) (by decide +kernel) (by decide +kernel)
theorem wI_X8_init : Cond.instanceMethod yX8_init ∈ GG := GG_in (i := 703) (by decide +kernel) (by decide +kernel)
set_option maxRecDepth 100000 in
theorem wC_X8_init : Cond.code yX8_init cX8_init 1 none ∈ GG := GG_in (i := 704) (rfl) (by decide +kernel)
theorem wM_X8_1 : Cond.methodLink RX8 1 objectInit ∈ GG := GG_in (i := 705) (by decide +kernel) (by decide +kernel)
theorem wA_boolean : Cond.arrayClass .boolean ∈ GG := GG_in (i := 797) (by decide +kernel) (by decide +kernel)
theorem wF_X8_9 : Cond.fieldLink RX8 9 "PairSieveModel" "isDropped" "[Z" ∈ GG := GG_in (i := 708) (by decide +kernel) (by decide +kernel)
theorem wF_X8_13 : Cond.fieldLink RX8 13 "PairSieveModel" "many" "[I" ∈ GG := GG_in (i := 709) (by decide +kernel) (by decide +kernel)
theorem wF_X8_17 : Cond.fieldLink RX8 17 "PairSieveModel" "set" "[I" ∈ GG := GG_in (i := 710) (by decide +kernel) (by decide +kernel)
theorem wF_X8_20 : Cond.fieldLink RX8 20 "PairSieveModel" "toldNumber" "[I" ∈ GG := GG_in (i := 712) (by decide +kernel) (by decide +kernel)
theorem wF_X8_23 : Cond.fieldLink RX8 23 "PairSieveModel" "toldWeight" "[I" ∈ GG := GG_in (i := 713) (by decide +kernel) (by decide +kernel)
theorem wF_X8_26 : Cond.fieldLink RX8 26 "PairSieveModel" "knownNumber" "[I" ∈ GG := GG_in (i := 715) (by decide +kernel) (by decide +kernel)
theorem wF_X8_29 : Cond.fieldLink RX8 29 "PairSieveModel" "knownMany" "[I" ∈ GG := GG_in (i := 716) (by decide +kernel) (by decide +kernel)
theorem wF_X8_32 : Cond.fieldLink RX8 32 "PairSieveModel" "kind" "I" ∈ GG := GG_in (i := 717) (by decide +kernel) (by decide +kernel)
theorem wF_X8_36 : Cond.fieldLink RX8 36 "PairSieveModel" "p" "I" ∈ GG := GG_in (i := 718) (by decide +kernel) (by decide +kernel)
theorem wF_X8_39 : Cond.fieldLink RX8 39 "PairSieveModel" "q" "I" ∈ GG := GG_in (i := 719) (by decide +kernel) (by decide +kernel)
theorem wF_X8_42 : Cond.fieldLink RX8 42 "PairSieveModel" "one" "[I" ∈ GG := GG_in (i := 720) (by decide +kernel) (by decide +kernel)
theorem wF_X8_45 : Cond.fieldLink RX8 45 "PairSieveModel" "two" "[I" ∈ GG := GG_in (i := 721) (by decide +kernel) (by decide +kernel)
theorem wF_X8_48 : Cond.fieldLink RX8 48 "PairSieveModel" "tape" "[I" ∈ GG := GG_in (i := 722) (by decide +kernel) (by decide +kernel)
theorem wF_X8_51 : Cond.fieldLink RX8 51 "PairSieveModel" "keptA" "[I" ∈ GG := GG_in (i := 725) (by decide +kernel) (by decide +kernel)
theorem wF_X8_54 : Cond.fieldLink RX8 54 "PairSieveModel" "keptB" "[I" ∈ GG := GG_in (i := 726) (by decide +kernel) (by decide +kernel)
theorem wF_X8_57 : Cond.fieldLink RX8 57 "PairSieveModel" "keptS" "[I" ∈ GG := GG_in (i := 727) (by decide +kernel) (by decide +kernel)
theorem wF_X8_60 : Cond.fieldLink RX8 60 "PairSieveModel" "sieved" "[I" ∈ GG := GG_in (i := 728) (by decide +kernel) (by decide +kernel)
theorem wF_X8_63 : Cond.fieldLink RX8 63 "PairSieveModel" "far" "[I" ∈ GG := GG_in (i := 729) (by decide +kernel) (by decide +kernel)
theorem wF_X8_66 : Cond.fieldLink RX8 66 "PairSieveModel" "family" "[I" ∈ GG := GG_in (i := 732) (by decide +kernel) (by decide +kernel)
theorem wF_X8_69 : Cond.fieldLink RX8 69 "PairSieveModel" "beside" "[I" ∈ GG := GG_in (i := 733) (by decide +kernel) (by decide +kernel)
theorem wF_X8_72 : Cond.fieldLink RX8 72 "PairSieveModel" "coreOf" "[I" ∈ GG := GG_in (i := 734) (by decide +kernel) (by decide +kernel)
theorem wM_L_19 : Cond.methodLink RL 19 yX7_record ∈ GG := GG_in (i := 230) (by decide +kernel) (by decide +kernel)
theorem wI_X7_record : Cond.instanceMethod yX7_record ∈ GG := GG_in (i := 231) (by decide +kernel) (by decide +kernel)
theorem wL_X7_record : Cond.selects RX7 yX7_record yX7_record ∈ GG := GG_in (i := 232) (by decide +kernel) (by decide +kernel)
set_option maxRecDepth 100000 in
theorem wC_X7_record : Cond.code yX7_record cX7_record 1 (some .int) ∈ GG := GG_in (i := 233) (rfl) (by decide +kernel)
theorem wF_X7_69 : Cond.fieldLink RX7 69 "PairSieve" "made" "I" ∈ GG := GG_in (i := 191) (by decide +kernel) (by decide +kernel)
theorem wB_X3 : Cond.instantiable RX3 4 ∈ GG := GG_in (i := 234) (by decide +kernel) (by decide +kernel)
theorem wN_X3 : Cond.initialized RX3 ∈ GG := GG_in (i := 54) (by decide +kernel) (by decide +kernel)
theorem wI_X3_init : Cond.instanceMethod yX3_init ∈ GG := GG_in (i := 236) (by decide +kernel) (by decide +kernel)
set_option maxRecDepth 100000 in
theorem wC_X3_init : Cond.code yX3_init cX3_init 1 none ∈ GG := GG_in (i := 237) (rfl) (by decide +kernel)
theorem wM_X3_3 : Cond.methodLink RX3 3 objectInit ∈ GG := GG_in (i := 238) (by decide +kernel) (by decide +kernel)
theorem wF_X3_9 : Cond.fieldLink RX3 9 "PairSieve$NumberSet" "keys" "[I" ∈ GG := GG_in (i := 239) (by decide +kernel) (by decide +kernel)
theorem wF_X3_15 : Cond.fieldLink RX3 15 "PairSieve$NumberSet" "weights" "[I" ∈ GG := GG_in (i := 241) (by decide +kernel) (by decide +kernel)
theorem wM_L_23 : Cond.methodLink RL 23 yX8_record ∈ GG := GG_in (i := 802) (by decide +kernel) (by decide +kernel)
theorem wI_X8_record : Cond.instanceMethod yX8_record ∈ GG := GG_in (i := 803) (by decide +kernel) (by decide +kernel)
theorem wL_X8_record : Cond.selects RX8 yX8_record yX8_record ∈ GG := GG_in (i := 804) (by decide +kernel) (by decide +kernel)
set_option maxRecDepth 100000 in
theorem wC_X8_record : Cond.code yX8_record cX8_record 1 (some .int) ∈ GG := GG_in (i := 805) (rfl) (by decide +kernel)
theorem wF_X8_75 : Cond.fieldLink RX8 75 "PairSieveModel" "thrown" "I" ∈ GG := GG_in (i := 706) (by decide +kernel) (by decide +kernel)
theorem wF_X8_78 : Cond.fieldLink RX8 78 "PairSieveModel" "records" "I" ∈ GG := GG_in (i := 707) (by decide +kernel) (by decide +kernel)
theorem wM_L_24 : Cond.methodLink RL 24 yX7_drop ∈ GG := GG_in (i := 257) (by decide +kernel) (by decide +kernel)
theorem wI_X7_drop : Cond.instanceMethod yX7_drop ∈ GG := GG_in (i := 258) (by decide +kernel) (by decide +kernel)
theorem wL_X7_drop : Cond.selects RX7 yX7_drop yX7_drop ∈ GG := GG_in (i := 259) (by decide +kernel) (by decide +kernel)
set_option maxRecDepth 100000 in
theorem wC_X7_drop : Cond.code yX7_drop cX7_drop 2 (some .boolean) ∈ GG := GG_in (i := 260) (rfl) (by decide +kernel)
theorem wM_X7_74 : Cond.methodLink RX7 74 yX7_setOf ∈ GG := GG_in (i := 261) (by decide +kernel) (by decide +kernel)
theorem wI_X7_setOf : Cond.instanceMethod yX7_setOf ∈ GG := GG_in (i := 263) (by decide +kernel) (by decide +kernel)
theorem wL_X7_setOf : Cond.selects RX7 yX7_setOf yX7_setOf ∈ GG := GG_in (i := 0) (by decide +kernel) (by decide +kernel)
set_option maxRecDepth 100000 in
theorem wC_X7_setOf : Cond.code yX7_setOf cX7_setOf 2 (some (.object "PairSieve$NumberSet")) ∈ GG := GG_in (i := 264) (rfl) (by decide +kernel)
theorem wM_X7_78 : Cond.methodLink RX7 78 yX2_forget ∈ GG := GG_in (i := 265) (by decide +kernel) (by decide +kernel)
theorem wI_X2_forget : Cond.instanceMethod yX2_forget ∈ GG := GG_in (i := 266) (by decide +kernel) (by decide +kernel)
theorem wL_X2_forget : Cond.selects RX2 yX2_forget yX2_forget ∈ GG := GG_in (i := 267) (by decide +kernel) (by decide +kernel)
set_option maxRecDepth 100000 in
theorem wC_X2_forget : Cond.code yX2_forget cX2_forget 2 none ∈ GG := GG_in (i := 268) (rfl) (by decide +kernel)
theorem wF_X2_15 : Cond.fieldLink RX2 15 "PairSieve$Net" "forgotten" "J" ∈ GG := GG_in (i := 184) (by decide +kernel) (by decide +kernel)
theorem wM_L_28 : Cond.methodLink RL 28 yX8_drop ∈ GG := GG_in (i := 806) (by decide +kernel) (by decide +kernel)
theorem wI_X8_drop : Cond.instanceMethod yX8_drop ∈ GG := GG_in (i := 807) (by decide +kernel) (by decide +kernel)
theorem wL_X8_drop : Cond.selects RX8 yX8_drop yX8_drop ∈ GG := GG_in (i := 808) (by decide +kernel) (by decide +kernel)
set_option maxRecDepth 100000 in
theorem wC_X8_drop : Cond.code yX8_drop cX8_drop 2 (some .boolean) ∈ GG := GG_in (i := 809) (rfl) (by decide +kernel)
theorem wM_X8_85 : Cond.methodLink RX8 85 yX8_is ∈ GG := GG_in (i := 810) (by decide +kernel) (by decide +kernel)
theorem wI_X8_is : Cond.instanceMethod yX8_is ∈ GG := GG_in (i := 812) (by decide +kernel) (by decide +kernel)
theorem wL_X8_is : Cond.selects RX8 yX8_is yX8_is ∈ GG := GG_in (i := 20) (by decide +kernel) (by decide +kernel)
set_option maxRecDepth 100000 in
theorem wC_X8_is : Cond.code yX8_is cX8_is 2 (some .boolean) ∈ GG := GG_in (i := 813) (rfl) (by decide +kernel)
theorem wM_X8_81 : Cond.methodLink RX8 81 yX8_in ∈ GG := GG_in (i := 814) (by decide +kernel) (by decide +kernel)
theorem wS_X8_in : Cond.static yX8_in ∈ GG := GG_in (i := 815) (by decide +kernel) (by decide +kernel)
set_option maxRecDepth 100000 in
theorem wC_X8_in : Cond.code yX8_in cX8_in 3 (some .boolean) ∈ GG := GG_in (i := 816) (rfl) (by decide +kernel)
theorem wM_L_29 : Cond.methodLink RL 29 yX7_put ∈ GG := GG_in (i := 269) (by decide +kernel) (by decide +kernel)
theorem wI_X7_put : Cond.instanceMethod yX7_put ∈ GG := GG_in (i := 270) (by decide +kernel) (by decide +kernel)
theorem wL_X7_put : Cond.selects RX7 yX7_put yX7_put ∈ GG := GG_in (i := 271) (by decide +kernel) (by decide +kernel)
set_option maxRecDepth 100000 in
theorem wC_X7_put : Cond.code yX7_put cX7_put 4 (some .boolean) ∈ GG := GG_in (i := 272) (rfl) (by decide +kernel)
theorem wM_X7_81 : Cond.methodLink RX7 81 yX7_isNumber ∈ GG := GG_in (i := 273) (by decide +kernel) (by decide +kernel)
theorem wS_X7_isNumber : Cond.static yX7_isNumber ∈ GG := GG_in (i := 274) (by decide +kernel) (by decide +kernel)
set_option maxRecDepth 100000 in
theorem wC_X7_isNumber : Cond.code yX7_isNumber cX7_isNumber 1 (some .boolean) ∈ GG := GG_in (i := 275) (rfl) (by decide +kernel)
theorem wK_X7_276 : Cond.constant RX7 276 (1000000) ∈ GG := GG_in (i := 276) (by decide +kernel) (by decide +kernel)
theorem wM_X7_85 : Cond.methodLink RX7 85 yX3_keyOf ∈ GG := GG_in (i := 277) (by decide +kernel) (by decide +kernel)
theorem wS_X3_keyOf : Cond.static yX3_keyOf ∈ GG := GG_in (i := 278) (by decide +kernel) (by decide +kernel)
set_option maxRecDepth 100000 in
theorem wC_X3_keyOf : Cond.code yX3_keyOf cX3_keyOf 2 (some .int) ∈ GG := GG_in (i := 279) (rfl) (by decide +kernel)
theorem wK_X3_24 : Cond.constant RX3 24 (1000000) ∈ GG := GG_in (i := 292) (by decide +kernel) (by decide +kernel)
theorem wM_X3_18 : Cond.methodLink RX3 18 yX5_valueOf ∈ GG := GG_in (i := 280) (by decide +kernel) (by decide +kernel)
theorem wI_X5_valueOf : Cond.instanceMethod yX5_valueOf ∈ GG := GG_in (i := 281) (by decide +kernel) (by decide +kernel)
theorem wL_X5_valueOf : Cond.selects RX5 yX5_valueOf yX5_valueOf ∈ GG := GG_in (i := 282) (by decide +kernel) (by decide +kernel)
set_option maxRecDepth 100000 in
theorem wC_X5_valueOf : Cond.code yX5_valueOf cX5_valueOf 4 (some .int) ∈ GG := GG_in (i := 283) (rfl) (by decide +kernel)
theorem wM_X5_20 : Cond.methodLink RX5 20 yX5_placeOf ∈ GG := GG_in (i := 284) (by decide +kernel) (by decide +kernel)
theorem wI_X5_placeOf : Cond.instanceMethod yX5_placeOf ∈ GG := GG_in (i := 286) (by decide +kernel) (by decide +kernel)
theorem wL_X5_placeOf : Cond.selects RX5 yX5_placeOf yX5_placeOf ∈ GG := GG_in (i := 1) (by decide +kernel) (by decide +kernel)
set_option maxRecDepth 100000 in
theorem wC_X5_placeOf : Cond.code yX5_placeOf cX5_placeOf 5 (some .int) ∈ GG := GG_in (i := 287) (rfl) (by decide +kernel)
theorem wF_X5_16 : Cond.fieldLink RX5 16 "PairSieve$Table" "size" "I" ∈ GG := GG_in (i := 81) (by decide +kernel) (by decide +kernel)
theorem wM_X5_24 : Cond.methodLink RX5 24 yX5_isAt ∈ GG := GG_in (i := 288) (by decide +kernel) (by decide +kernel)
theorem wI_X5_isAt : Cond.instanceMethod yX5_isAt ∈ GG := GG_in (i := 290) (by decide +kernel) (by decide +kernel)
theorem wL_X5_isAt : Cond.selects RX5 yX5_isAt yX5_isAt ∈ GG := GG_in (i := 2) (by decide +kernel) (by decide +kernel)
set_option maxRecDepth 100000 in
theorem wC_X5_isAt : Cond.code yX5_isAt cX5_isAt 3 (some .boolean) ∈ GG := GG_in (i := 291) (rfl) (by decide +kernel)
theorem wM_X7_89 : Cond.methodLink RX7 89 yX7_weightOf ∈ GG := GG_in (i := 293) (by decide +kernel) (by decide +kernel)
theorem wI_X7_weightOf : Cond.instanceMethod yX7_weightOf ∈ GG := GG_in (i := 295) (by decide +kernel) (by decide +kernel)
theorem wL_X7_weightOf : Cond.selects RX7 yX7_weightOf yX7_weightOf ∈ GG := GG_in (i := 3) (by decide +kernel) (by decide +kernel)
set_option maxRecDepth 100000 in
theorem wC_X7_weightOf : Cond.code yX7_weightOf cX7_weightOf 2 (some .int) ∈ GG := GG_in (i := 296) (rfl) (by decide +kernel)
theorem wM_X7_146 : Cond.methodLink RX7 146 yX5_valueOf ∈ GG := GG_in (i := 297) (by decide +kernel) (by decide +kernel)
theorem wM_X7_93 : Cond.methodLink RX7 93 yX3_insert ∈ GG := GG_in (i := 298) (by decide +kernel) (by decide +kernel)
theorem wI_X3_insert : Cond.instanceMethod yX3_insert ∈ GG := GG_in (i := 299) (by decide +kernel) (by decide +kernel)
theorem wL_X3_insert : Cond.selects RX3 yX3_insert yX3_insert ∈ GG := GG_in (i := 300) (by decide +kernel) (by decide +kernel)
set_option maxRecDepth 100000 in
theorem wC_X3_insert : Cond.code yX3_insert cX3_insert 4 (some .boolean) ∈ GG := GG_in (i := 301) (rfl) (by decide +kernel)
theorem wF_X3_25 : Cond.fieldLink RX3 25 "PairSieve$NumberSet" "size" "I" ∈ GG := GG_in (i := 244) (by decide +kernel) (by decide +kernel)
theorem wM_X3_36 : Cond.methodLink RX3 36 arraycopyName ∈ GG := GG_in (i := 306) (by decide +kernel) (by decide +kernel)
theorem wV_arraycopy : Cond.native arraycopyName ∈ GG := GG_in (i := 308) (by decide +kernel) (by decide +kernel)
theorem wS_arraycopy : Cond.static arraycopyName ∈ GG := GG_in (i := 307) (by decide +kernel) (by decide +kernel)
theorem wN_J10 : Cond.initialized "java/lang/System" ∈ GG := GG_in (i := 55) (by decide +kernel) (by decide +kernel)
theorem wF_X3_29 : Cond.fieldLink RX3 29 "PairSieve$NumberSet" "amount" "I" ∈ GG := GG_in (i := 246) (by decide +kernel) (by decide +kernel)
theorem wM_X3_32 : Cond.methodLink RX3 32 yX3_placeOf ∈ GG := GG_in (i := 302) (by decide +kernel) (by decide +kernel)
theorem wI_X3_placeOf : Cond.instanceMethod yX3_placeOf ∈ GG := GG_in (i := 304) (by decide +kernel) (by decide +kernel)
theorem wL_X3_placeOf : Cond.selects RX3 yX3_placeOf yX3_placeOf ∈ GG := GG_in (i := 4) (by decide +kernel) (by decide +kernel)
set_option maxRecDepth 100000 in
theorem wC_X3_placeOf : Cond.code yX3_placeOf cX3_placeOf 3 (some .int) ∈ GG := GG_in (i := 305) (rfl) (by decide +kernel)
theorem wM_L_33 : Cond.methodLink RL 33 yX8_put ∈ GG := GG_in (i := 817) (by decide +kernel) (by decide +kernel)
theorem wI_X8_put : Cond.instanceMethod yX8_put ∈ GG := GG_in (i := 818) (by decide +kernel) (by decide +kernel)
theorem wL_X8_put : Cond.selects RX8 yX8_put yX8_put ∈ GG := GG_in (i := 819) (by decide +kernel) (by decide +kernel)
set_option maxRecDepth 100000 in
theorem wC_X8_put : Cond.code yX8_put cX8_put 3 (some .boolean) ∈ GG := GG_in (i := 820) (rfl) (by decide +kernel)
theorem wM_X8_90 : Cond.methodLink RX8 90 yX8_isNumber ∈ GG := GG_in (i := 821) (by decide +kernel) (by decide +kernel)
theorem wS_X8_isNumber : Cond.static yX8_isNumber ∈ GG := GG_in (i := 822) (by decide +kernel) (by decide +kernel)
set_option maxRecDepth 100000 in
theorem wC_X8_isNumber : Cond.code yX8_isNumber cX8_isNumber 1 (some .boolean) ∈ GG := GG_in (i := 823) (rfl) (by decide +kernel)
theorem wK_X8_89 : Cond.constant RX8 89 (999999) ∈ GG := GG_in (i := 824) (by decide +kernel) (by decide +kernel)
theorem wM_X8_93 : Cond.methodLink RX8 93 yX8_place ∈ GG := GG_in (i := 825) (by decide +kernel) (by decide +kernel)
theorem wI_X8_place : Cond.instanceMethod yX8_place ∈ GG := GG_in (i := 827) (by decide +kernel) (by decide +kernel)
theorem wL_X8_place : Cond.selects RX8 yX8_place yX8_place ∈ GG := GG_in (i := 21) (by decide +kernel) (by decide +kernel)
set_option maxRecDepth 100000 in
theorem wC_X8_place : Cond.code yX8_place cX8_place 4 (some .int) ∈ GG := GG_in (i := 828) (rfl) (by decide +kernel)
theorem wM_L_34 : Cond.methodLink RL 34 yX7_take ∈ GG := GG_in (i := 309) (by decide +kernel) (by decide +kernel)
theorem wI_X7_take : Cond.instanceMethod yX7_take ∈ GG := GG_in (i := 310) (by decide +kernel) (by decide +kernel)
theorem wL_X7_take : Cond.selects RX7 yX7_take yX7_take ∈ GG := GG_in (i := 311) (by decide +kernel) (by decide +kernel)
set_option maxRecDepth 100000 in
theorem wC_X7_take : Cond.code yX7_take cX7_take 4 (some .boolean) ∈ GG := GG_in (i := 312) (rfl) (by decide +kernel)
theorem wM_X7_97 : Cond.methodLink RX7 97 yX3_remove ∈ GG := GG_in (i := 313) (by decide +kernel) (by decide +kernel)
theorem wI_X3_remove : Cond.instanceMethod yX3_remove ∈ GG := GG_in (i := 314) (by decide +kernel) (by decide +kernel)
theorem wL_X3_remove : Cond.selects RX3 yX3_remove yX3_remove ∈ GG := GG_in (i := 315) (by decide +kernel) (by decide +kernel)
set_option maxRecDepth 100000 in
theorem wC_X3_remove : Cond.code yX3_remove cX3_remove 3 (some .boolean) ∈ GG := GG_in (i := 316) (rfl) (by decide +kernel)
theorem wM_L_37 : Cond.methodLink RL 37 yX8_take ∈ GG := GG_in (i := 829) (by decide +kernel) (by decide +kernel)
theorem wI_X8_take : Cond.instanceMethod yX8_take ∈ GG := GG_in (i := 830) (by decide +kernel) (by decide +kernel)
theorem wL_X8_take : Cond.selects RX8 yX8_take yX8_take ∈ GG := GG_in (i := 831) (by decide +kernel) (by decide +kernel)
set_option maxRecDepth 100000 in
theorem wC_X8_take : Cond.code yX8_take cX8_take 3 (some .boolean) ∈ GG := GG_in (i := 832) (rfl) (by decide +kernel)
theorem wM_X8_97 : Cond.methodLink RX8 97 yX8_place0 ∈ GG := GG_in (i := 833) (by decide +kernel) (by decide +kernel)
theorem wI_X8_place0 : Cond.instanceMethod yX8_place0 ∈ GG := GG_in (i := 835) (by decide +kernel) (by decide +kernel)
theorem wL_X8_place0 : Cond.selects RX8 yX8_place0 yX8_place0 ∈ GG := GG_in (i := 22) (by decide +kernel) (by decide +kernel)
set_option maxRecDepth 100000 in
theorem wC_X8_place0 : Cond.code yX8_place0 cX8_place0 4 (some .int) ∈ GG := GG_in (i := 836) (rfl) (by decide +kernel)
theorem wM_L_38 : Cond.methodLink RL 38 yX7_weight ∈ GG := GG_in (i := 317) (by decide +kernel) (by decide +kernel)
theorem wI_X7_weight : Cond.instanceMethod yX7_weight ∈ GG := GG_in (i := 318) (by decide +kernel) (by decide +kernel)
theorem wL_X7_weight : Cond.selects RX7 yX7_weight yX7_weight ∈ GG := GG_in (i := 319) (by decide +kernel) (by decide +kernel)
set_option maxRecDepth 100000 in
theorem wC_X7_weight : Cond.code yX7_weight cX7_weight 3 (some .boolean) ∈ GG := GG_in (i := 320) (rfl) (by decide +kernel)
theorem wM_X7_100 : Cond.methodLink RX7 100 yX5_write ∈ GG := GG_in (i := 321) (by decide +kernel) (by decide +kernel)
theorem wI_X5_write : Cond.instanceMethod yX5_write ∈ GG := GG_in (i := 322) (by decide +kernel) (by decide +kernel)
theorem wL_X5_write : Cond.selects RX5 yX5_write yX5_write ∈ GG := GG_in (i := 323) (by decide +kernel) (by decide +kernel)
set_option maxRecDepth 100000 in
theorem wC_X5_write : Cond.code yX5_write cX5_write 4 (some .boolean) ∈ GG := GG_in (i := 324) (rfl) (by decide +kernel)
theorem wM_X5_35 : Cond.methodLink RX5 35 arraycopyName ∈ GG := GG_in (i := 325) (by decide +kernel) (by decide +kernel)
theorem wM_X7_103 : Cond.methodLink RX7 103 yX7_weighAll ∈ GG := GG_in (i := 326) (by decide +kernel) (by decide +kernel)
theorem wI_X7_weighAll : Cond.instanceMethod yX7_weighAll ∈ GG := GG_in (i := 328) (by decide +kernel) (by decide +kernel)
theorem wL_X7_weighAll : Cond.selects RX7 yX7_weighAll yX7_weighAll ∈ GG := GG_in (i := 5) (by decide +kernel) (by decide +kernel)
set_option maxRecDepth 100000 in
theorem wC_X7_weighAll : Cond.code yX7_weighAll cX7_weighAll 4 none ∈ GG := GG_in (i := 329) (rfl) (by decide +kernel)
theorem wM_X7_135 : Cond.methodLink RX7 135 yX3_numberAt ∈ GG := GG_in (i := 330) (by decide +kernel) (by decide +kernel)
theorem wI_X3_numberAt : Cond.instanceMethod yX3_numberAt ∈ GG := GG_in (i := 331) (by decide +kernel) (by decide +kernel)
theorem wL_X3_numberAt : Cond.selects RX3 yX3_numberAt yX3_numberAt ∈ GG := GG_in (i := 332) (by decide +kernel) (by decide +kernel)
set_option maxRecDepth 100000 in
theorem wC_X3_numberAt : Cond.code yX3_numberAt cX3_numberAt 2 (some .int) ∈ GG := GG_in (i := 333) (rfl) (by decide +kernel)
theorem wM_X7_277 : Cond.methodLink RX7 277 yX3_reweigh ∈ GG := GG_in (i := 334) (by decide +kernel) (by decide +kernel)
theorem wI_X3_reweigh : Cond.instanceMethod yX3_reweigh ∈ GG := GG_in (i := 335) (by decide +kernel) (by decide +kernel)
theorem wL_X3_reweigh : Cond.selects RX3 yX3_reweigh yX3_reweigh ∈ GG := GG_in (i := 336) (by decide +kernel) (by decide +kernel)
set_option maxRecDepth 100000 in
theorem wC_X3_reweigh : Cond.code yX3_reweigh cX3_reweigh 3 none ∈ GG := GG_in (i := 337) (rfl) (by decide +kernel)
theorem wM_L_41 : Cond.methodLink RL 41 yX8_weight ∈ GG := GG_in (i := 837) (by decide +kernel) (by decide +kernel)
theorem wI_X8_weight : Cond.instanceMethod yX8_weight ∈ GG := GG_in (i := 838) (by decide +kernel) (by decide +kernel)
theorem wL_X8_weight : Cond.selects RX8 yX8_weight yX8_weight ∈ GG := GG_in (i := 839) (by decide +kernel) (by decide +kernel)
set_option maxRecDepth 100000 in
theorem wC_X8_weight : Cond.code yX8_weight cX8_weight 4 (some .boolean) ∈ GG := GG_in (i := 840) (rfl) (by decide +kernel)
theorem wF_X8_100 : Cond.fieldLink RX8 100 "PairSieveModel" "told" "I" ∈ GG := GG_in (i := 711) (by decide +kernel) (by decide +kernel)
theorem wM_L_42 : Cond.methodLink RL 42 yX7_feed ∈ GG := GG_in (i := 338) (by decide +kernel) (by decide +kernel)
theorem wI_X7_feed : Cond.instanceMethod yX7_feed ∈ GG := GG_in (i := 339) (by decide +kernel) (by decide +kernel)
theorem wL_X7_feed : Cond.selects RX7 yX7_feed yX7_feed ∈ GG := GG_in (i := 340) (by decide +kernel) (by decide +kernel)
set_option maxRecDepth 100000 in
theorem wC_X7_feed : Cond.code yX7_feed cX7_feed 6 (some .int) ∈ GG := GG_in (i := 341) (rfl) (by decide +kernel)
theorem wM_X7_106 : Cond.methodLink RX7 106 yX6_hasRoomFor ∈ GG := GG_in (i := 342) (by decide +kernel) (by decide +kernel)
theorem wI_X6_hasRoomFor : Cond.instanceMethod yX6_hasRoomFor ∈ GG := GG_in (i := 343) (by decide +kernel) (by decide +kernel)
theorem wL_X6_hasRoomFor : Cond.selects RX6 yX6_hasRoomFor yX6_hasRoomFor ∈ GG := GG_in (i := 344) (by decide +kernel) (by decide +kernel)
set_option maxRecDepth 100000 in
theorem wC_X6_hasRoomFor : Cond.code yX6_hasRoomFor cX6_hasRoomFor 2 (some .boolean) ∈ GG := GG_in (i := 345) (rfl) (by decide +kernel)
theorem wF_X6_18 : Cond.fieldLink RX6 18 "PairSieve$Tape" "length" "I" ∈ GG := GG_in (i := 117) (by decide +kernel) (by decide +kernel)
theorem wM_X7_109 : Cond.methodLink RX7 109 yX6_append ∈ GG := GG_in (i := 346) (by decide +kernel) (by decide +kernel)
theorem wI_X6_append : Cond.instanceMethod yX6_append ∈ GG := GG_in (i := 347) (by decide +kernel) (by decide +kernel)
theorem wL_X6_append : Cond.selects RX6 yX6_append yX6_append ∈ GG := GG_in (i := 348) (by decide +kernel) (by decide +kernel)
set_option maxRecDepth 100000 in
theorem wC_X6_append : Cond.code yX6_append cX6_append 3 none ∈ GG := GG_in (i := 349) (rfl) (by decide +kernel)
theorem wM_L_46 : Cond.methodLink RL 46 yX8_feed ∈ GG := GG_in (i := 841) (by decide +kernel) (by decide +kernel)
theorem wI_X8_feed : Cond.instanceMethod yX8_feed ∈ GG := GG_in (i := 842) (by decide +kernel) (by decide +kernel)
theorem wL_X8_feed : Cond.selects RX8 yX8_feed yX8_feed ∈ GG := GG_in (i := 843) (by decide +kernel) (by decide +kernel)
set_option maxRecDepth 100000 in
theorem wC_X8_feed : Cond.code yX8_feed cX8_feed 6 (some .int) ∈ GG := GG_in (i := 844) (rfl) (by decide +kernel)
theorem wF_X8_117 : Cond.fieldLink RX8 117 "PairSieveModel" "taped" "I" ∈ GG := GG_in (i := 723) (by decide +kernel) (by decide +kernel)
theorem wM_X8_120 : Cond.methodLink RX8 120 yX8_four ∈ GG := GG_in (i := 845) (by decide +kernel) (by decide +kernel)
theorem wI_X8_four : Cond.instanceMethod yX8_four ∈ GG := GG_in (i := 847) (by decide +kernel) (by decide +kernel)
theorem wL_X8_four : Cond.selects RX8 yX8_four yX8_four ∈ GG := GG_in (i := 23) (by decide +kernel) (by decide +kernel)
set_option maxRecDepth 100000 in
theorem wC_X8_four : Cond.code yX8_four cX8_four 3 none ∈ GG := GG_in (i := 848) (rfl) (by decide +kernel)
theorem wM_L_47 : Cond.methodLink RL 47 yX7_end ∈ GG := GG_in (i := 350) (by decide +kernel) (by decide +kernel)
theorem wI_X7_end : Cond.instanceMethod yX7_end ∈ GG := GG_in (i := 351) (by decide +kernel) (by decide +kernel)
theorem wL_X7_end : Cond.selects RX7 yX7_end yX7_end ∈ GG := GG_in (i := 352) (by decide +kernel) (by decide +kernel)
set_option maxRecDepth 100000 in
theorem wC_X7_end : Cond.code yX7_end cX7_end 2 (some .int) ∈ GG := GG_in (i := 353) (rfl) (by decide +kernel)
theorem wM_X7_115 : Cond.methodLink RX7 115 yX6_cut ∈ GG := GG_in (i := 354) (by decide +kernel) (by decide +kernel)
theorem wI_X6_cut : Cond.instanceMethod yX6_cut ∈ GG := GG_in (i := 355) (by decide +kernel) (by decide +kernel)
theorem wL_X6_cut : Cond.selects RX6 yX6_cut yX6_cut ∈ GG := GG_in (i := 356) (by decide +kernel) (by decide +kernel)
set_option maxRecDepth 100000 in
theorem wC_X6_cut : Cond.code yX6_cut cX6_cut 2 (some .boolean) ∈ GG := GG_in (i := 357) (rfl) (by decide +kernel)
theorem wM_L_51 : Cond.methodLink RL 51 yX8_end ∈ GG := GG_in (i := 849) (by decide +kernel) (by decide +kernel)
theorem wI_X8_end : Cond.instanceMethod yX8_end ∈ GG := GG_in (i := 850) (by decide +kernel) (by decide +kernel)
theorem wL_X8_end : Cond.selects RX8 yX8_end yX8_end ∈ GG := GG_in (i := 851) (by decide +kernel) (by decide +kernel)
set_option maxRecDepth 100000 in
theorem wC_X8_end : Cond.code yX8_end cX8_end 2 (some .int) ∈ GG := GG_in (i := 852) (rfl) (by decide +kernel)
theorem wM_L_52 : Cond.methodLink RL 52 yX7_text ∈ GG := GG_in (i := 358) (by decide +kernel) (by decide +kernel)
theorem wI_X7_text : Cond.instanceMethod yX7_text ∈ GG := GG_in (i := 359) (by decide +kernel) (by decide +kernel)
theorem wL_X7_text : Cond.selects RX7 yX7_text yX7_text ∈ GG := GG_in (i := 360) (by decide +kernel) (by decide +kernel)
set_option maxRecDepth 100000 in
theorem wC_X7_text : Cond.code yX7_text cX7_text 7 (some .int) ∈ GG := GG_in (i := 361) (rfl) (by decide +kernel)
theorem wM_X7_118 : Cond.methodLink RX7 118 yX6_findNumbers ∈ GG := GG_in (i := 362) (by decide +kernel) (by decide +kernel)
theorem wI_X6_findNumbers : Cond.instanceMethod yX6_findNumbers ∈ GG := GG_in (i := 363) (by decide +kernel) (by decide +kernel)
theorem wL_X6_findNumbers : Cond.selects RX6 yX6_findNumbers yX6_findNumbers ∈ GG := GG_in (i := 364) (by decide +kernel) (by decide +kernel)
set_option maxRecDepth 100000 in
theorem wC_X6_findNumbers : Cond.code yX6_findNumbers cX6_findNumbers 5 (some .int) ∈ GG := GG_in (i := 365) (rfl) (by decide +kernel)
theorem wM_X6_22 : Cond.methodLink RX6 22 yX6_countLikeOnesAhead ∈ GG := GG_in (i := 366) (by decide +kernel) (by decide +kernel)
theorem wI_X6_countLikeOnesAhead : Cond.instanceMethod yX6_countLikeOnesAhead ∈ GG := GG_in (i := 368) (by decide +kernel) (by decide +kernel)
theorem wL_X6_countLikeOnesAhead : Cond.selects RX6 yX6_countLikeOnesAhead yX6_countLikeOnesAhead ∈ GG := GG_in (i := 6) (by decide +kernel) (by decide +kernel)
set_option maxRecDepth 100000 in
theorem wC_X6_countLikeOnesAhead : Cond.code yX6_countLikeOnesAhead cX6_countLikeOnesAhead 6 (some .int) ∈ GG := GG_in (i := 369) (rfl) (by decide +kernel)
theorem wM_X6_26 : Cond.methodLink RX6 26 yX6_pieceAt ∈ GG := GG_in (i := 370) (by decide +kernel) (by decide +kernel)
theorem wI_X6_pieceAt : Cond.instanceMethod yX6_pieceAt ∈ GG := GG_in (i := 372) (by decide +kernel) (by decide +kernel)
theorem wL_X6_pieceAt : Cond.selects RX6 yX6_pieceAt yX6_pieceAt ∈ GG := GG_in (i := 7) (by decide +kernel) (by decide +kernel)
set_option maxRecDepth 100000 in
theorem wC_X6_pieceAt : Cond.code yX6_pieceAt cX6_pieceAt 5 (some .int) ∈ GG := GG_in (i := 373) (rfl) (by decide +kernel)
theorem wM_X7_121 : Cond.methodLink RX7 121 yX3_clear ∈ GG := GG_in (i := 374) (by decide +kernel) (by decide +kernel)
theorem wI_X3_clear : Cond.instanceMethod yX3_clear ∈ GG := GG_in (i := 375) (by decide +kernel) (by decide +kernel)
theorem wL_X3_clear : Cond.selects RX3 yX3_clear yX3_clear ∈ GG := GG_in (i := 376) (by decide +kernel) (by decide +kernel)
set_option maxRecDepth 100000 in
theorem wC_X3_clear : Cond.code yX3_clear cX3_clear 1 none ∈ GG := GG_in (i := 377) (rfl) (by decide +kernel)
theorem wM_L_55 : Cond.methodLink RL 55 yX8_text ∈ GG := GG_in (i := 853) (by decide +kernel) (by decide +kernel)
theorem wI_X8_text : Cond.instanceMethod yX8_text ∈ GG := GG_in (i := 854) (by decide +kernel) (by decide +kernel)
theorem wL_X8_text : Cond.selects RX8 yX8_text yX8_text ∈ GG := GG_in (i := 855) (by decide +kernel) (by decide +kernel)
set_option maxRecDepth 100000 in
theorem wC_X8_text : Cond.code yX8_text cX8_text 8 (some .int) ∈ GG := GG_in (i := 856) (rfl) (by decide +kernel)
theorem wM_X8_124 : Cond.methodLink RX8 124 yX8_piece ∈ GG := GG_in (i := 857) (by decide +kernel) (by decide +kernel)
theorem wI_X8_piece : Cond.instanceMethod yX8_piece ∈ GG := GG_in (i := 859) (by decide +kernel) (by decide +kernel)
theorem wL_X8_piece : Cond.selects RX8 yX8_piece yX8_piece ∈ GG := GG_in (i := 24) (by decide +kernel) (by decide +kernel)
set_option maxRecDepth 100000 in
theorem wC_X8_piece : Cond.code yX8_piece cX8_piece 3 (some .int) ∈ GG := GG_in (i := 860) (rfl) (by decide +kernel)
theorem wM_L_56 : Cond.methodLink RL 56 yX7_measure ∈ GG := GG_in (i := 378) (by decide +kernel) (by decide +kernel)
theorem wI_X7_measure : Cond.instanceMethod yX7_measure ∈ GG := GG_in (i := 379) (by decide +kernel) (by decide +kernel)
theorem wL_X7_measure : Cond.selects RX7 yX7_measure yX7_measure ∈ GG := GG_in (i := 380) (by decide +kernel) (by decide +kernel)
set_option maxRecDepth 100000 in
theorem wC_X7_measure : Cond.code yX7_measure cX7_measure 4 (some .boolean) ∈ GG := GG_in (i := 381) (rfl) (by decide +kernel)
theorem wM_X7_127 : Cond.methodLink RX7 127 yX1_tell ∈ GG := GG_in (i := 382) (by decide +kernel) (by decide +kernel)
theorem wI_X1_tell : Cond.instanceMethod yX1_tell ∈ GG := GG_in (i := 383) (by decide +kernel) (by decide +kernel)
theorem wL_X1_tell : Cond.selects RX1 yX1_tell yX1_tell ∈ GG := GG_in (i := 384) (by decide +kernel) (by decide +kernel)
set_option maxRecDepth 100000 in
theorem wC_X1_tell : Cond.code yX1_tell cX1_tell 4 (some .boolean) ∈ GG := GG_in (i := 385) (rfl) (by decide +kernel)
theorem wM_X1_21 : Cond.methodLink RX1 21 yX1_isAllowed ∈ GG := GG_in (i := 386) (by decide +kernel) (by decide +kernel)
theorem wS_X1_isAllowed : Cond.static yX1_isAllowed ∈ GG := GG_in (i := 387) (by decide +kernel) (by decide +kernel)
set_option maxRecDepth 100000 in
theorem wC_X1_isAllowed : Cond.code yX1_isAllowed cX1_isAllowed 3 (some .boolean) ∈ GG := GG_in (i := 388) (rfl) (by decide +kernel)
theorem wM_L_60 : Cond.methodLink RL 60 yX8_measure ∈ GG := GG_in (i := 861) (by decide +kernel) (by decide +kernel)
theorem wI_X8_measure : Cond.instanceMethod yX8_measure ∈ GG := GG_in (i := 862) (by decide +kernel) (by decide +kernel)
theorem wL_X8_measure : Cond.selects RX8 yX8_measure yX8_measure ∈ GG := GG_in (i := 863) (by decide +kernel) (by decide +kernel)
set_option maxRecDepth 100000 in
theorem wC_X8_measure : Cond.code yX8_measure cX8_measure 5 (some .boolean) ∈ GG := GG_in (i := 864) (rfl) (by decide +kernel)
theorem wM_L_61 : Cond.methodLink RL 61 yX7_order ∈ GG := GG_in (i := 389) (by decide +kernel) (by decide +kernel)
theorem wI_X7_order : Cond.instanceMethod yX7_order ∈ GG := GG_in (i := 390) (by decide +kernel) (by decide +kernel)
theorem wL_X7_order : Cond.selects RX7 yX7_order yX7_order ∈ GG := GG_in (i := 391) (by decide +kernel) (by decide +kernel)
set_option maxRecDepth 100000 in
theorem wC_X7_order : Cond.code yX7_order cX7_order 4 (some .int) ∈ GG := GG_in (i := 392) (rfl) (by decide +kernel)
theorem wM_X7_131 : Cond.methodLink RX7 131 yX5_clear ∈ GG := GG_in (i := 393) (by decide +kernel) (by decide +kernel)
theorem wI_X5_clear : Cond.instanceMethod yX5_clear ∈ GG := GG_in (i := 394) (by decide +kernel) (by decide +kernel)
theorem wL_X5_clear : Cond.selects RX5 yX5_clear yX5_clear ∈ GG := GG_in (i := 395) (by decide +kernel) (by decide +kernel)
set_option maxRecDepth 100000 in
theorem wC_X5_clear : Cond.code yX5_clear cX5_clear 1 none ∈ GG := GG_in (i := 396) (rfl) (by decide +kernel)
theorem wM_X7_138 : Cond.methodLink RX7 138 yX5_raise ∈ GG := GG_in (i := 397) (by decide +kernel) (by decide +kernel)
theorem wI_X5_raise : Cond.instanceMethod yX5_raise ∈ GG := GG_in (i := 398) (by decide +kernel) (by decide +kernel)
theorem wL_X5_raise : Cond.selects RX5 yX5_raise yX5_raise ∈ GG := GG_in (i := 399) (by decide +kernel) (by decide +kernel)
set_option maxRecDepth 100000 in
theorem wC_X5_raise : Cond.code yX5_raise cX5_raise 2 none ∈ GG := GG_in (i := 400) (rfl) (by decide +kernel)
theorem wM_X5_28 : Cond.methodLink RX5 28 yX5_valueOf ∈ GG := GG_in (i := 401) (by decide +kernel) (by decide +kernel)
theorem wM_X5_32 : Cond.methodLink RX5 32 yX5_write ∈ GG := GG_in (i := 402) (by decide +kernel) (by decide +kernel)
theorem wM_X7_141 : Cond.methodLink RX7 141 yX3_putInOrder ∈ GG := GG_in (i := 403) (by decide +kernel) (by decide +kernel)
theorem wI_X3_putInOrder : Cond.instanceMethod yX3_putInOrder ∈ GG := GG_in (i := 404) (by decide +kernel) (by decide +kernel)
theorem wL_X3_putInOrder : Cond.selects RX3 yX3_putInOrder yX3_putInOrder ∈ GG := GG_in (i := 405) (by decide +kernel) (by decide +kernel)
set_option maxRecDepth 100000 in
theorem wC_X3_putInOrder : Cond.code yX3_putInOrder cX3_putInOrder 4 none ∈ GG := GG_in (i := 406) (rfl) (by decide +kernel)
theorem wM_X3_42 : Cond.methodLink RX3 42 yX3_clear ∈ GG := GG_in (i := 407) (by decide +kernel) (by decide +kernel)
theorem wM_X3_45 : Cond.methodLink RX3 45 yX3_keyOf ∈ GG := GG_in (i := 408) (by decide +kernel) (by decide +kernel)
theorem wM_X3_49 : Cond.methodLink RX3 49 yX3_insert ∈ GG := GG_in (i := 409) (by decide +kernel) (by decide +kernel)
theorem wM_L_64 : Cond.methodLink RL 64 yX8_order ∈ GG := GG_in (i := 865) (by decide +kernel) (by decide +kernel)
theorem wI_X8_order : Cond.instanceMethod yX8_order ∈ GG := GG_in (i := 866) (by decide +kernel) (by decide +kernel)
theorem wL_X8_order : Cond.selects RX8 yX8_order yX8_order ∈ GG := GG_in (i := 867) (by decide +kernel) (by decide +kernel)
set_option maxRecDepth 100000 in
theorem wC_X8_order : Cond.code yX8_order cX8_order 5 (some .int) ∈ GG := GG_in (i := 868) (rfl) (by decide +kernel)
theorem wF_X8_103 : Cond.fieldLink RX8 103 "PairSieveModel" "known" "I" ∈ GG := GG_in (i := 714) (by decide +kernel) (by decide +kernel)
theorem wM_L_65 : Cond.methodLink RL 65 yX7_frequency ∈ GG := GG_in (i := 410) (by decide +kernel) (by decide +kernel)
theorem wI_X7_frequency : Cond.instanceMethod yX7_frequency ∈ GG := GG_in (i := 411) (by decide +kernel) (by decide +kernel)
theorem wL_X7_frequency : Cond.selects RX7 yX7_frequency yX7_frequency ∈ GG := GG_in (i := 412) (by decide +kernel) (by decide +kernel)
set_option maxRecDepth 100000 in
theorem wC_X7_frequency : Cond.code yX7_frequency cX7_frequency 2 (some .int) ∈ GG := GG_in (i := 413) (rfl) (by decide +kernel)
theorem wM_L_68 : Cond.methodLink RL 68 yX8_frequency ∈ GG := GG_in (i := 869) (by decide +kernel) (by decide +kernel)
theorem wI_X8_frequency : Cond.instanceMethod yX8_frequency ∈ GG := GG_in (i := 870) (by decide +kernel) (by decide +kernel)
theorem wL_X8_frequency : Cond.selects RX8 yX8_frequency yX8_frequency ∈ GG := GG_in (i := 871) (by decide +kernel) (by decide +kernel)
set_option maxRecDepth 100000 in
theorem wC_X8_frequency : Cond.code yX8_frequency cX8_frequency 2 (some .int) ∈ GG := GG_in (i := 872) (rfl) (by decide +kernel)
theorem wM_X8_106 : Cond.methodLink RX8 106 yX8_frequencyOf ∈ GG := GG_in (i := 873) (by decide +kernel) (by decide +kernel)
theorem wI_X8_frequencyOf : Cond.instanceMethod yX8_frequencyOf ∈ GG := GG_in (i := 875) (by decide +kernel) (by decide +kernel)
theorem wL_X8_frequencyOf : Cond.selects RX8 yX8_frequencyOf yX8_frequencyOf ∈ GG := GG_in (i := 25) (by decide +kernel) (by decide +kernel)
set_option maxRecDepth 100000 in
theorem wC_X8_frequencyOf : Cond.code yX8_frequencyOf cX8_frequencyOf 3 (some .int) ∈ GG := GG_in (i := 876) (rfl) (by decide +kernel)
theorem wM_L_69 : Cond.methodLink RL 69 yX7_about ∈ GG := GG_in (i := 414) (by decide +kernel) (by decide +kernel)
theorem wI_X7_about : Cond.instanceMethod yX7_about ∈ GG := GG_in (i := 415) (by decide +kernel) (by decide +kernel)
theorem wL_X7_about : Cond.selects RX7 yX7_about yX7_about ∈ GG := GG_in (i := 416) (by decide +kernel) (by decide +kernel)
set_option maxRecDepth 100000 in
theorem wC_X7_about : Cond.code yX7_about cX7_about 4 (some .int) ∈ GG := GG_in (i := 417) (rfl) (by decide +kernel)
theorem wM_X7_153 : Cond.methodLink RX7 153 yX1_least ∈ GG := GG_in (i := 418) (by decide +kernel) (by decide +kernel)
theorem wI_X1_least : Cond.instanceMethod yX1_least ∈ GG := GG_in (i := 419) (by decide +kernel) (by decide +kernel)
theorem wL_X1_least : Cond.selects RX1 yX1_least yX1_least ∈ GG := GG_in (i := 420) (by decide +kernel) (by decide +kernel)
set_option maxRecDepth 100000 in
theorem wC_X1_least : Cond.code yX1_least cX1_least 3 (some .long) ∈ GG := GG_in (i := 421) (rfl) (by decide +kernel)
theorem wK_X1_25 : Cond.constantLong RX1 25 (2) ∈ GG := GG_in (i := 422) (by decide +kernel) (by decide +kernel)
theorem wM_X1_27 : Cond.methodLink RX1 27 yX1_quotientUp ∈ GG := GG_in (i := 423) (by decide +kernel) (by decide +kernel)
theorem wS_X1_quotientUp : Cond.static yX1_quotientUp ∈ GG := GG_in (i := 424) (by decide +kernel) (by decide +kernel)
set_option maxRecDepth 100000 in
theorem wC_X1_quotientUp : Cond.code yX1_quotientUp cX1_quotientUp 4 (some .long) ∈ GG := GG_in (i := 425) (rfl) (by decide +kernel)
theorem wM_X7_157 : Cond.methodLink RX7 157 yX7_beginningOf ∈ GG := GG_in (i := 426) (by decide +kernel) (by decide +kernel)
theorem wI_X7_beginningOf : Cond.instanceMethod yX7_beginningOf ∈ GG := GG_in (i := 428) (by decide +kernel) (by decide +kernel)
theorem wL_X7_beginningOf : Cond.selects RX7 yX7_beginningOf yX7_beginningOf ∈ GG := GG_in (i := 8) (by decide +kernel) (by decide +kernel)
set_option maxRecDepth 100000 in
theorem wC_X7_beginningOf : Cond.code yX7_beginningOf cX7_beginningOf 2 (some .int) ∈ GG := GG_in (i := 429) (rfl) (by decide +kernel)
theorem wM_X7_280 : Cond.methodLink RX7 280 yX3_countBeginning ∈ GG := GG_in (i := 430) (by decide +kernel) (by decide +kernel)
theorem wI_X3_countBeginning : Cond.instanceMethod yX3_countBeginning ∈ GG := GG_in (i := 431) (by decide +kernel) (by decide +kernel)
theorem wL_X3_countBeginning : Cond.selects RX3 yX3_countBeginning yX3_countBeginning ∈ GG := GG_in (i := 432) (by decide +kernel) (by decide +kernel)
set_option maxRecDepth 100000 in
theorem wC_X3_countBeginning : Cond.code yX3_countBeginning cX3_countBeginning 5 (some .int) ∈ GG := GG_in (i := 433) (rfl) (by decide +kernel)
theorem wM_X7_161 : Cond.methodLink RX7 161 yX7_freshNet ∈ GG := GG_in (i := 434) (by decide +kernel) (by decide +kernel)
theorem wI_X7_freshNet : Cond.instanceMethod yX7_freshNet ∈ GG := GG_in (i := 436) (by decide +kernel) (by decide +kernel)
theorem wL_X7_freshNet : Cond.selects RX7 yX7_freshNet yX7_freshNet ∈ GG := GG_in (i := 9) (by decide +kernel) (by decide +kernel)
set_option maxRecDepth 100000 in
theorem wC_X7_freshNet : Cond.code yX7_freshNet cX7_freshNet 3 (some (.object "PairSieve$Net")) ∈ GG := GG_in (i := 437) (rfl) (by decide +kernel)
theorem wM_X7_311 : Cond.methodLink RX7 311 yX2_isForgotten ∈ GG := GG_in (i := 438) (by decide +kernel) (by decide +kernel)
theorem wI_X2_isForgotten : Cond.instanceMethod yX2_isForgotten ∈ GG := GG_in (i := 439) (by decide +kernel) (by decide +kernel)
theorem wL_X2_isForgotten : Cond.selects RX2 yX2_isForgotten yX2_isForgotten ∈ GG := GG_in (i := 440) (by decide +kernel) (by decide +kernel)
set_option maxRecDepth 100000 in
theorem wC_X2_isForgotten : Cond.code yX2_isForgotten cX2_isForgotten 2 (some .boolean) ∈ GG := GG_in (i := 441) (rfl) (by decide +kernel)
theorem wM_X7_314 : Cond.methodLink RX7 314 yX7_arePair ∈ GG := GG_in (i := 442) (by decide +kernel) (by decide +kernel)
theorem wI_X7_arePair : Cond.instanceMethod yX7_arePair ∈ GG := GG_in (i := 444) (by decide +kernel) (by decide +kernel)
theorem wL_X7_arePair : Cond.selects RX7 yX7_arePair yX7_arePair ∈ GG := GG_in (i := 10) (by decide +kernel) (by decide +kernel)
set_option maxRecDepth 100000 in
theorem wC_X7_arePair : Cond.code yX7_arePair cX7_arePair 5 (some .boolean) ∈ GG := GG_in (i := 445) (rfl) (by decide +kernel)
theorem wM_X7_180 : Cond.methodLink RX7 180 yX4_compare ∈ GG := GG_in (i := 446) (by decide +kernel) (by decide +kernel)
theorem wI_X4_compare : Cond.instanceMethod yX4_compare ∈ GG := GG_in (i := 447) (by decide +kernel) (by decide +kernel)
theorem wL_X4_compare : Cond.selects RX4 yX4_compare yX4_compare ∈ GG := GG_in (i := 448) (by decide +kernel) (by decide +kernel)
set_option maxRecDepth 100000 in
theorem wC_X4_compare : Cond.code yX4_compare cX4_compare 9 none ∈ GG := GG_in (i := 449) (rfl) (by decide +kernel)
theorem wF_X4_7 : Cond.fieldLink RX4 7 "PairSieve$Overlap" "shared" "I" ∈ GG := GG_in (i := 134) (by decide +kernel) (by decide +kernel)
theorem wF_X4_13 : Cond.fieldLink RX4 13 "PairSieve$Overlap" "sharedInBeginnings" "I" ∈ GG := GG_in (i := 136) (by decide +kernel) (by decide +kernel)
theorem wF_X4_16 : Cond.fieldLink RX4 16 "PairSieve$Overlap" "mostByPlaces" "I" ∈ GG := GG_in (i := 138) (by decide +kernel) (by decide +kernel)
theorem wM_X4_35 : Cond.methodLink RX4 35 Lib.Math.min.name ∈ GG := GG_in (i := 454) (by decide +kernel) (by decide +kernel)
theorem wS_J9_min_7cf53 : Cond.static Lib.Math.min.name ∈ GG := GG_in (i := 455) (by decide +kernel) (by decide +kernel)
theorem wN_J9 : Cond.initialized "java/lang/Math" ∈ GG := GG_in (i := 56) (by decide +kernel) (by decide +kernel)
set_option maxRecDepth 100000 in
theorem wC_J9_min_7cf53 : Cond.code Lib.Math.min.name Lib.Math.min.code 2 (some .int) ∈ GG := GG_in (i := 456) (rfl) (by decide +kernel)
theorem wM_X4_31 : Cond.methodLink RX4 31 yX3_amountBehind ∈ GG := GG_in (i := 450) (by decide +kernel) (by decide +kernel)
theorem wI_X3_amountBehind : Cond.instanceMethod yX3_amountBehind ∈ GG := GG_in (i := 451) (by decide +kernel) (by decide +kernel)
theorem wL_X3_amountBehind : Cond.selects RX3 yX3_amountBehind yX3_amountBehind ∈ GG := GG_in (i := 452) (by decide +kernel) (by decide +kernel)
set_option maxRecDepth 100000 in
theorem wC_X3_amountBehind : Cond.code yX3_amountBehind cX3_amountBehind 4 (some .int) ∈ GG := GG_in (i := 453) (rfl) (by decide +kernel)
theorem wM_X7_201 : Cond.methodLink RX7 201 yX1_isReached ∈ GG := GG_in (i := 457) (by decide +kernel) (by decide +kernel)
theorem wI_X1_isReached : Cond.instanceMethod yX1_isReached ∈ GG := GG_in (i := 458) (by decide +kernel) (by decide +kernel)
theorem wL_X1_isReached : Cond.selects RX1 yX1_isReached yX1_isReached ∈ GG := GG_in (i := 459) (by decide +kernel) (by decide +kernel)
set_option maxRecDepth 100000 in
theorem wC_X1_isReached : Cond.code yX1_isReached cX1_isReached 11 (some .boolean) ∈ GG := GG_in (i := 460) (rfl) (by decide +kernel)
theorem wM_X1_39 : Cond.methodLink RX1 39 yX1_likenessAbove ∈ GG := GG_in (i := 461) (by decide +kernel) (by decide +kernel)
theorem wI_X1_likenessAbove : Cond.instanceMethod yX1_likenessAbove ∈ GG := GG_in (i := 462) (by decide +kernel) (by decide +kernel)
theorem wL_X1_likenessAbove : Cond.selects RX1 yX1_likenessAbove yX1_likenessAbove ∈ GG := GG_in (i := 463) (by decide +kernel) (by decide +kernel)
set_option maxRecDepth 100000 in
theorem wC_X1_likenessAbove : Cond.code yX1_likenessAbove cX1_likenessAbove 7 (some .long) ∈ GG := GG_in (i := 464) (rfl) (by decide +kernel)
theorem wM_X1_43 : Cond.methodLink RX1 43 yX1_likenessBelow ∈ GG := GG_in (i := 465) (by decide +kernel) (by decide +kernel)
theorem wI_X1_likenessBelow : Cond.instanceMethod yX1_likenessBelow ∈ GG := GG_in (i := 466) (by decide +kernel) (by decide +kernel)
theorem wL_X1_likenessBelow : Cond.selects RX1 yX1_likenessBelow yX1_likenessBelow ∈ GG := GG_in (i := 467) (by decide +kernel) (by decide +kernel)
set_option maxRecDepth 100000 in
theorem wC_X1_likenessBelow : Cond.code yX1_likenessBelow cX1_likenessBelow 7 (some .long) ∈ GG := GG_in (i := 468) (rfl) (by decide +kernel)
theorem wM_X1_34 : Cond.methodLink RX1 34 Lib.MathLoose.min_long.x ∈ GG := GG_in (i := 469) (by decide +kernel) (by decide +kernel)
theorem wS_J9_min_f86c9 : Cond.static Lib.MathLoose.min_long.x ∈ GG := GG_in (i := 470) (by decide +kernel) (by decide +kernel)
set_option maxRecDepth 100000 in
theorem wC_J9_min_f86c9 : Cond.code Lib.MathLoose.min_long.x Lib.MathLoose.min_long.code 4 (some .long) ∈ GG := GG_in (i := 471) (rfl) (by decide +kernel)
theorem wM_X7_317 : Cond.methodLink RX7 317 yX2_tie ∈ GG := GG_in (i := 472) (by decide +kernel) (by decide +kernel)
theorem wI_X2_tie : Cond.instanceMethod yX2_tie ∈ GG := GG_in (i := 473) (by decide +kernel) (by decide +kernel)
theorem wL_X2_tie : Cond.selects RX2 yX2_tie yX2_tie ∈ GG := GG_in (i := 474) (by decide +kernel) (by decide +kernel)
set_option maxRecDepth 100000 in
theorem wC_X2_tie : Cond.code yX2_tie cX2_tie 4 none ∈ GG := GG_in (i := 475) (rfl) (by decide +kernel)
theorem wK_X2_19 : Cond.constantLong RX2 19 (-1) ∈ GG := GG_in (i := 476) (by decide +kernel) (by decide +kernel)
theorem wM_X7_321 : Cond.methodLink RX7 321 yX2_know ∈ GG := GG_in (i := 477) (by decide +kernel) (by decide +kernel)
theorem wI_X2_know : Cond.instanceMethod yX2_know ∈ GG := GG_in (i := 478) (by decide +kernel) (by decide +kernel)
theorem wL_X2_know : Cond.selects RX2 yX2_know yX2_know ∈ GG := GG_in (i := 479) (by decide +kernel) (by decide +kernel)
set_option maxRecDepth 100000 in
theorem wC_X2_know : Cond.code yX2_know cX2_know 2 none ∈ GG := GG_in (i := 480) (rfl) (by decide +kernel)
theorem wM_X7_165 : Cond.methodLink RX7 165 yX2_familyOf ∈ GG := GG_in (i := 481) (by decide +kernel) (by decide +kernel)
theorem wI_X2_familyOf : Cond.instanceMethod yX2_familyOf ∈ GG := GG_in (i := 482) (by decide +kernel) (by decide +kernel)
theorem wL_X2_familyOf : Cond.selects RX2 yX2_familyOf yX2_familyOf ∈ GG := GG_in (i := 483) (by decide +kernel) (by decide +kernel)
set_option maxRecDepth 100000 in
theorem wC_X2_familyOf : Cond.code yX2_familyOf cX2_familyOf 7 (some .long) ∈ GG := GG_in (i := 484) (rfl) (by decide +kernel)
theorem wM_X2_27 : Cond.methodLink RX2 27 yX2_friendsOf ∈ GG := GG_in (i := 485) (by decide +kernel) (by decide +kernel)
theorem wI_X2_friendsOf : Cond.instanceMethod yX2_friendsOf ∈ GG := GG_in (i := 487) (by decide +kernel) (by decide +kernel)
theorem wL_X2_friendsOf : Cond.selects RX2 yX2_friendsOf yX2_friendsOf ∈ GG := GG_in (i := 11) (by decide +kernel) (by decide +kernel)
set_option maxRecDepth 100000 in
theorem wC_X2_friendsOf : Cond.code yX2_friendsOf cX2_friendsOf 6 (some .long) ∈ GG := GG_in (i := 488) (rfl) (by decide +kernel)
theorem wM_X7_169 : Cond.methodLink RX7 169 yX2_leastOf ∈ GG := GG_in (i := 489) (by decide +kernel) (by decide +kernel)
theorem wS_X2_leastOf : Cond.static yX2_leastOf ∈ GG := GG_in (i := 490) (by decide +kernel) (by decide +kernel)
set_option maxRecDepth 100000 in
theorem wC_X2_leastOf : Cond.code yX2_leastOf cX2_leastOf 2 (some .int) ∈ GG := GG_in (i := 491) (rfl) (by decide +kernel)
theorem wM_X2_21 : Cond.methodLink RX2 21 yJ13_bitCount_95d88 ∈ GG := GG_in (i := 492) (by decide +kernel) (by decide +kernel)
theorem wS_J13_bitCount_95d88 : Cond.static yJ13_bitCount_95d88 ∈ GG := GG_in (i := 493) (by decide +kernel) (by decide +kernel)
theorem wN_J13 : Cond.initialized RJ13 ∈ GG := GG_in (i := 57) (by decide +kernel) (by decide +kernel)
set_option maxRecDepth 100000 in
theorem wC_J13_bitCount_95d88 : Cond.code yJ13_bitCount_95d88 cJ13_bitCount_95d88 2 (some .int) ∈ GG := GG_in (i := 494) (rfl) (by decide +kernel)
theorem wK_J13_314 : Cond.constantLong RJ13 314 (6148914691236517205) ∈ GG := GG_in (i := 495) (by decide +kernel) (by decide +kernel)
theorem wK_J13_316 : Cond.constantLong RJ13 316 (3689348814741910323) ∈ GG := GG_in (i := 496) (by decide +kernel) (by decide +kernel)
theorem wK_J13_318 : Cond.constantLong RJ13 318 (1085102592571150095) ∈ GG := GG_in (i := 497) (by decide +kernel) (by decide +kernel)
theorem wM_X7_173 : Cond.methodLink RX7 173 yJ13_bitCount_95d88 ∈ GG := GG_in (i := 498) (by decide +kernel) (by decide +kernel)
theorem wM_L_72 : Cond.methodLink RL 72 yX8_about ∈ GG := GG_in (i := 973) (by decide +kernel) (by decide +kernel)
theorem wI_X8_about : Cond.instanceMethod yX8_about ∈ GG := GG_in (i := 974) (by decide +kernel) (by decide +kernel)
theorem wL_X8_about : Cond.selects RX8 yX8_about yX8_about ∈ GG := GG_in (i := 975) (by decide +kernel) (by decide +kernel)
set_option maxRecDepth 100000 in
theorem wC_X8_about : Cond.code yX8_about cX8_about 5 (some .int) ∈ GG := GG_in (i := 976) (rfl) (by decide +kernel)
theorem wM_X8_136 : Cond.methodLink RX8 136 yX8_amountOf ∈ GG := GG_in (i := 917) (by decide +kernel) (by decide +kernel)
theorem wI_X8_amountOf : Cond.instanceMethod yX8_amountOf ∈ GG := GG_in (i := 919) (by decide +kernel) (by decide +kernel)
theorem wL_X8_amountOf : Cond.selects RX8 yX8_amountOf yX8_amountOf ∈ GG := GG_in (i := 34) (by decide +kernel) (by decide +kernel)
set_option maxRecDepth 100000 in
theorem wC_X8_amountOf : Cond.code yX8_amountOf cX8_amountOf 4 (some .int) ∈ GG := GG_in (i := 920) (rfl) (by decide +kernel)
theorem wM_X8_114 : Cond.methodLink RX8 114 yX8_weightOf ∈ GG := GG_in (i := 905) (by decide +kernel) (by decide +kernel)
theorem wI_X8_weightOf : Cond.instanceMethod yX8_weightOf ∈ GG := GG_in (i := 907) (by decide +kernel) (by decide +kernel)
theorem wL_X8_weightOf : Cond.selects RX8 yX8_weightOf yX8_weightOf ∈ GG := GG_in (i := 32) (by decide +kernel) (by decide +kernel)
set_option maxRecDepth 100000 in
theorem wC_X8_weightOf : Cond.code yX8_weightOf cX8_weightOf 3 (some .int) ∈ GG := GG_in (i := 908) (rfl) (by decide +kernel)
theorem wM_X8_153 : Cond.methodLink RX8 153 yX8_least ∈ GG := GG_in (i := 909) (by decide +kernel) (by decide +kernel)
theorem wI_X8_least : Cond.instanceMethod yX8_least ∈ GG := GG_in (i := 911) (by decide +kernel) (by decide +kernel)
theorem wL_X8_least : Cond.selects RX8 yX8_least yX8_least ∈ GG := GG_in (i := 33) (by decide +kernel) (by decide +kernel)
set_option maxRecDepth 100000 in
theorem wC_X8_least : Cond.code yX8_least cX8_least 3 (some .long) ∈ GG := GG_in (i := 912) (rfl) (by decide +kernel)
theorem wK_X8_127 : Cond.constantLong RX8 127 (2) ∈ GG := GG_in (i := 913) (by decide +kernel) (by decide +kernel)
theorem wM_X8_129 : Cond.methodLink RX8 129 yX8_up ∈ GG := GG_in (i := 914) (by decide +kernel) (by decide +kernel)
theorem wS_X8_up : Cond.static yX8_up ∈ GG := GG_in (i := 915) (by decide +kernel) (by decide +kernel)
set_option maxRecDepth 100000 in
theorem wC_X8_up : Cond.code yX8_up cX8_up 4 (some .long) ∈ GG := GG_in (i := 916) (rfl) (by decide +kernel)
theorem wM_X8_157 : Cond.methodLink RX8 157 yX8_sort ∈ GG := GG_in (i := 889) (by decide +kernel) (by decide +kernel)
theorem wI_X8_sort : Cond.instanceMethod yX8_sort ∈ GG := GG_in (i := 891) (by decide +kernel) (by decide +kernel)
theorem wL_X8_sort : Cond.selects RX8 yX8_sort yX8_sort ∈ GG := GG_in (i := 28) (by decide +kernel) (by decide +kernel)
set_option maxRecDepth 100000 in
theorem wC_X8_sort : Cond.code yX8_sort cX8_sort 6 none ∈ GG := GG_in (i := 892) (rfl) (by decide +kernel)
theorem wM_X8_110 : Cond.methodLink RX8 110 yX8_isAhead ∈ GG := GG_in (i := 893) (by decide +kernel) (by decide +kernel)
theorem wI_X8_isAhead : Cond.instanceMethod yX8_isAhead ∈ GG := GG_in (i := 895) (by decide +kernel) (by decide +kernel)
theorem wL_X8_isAhead : Cond.selects RX8 yX8_isAhead yX8_isAhead ∈ GG := GG_in (i := 29) (by decide +kernel) (by decide +kernel)
set_option maxRecDepth 100000 in
theorem wC_X8_isAhead : Cond.code yX8_isAhead cX8_isAhead 5 (some .boolean) ∈ GG := GG_in (i := 896) (rfl) (by decide +kernel)
theorem wM_X8_161 : Cond.methodLink RX8 161 yX8_beginning ∈ GG := GG_in (i := 897) (by decide +kernel) (by decide +kernel)
theorem wI_X8_beginning : Cond.instanceMethod yX8_beginning ∈ GG := GG_in (i := 899) (by decide +kernel) (by decide +kernel)
theorem wL_X8_beginning : Cond.selects RX8 yX8_beginning yX8_beginning ∈ GG := GG_in (i := 30) (by decide +kernel) (by decide +kernel)
set_option maxRecDepth 100000 in
theorem wC_X8_beginning : Cond.code yX8_beginning cX8_beginning 6 (some .int) ∈ GG := GG_in (i := 900) (rfl) (by decide +kernel)
theorem wM_X8_149 : Cond.methodLink RX8 149 yX8_amount ∈ GG := GG_in (i := 901) (by decide +kernel) (by decide +kernel)
theorem wI_X8_amount : Cond.instanceMethod yX8_amount ∈ GG := GG_in (i := 903) (by decide +kernel) (by decide +kernel)
theorem wL_X8_amount : Cond.selects RX8 yX8_amount yX8_amount ∈ GG := GG_in (i := 31) (by decide +kernel) (by decide +kernel)
set_option maxRecDepth 100000 in
theorem wC_X8_amount : Cond.code yX8_amount cX8_amount 6 (some .int) ∈ GG := GG_in (i := 904) (rfl) (by decide +kernel)
theorem wM_X8_194 : Cond.methodLink RX8 194 yX8_steps ∈ GG := GG_in (i := 977) (by decide +kernel) (by decide +kernel)
theorem wI_X8_steps : Cond.instanceMethod yX8_steps ∈ GG := GG_in (i := 979) (by decide +kernel) (by decide +kernel)
theorem wL_X8_steps : Cond.selects RX8 yX8_steps yX8_steps ∈ GG := GG_in (i := 43) (by decide +kernel) (by decide +kernel)
set_option maxRecDepth 100000 in
theorem wC_X8_steps : Cond.code yX8_steps cX8_steps 6 none ∈ GG := GG_in (i := 980) (rfl) (by decide +kernel)
theorem wM_X8_171 : Cond.methodLink RX8 171 yX8_isTwo ∈ GG := GG_in (i := 881) (by decide +kernel) (by decide +kernel)
theorem wI_X8_isTwo : Cond.instanceMethod yX8_isTwo ∈ GG := GG_in (i := 883) (by decide +kernel) (by decide +kernel)
theorem wL_X8_isTwo : Cond.selects RX8 yX8_isTwo yX8_isTwo ∈ GG := GG_in (i := 26) (by decide +kernel) (by decide +kernel)
set_option maxRecDepth 100000 in
theorem wC_X8_isTwo : Cond.code yX8_isTwo cX8_isTwo 3 (some .boolean) ∈ GG := GG_in (i := 884) (rfl) (by decide +kernel)
theorem wM_X8_168 : Cond.methodLink RX8 168 yX8_isPair ∈ GG := GG_in (i := 925) (by decide +kernel) (by decide +kernel)
theorem wI_X8_isPair : Cond.instanceMethod yX8_isPair ∈ GG := GG_in (i := 927) (by decide +kernel) (by decide +kernel)
theorem wL_X8_isPair : Cond.selects RX8 yX8_isPair yX8_isPair ∈ GG := GG_in (i := 36) (by decide +kernel) (by decide +kernel)
set_option maxRecDepth 100000 in
theorem wC_X8_isPair : Cond.code yX8_isPair cX8_isPair 13 (some .boolean) ∈ GG := GG_in (i := 928) (rfl) (by decide +kernel)
theorem wM_X8_139 : Cond.methodLink RX8 139 yX8_shared ∈ GG := GG_in (i := 929) (by decide +kernel) (by decide +kernel)
theorem wI_X8_shared : Cond.instanceMethod yX8_shared ∈ GG := GG_in (i := 931) (by decide +kernel) (by decide +kernel)
theorem wL_X8_shared : Cond.selects RX8 yX8_shared yX8_shared ∈ GG := GG_in (i := 37) (by decide +kernel) (by decide +kernel)
set_option maxRecDepth 100000 in
theorem wC_X8_shared : Cond.code yX8_shared cX8_shared 5 (some .int) ∈ GG := GG_in (i := 932) (rfl) (by decide +kernel)
theorem wM_X8_142 : Cond.methodLink RX8 142 yX8_above ∈ GG := GG_in (i := 933) (by decide +kernel) (by decide +kernel)
theorem wI_X8_above : Cond.instanceMethod yX8_above ∈ GG := GG_in (i := 935) (by decide +kernel) (by decide +kernel)
theorem wL_X8_above : Cond.selects RX8 yX8_above yX8_above ∈ GG := GG_in (i := 38) (by decide +kernel) (by decide +kernel)
set_option maxRecDepth 100000 in
theorem wC_X8_above : Cond.code yX8_above cX8_above 7 (some .long) ∈ GG := GG_in (i := 936) (rfl) (by decide +kernel)
theorem wM_X8_146 : Cond.methodLink RX8 146 yX8_below ∈ GG := GG_in (i := 937) (by decide +kernel) (by decide +kernel)
theorem wI_X8_below : Cond.instanceMethod yX8_below ∈ GG := GG_in (i := 939) (by decide +kernel) (by decide +kernel)
theorem wL_X8_below : Cond.selects RX8 yX8_below yX8_below ∈ GG := GG_in (i := 39) (by decide +kernel) (by decide +kernel)
set_option maxRecDepth 100000 in
theorem wC_X8_below : Cond.code yX8_below cX8_below 7 (some .long) ∈ GG := GG_in (i := 940) (rfl) (by decide +kernel)
theorem wM_L_73 : Cond.methodLink RL 73 yX7_at ∈ GG := GG_in (i := 499) (by decide +kernel) (by decide +kernel)
theorem wI_X7_at : Cond.instanceMethod yX7_at ∈ GG := GG_in (i := 500) (by decide +kernel) (by decide +kernel)
theorem wL_X7_at : Cond.selects RX7 yX7_at yX7_at ∈ GG := GG_in (i := 501) (by decide +kernel) (by decide +kernel)
set_option maxRecDepth 100000 in
theorem wC_X7_at : Cond.code yX7_at cX7_at 4 (some .int) ∈ GG := GG_in (i := 502) (rfl) (by decide +kernel)
theorem wM_L_76 : Cond.methodLink RL 76 yX8_at ∈ GG := GG_in (i := 981) (by decide +kernel) (by decide +kernel)
theorem wI_X8_at : Cond.instanceMethod yX8_at ∈ GG := GG_in (i := 982) (by decide +kernel) (by decide +kernel)
theorem wL_X8_at : Cond.selects RX8 yX8_at yX8_at ∈ GG := GG_in (i := 983) (by decide +kernel) (by decide +kernel)
set_option maxRecDepth 100000 in
theorem wC_X8_at : Cond.code yX8_at cX8_at 3 (some .int) ∈ GG := GG_in (i := 984) (rfl) (by decide +kernel)
theorem wM_L_77 : Cond.methodLink RL 77 yX7_like ∈ GG := GG_in (i := 503) (by decide +kernel) (by decide +kernel)
theorem wI_X7_like : Cond.instanceMethod yX7_like ∈ GG := GG_in (i := 504) (by decide +kernel) (by decide +kernel)
theorem wL_X7_like : Cond.selects RX7 yX7_like yX7_like ∈ GG := GG_in (i := 505) (by decide +kernel) (by decide +kernel)
set_option maxRecDepth 100000 in
theorem wC_X7_like : Cond.code yX7_like cX7_like 12 (some .long) ∈ GG := GG_in (i := 506) (rfl) (by decide +kernel)
theorem wK_X7_178 : Cond.constantLong RX7 178 (-1) ∈ GG := GG_in (i := 507) (by decide +kernel) (by decide +kernel)
theorem wM_X7_187 : Cond.methodLink RX7 187 yX1_likenessAbove ∈ GG := GG_in (i := 508) (by decide +kernel) (by decide +kernel)
theorem wM_X7_191 : Cond.methodLink RX7 191 yX1_likenessBelow ∈ GG := GG_in (i := 509) (by decide +kernel) (by decide +kernel)
theorem wM_X7_194 : Cond.methodLink RX7 194 yX1_needed ∈ GG := GG_in (i := 510) (by decide +kernel) (by decide +kernel)
theorem wI_X1_needed : Cond.instanceMethod yX1_needed ∈ GG := GG_in (i := 511) (by decide +kernel) (by decide +kernel)
theorem wL_X1_needed : Cond.selects RX1 yX1_needed yX1_needed ∈ GG := GG_in (i := 512) (by decide +kernel) (by decide +kernel)
set_option maxRecDepth 100000 in
theorem wC_X1_needed : Cond.code yX1_needed cX1_needed 5 (some .long) ∈ GG := GG_in (i := 513) (rfl) (by decide +kernel)
theorem wM_X1_31 : Cond.methodLink RX1 31 yX1_rootUp ∈ GG := GG_in (i := 514) (by decide +kernel) (by decide +kernel)
theorem wS_X1_rootUp : Cond.static yX1_rootUp ∈ GG := GG_in (i := 515) (by decide +kernel) (by decide +kernel)
set_option maxRecDepth 100000 in
theorem wC_X1_rootUp : Cond.code yX1_rootUp cX1_rootUp 6 (some .long) ∈ GG := GG_in (i := 516) (rfl) (by decide +kernel)
theorem wK_X1_46 : Cond.constantLong RX1 46 (3000) ∈ GG := GG_in (i := 517) (by decide +kernel) (by decide +kernel)
theorem wM_X7_198 : Cond.methodLink RX7 198 yX1_withoutDivisor ∈ GG := GG_in (i := 518) (by decide +kernel) (by decide +kernel)
theorem wS_X1_withoutDivisor : Cond.static yX1_withoutDivisor ∈ GG := GG_in (i := 519) (by decide +kernel) (by decide +kernel)
set_option maxRecDepth 100000 in
theorem wC_X1_withoutDivisor : Cond.code yX1_withoutDivisor cX1_withoutDivisor 13 (some .long) ∈ GG := GG_in (i := 520) (rfl) (by decide +kernel)
theorem wM_L_81 : Cond.methodLink RL 81 yX8_like ∈ GG := GG_in (i := 941) (by decide +kernel) (by decide +kernel)
theorem wI_X8_like : Cond.instanceMethod yX8_like ∈ GG := GG_in (i := 942) (by decide +kernel) (by decide +kernel)
theorem wL_X8_like : Cond.selects RX8 yX8_like yX8_like ∈ GG := GG_in (i := 943) (by decide +kernel) (by decide +kernel)
set_option maxRecDepth 100000 in
theorem wC_X8_like : Cond.code yX8_like cX8_like 16 (some .long) ∈ GG := GG_in (i := 944) (rfl) (by decide +kernel)
theorem wK_X8_177 : Cond.constantLong RX8 177 (-1) ∈ GG := GG_in (i := 945) (by decide +kernel) (by decide +kernel)
theorem wM_X8_133 : Cond.methodLink RX8 133 yX8_divisor ∈ GG := GG_in (i := 946) (by decide +kernel) (by decide +kernel)
theorem wS_X8_divisor : Cond.static yX8_divisor ∈ GG := GG_in (i := 947) (by decide +kernel) (by decide +kernel)
set_option maxRecDepth 100000 in
theorem wC_X8_divisor : Cond.code yX8_divisor cX8_divisor 4 (some .long) ∈ GG := GG_in (i := 948) (rfl) (by decide +kernel)
theorem wM_X8_165 : Cond.methodLink RX8 165 yX8_needed ∈ GG := GG_in (i := 921) (by decide +kernel) (by decide +kernel)
theorem wI_X8_needed : Cond.instanceMethod yX8_needed ∈ GG := GG_in (i := 923) (by decide +kernel) (by decide +kernel)
theorem wL_X8_needed : Cond.selects RX8 yX8_needed yX8_needed ∈ GG := GG_in (i := 35) (by decide +kernel) (by decide +kernel)
set_option maxRecDepth 100000 in
theorem wC_X8_needed : Cond.code yX8_needed cX8_needed 9 (some .long) ∈ GG := GG_in (i := 924) (rfl) (by decide +kernel)
theorem wM_L_82 : Cond.methodLink RL 82 yX7_why ∈ GG := GG_in (i := 521) (by decide +kernel) (by decide +kernel)
theorem wI_X7_why : Cond.instanceMethod yX7_why ∈ GG := GG_in (i := 522) (by decide +kernel) (by decide +kernel)
theorem wL_X7_why : Cond.selects RX7 yX7_why yX7_why ∈ GG := GG_in (i := 523) (by decide +kernel) (by decide +kernel)
set_option maxRecDepth 100000 in
theorem wC_X7_why : Cond.code yX7_why cX7_why 5 (some .int) ∈ GG := GG_in (i := 524) (rfl) (by decide +kernel)
theorem wM_X7_205 : Cond.methodLink RX7 205 yX7_fateOf ∈ GG := GG_in (i := 525) (by decide +kernel) (by decide +kernel)
theorem wI_X7_fateOf : Cond.instanceMethod yX7_fateOf ∈ GG := GG_in (i := 527) (by decide +kernel) (by decide +kernel)
theorem wL_X7_fateOf : Cond.selects RX7 yX7_fateOf yX7_fateOf ∈ GG := GG_in (i := 12) (by decide +kernel) (by decide +kernel)
set_option maxRecDepth 100000 in
theorem wC_X7_fateOf : Cond.code yX7_fateOf cX7_fateOf 7 (some .int) ∈ GG := GG_in (i := 528) (rfl) (by decide +kernel)
theorem wM_X7_286 : Cond.methodLink RX7 286 Lib.Math.min.name ∈ GG := GG_in (i := 529) (by decide +kernel) (by decide +kernel)
theorem wM_L_85 : Cond.methodLink RL 85 yX8_why ∈ GG := GG_in (i := 877) (by decide +kernel) (by decide +kernel)
theorem wI_X8_why : Cond.instanceMethod yX8_why ∈ GG := GG_in (i := 878) (by decide +kernel) (by decide +kernel)
theorem wL_X8_why : Cond.selects RX8 yX8_why yX8_why ∈ GG := GG_in (i := 879) (by decide +kernel) (by decide +kernel)
set_option maxRecDepth 100000 in
theorem wC_X8_why : Cond.code yX8_why cX8_why 3 (some .int) ∈ GG := GG_in (i := 880) (rfl) (by decide +kernel)
theorem wM_X8_174 : Cond.methodLink RX8 174 yX8_whyOf ∈ GG := GG_in (i := 885) (by decide +kernel) (by decide +kernel)
theorem wI_X8_whyOf : Cond.instanceMethod yX8_whyOf ∈ GG := GG_in (i := 887) (by decide +kernel) (by decide +kernel)
theorem wL_X8_whyOf : Cond.selects RX8 yX8_whyOf yX8_whyOf ∈ GG := GG_in (i := 27) (by decide +kernel) (by decide +kernel)
set_option maxRecDepth 100000 in
theorem wC_X8_whyOf : Cond.code yX8_whyOf cX8_whyOf 16 (some .int) ∈ GG := GG_in (i := 888) (rfl) (by decide +kernel)
theorem wM_L_86 : Cond.methodLink RL 86 yX7_pairs ∈ GG := GG_in (i := 530) (by decide +kernel) (by decide +kernel)
theorem wI_X7_pairs : Cond.instanceMethod yX7_pairs ∈ GG := GG_in (i := 531) (by decide +kernel) (by decide +kernel)
theorem wL_X7_pairs : Cond.selects RX7 yX7_pairs yX7_pairs ∈ GG := GG_in (i := 532) (by decide +kernel) (by decide +kernel)
set_option maxRecDepth 100000 in
theorem wC_X7_pairs : Cond.code yX7_pairs cX7_pairs 3 (some .int) ∈ GG := GG_in (i := 533) (rfl) (by decide +kernel)
theorem wM_X7_209 : Cond.methodLink RX7 209 yX7_startSieve ∈ GG := GG_in (i := 534) (by decide +kernel) (by decide +kernel)
theorem wI_X7_startSieve : Cond.instanceMethod yX7_startSieve ∈ GG := GG_in (i := 536) (by decide +kernel) (by decide +kernel)
theorem wL_X7_startSieve : Cond.selects RX7 yX7_startSieve yX7_startSieve ∈ GG := GG_in (i := 13) (by decide +kernel) (by decide +kernel)
set_option maxRecDepth 100000 in
theorem wC_X7_startSieve : Cond.code yX7_startSieve cX7_startSieve 2 none ∈ GG := GG_in (i := 537) (rfl) (by decide +kernel)
theorem wF_X7_261 : Cond.fieldLink RX7 261 "PairSieve" "spent" "I" ∈ GG := GG_in (i := 199) (by decide +kernel) (by decide +kernel)
theorem wM_X7_232 : Cond.methodLink RX7 232 yX0_clear ∈ GG := GG_in (i := 538) (by decide +kernel) (by decide +kernel)
theorem wI_X0_clear : Cond.instanceMethod yX0_clear ∈ GG := GG_in (i := 539) (by decide +kernel) (by decide +kernel)
theorem wL_X0_clear : Cond.selects RX0 yX0_clear yX0_clear ∈ GG := GG_in (i := 540) (by decide +kernel) (by decide +kernel)
set_option maxRecDepth 100000 in
theorem wC_X0_clear : Cond.code yX0_clear cX0_clear 1 none ∈ GG := GG_in (i := 541) (rfl) (by decide +kernel)
theorem wF_X0_28 : Cond.fieldLink RX0 28 "PairSieve$KeptPairs" "size" "I" ∈ GG := GG_in (i := 161) (by decide +kernel) (by decide +kernel)
theorem wM_X7_212 : Cond.methodLink RX7 212 yX7_sift ∈ GG := GG_in (i := 542) (by decide +kernel) (by decide +kernel)
theorem wI_X7_sift : Cond.instanceMethod yX7_sift ∈ GG := GG_in (i := 544) (by decide +kernel) (by decide +kernel)
theorem wL_X7_sift : Cond.selects RX7 yX7_sift yX7_sift ∈ GG := GG_in (i := 14) (by decide +kernel) (by decide +kernel)
set_option maxRecDepth 100000 in
theorem wC_X7_sift : Cond.code yX7_sift cX7_sift 4 none ∈ GG := GG_in (i := 545) (rfl) (by decide +kernel)
theorem wM_X7_294 : Cond.methodLink RX7 294 yX0_append ∈ GG := GG_in (i := 546) (by decide +kernel) (by decide +kernel)
theorem wI_X0_append : Cond.instanceMethod yX0_append ∈ GG := GG_in (i := 547) (by decide +kernel) (by decide +kernel)
theorem wL_X0_append : Cond.selects RX0 yX0_append yX0_append ∈ GG := GG_in (i := 548) (by decide +kernel) (by decide +kernel)
set_option maxRecDepth 100000 in
theorem wC_X0_append : Cond.code yX0_append cX0_append 4 none ∈ GG := GG_in (i := 549) (rfl) (by decide +kernel)
theorem wM_X0_32 : Cond.methodLink RX0 32 yX0_set ∈ GG := GG_in (i := 550) (by decide +kernel) (by decide +kernel)
theorem wI_X0_set : Cond.instanceMethod yX0_set ∈ GG := GG_in (i := 551) (by decide +kernel) (by decide +kernel)
theorem wL_X0_set : Cond.selects RX0 yX0_set yX0_set ∈ GG := GG_in (i := 552) (by decide +kernel) (by decide +kernel)
set_option maxRecDepth 100000 in
theorem wC_X0_set : Cond.code yX0_set cX0_set 5 none ∈ GG := GG_in (i := 553) (rfl) (by decide +kernel)
theorem wM_L_89 : Cond.methodLink RL 89 yX8_pairs ∈ GG := GG_in (i := 949) (by decide +kernel) (by decide +kernel)
theorem wI_X8_pairs : Cond.instanceMethod yX8_pairs ∈ GG := GG_in (i := 950) (by decide +kernel) (by decide +kernel)
theorem wL_X8_pairs : Cond.selects RX8 yX8_pairs yX8_pairs ∈ GG := GG_in (i := 951) (by decide +kernel) (by decide +kernel)
set_option maxRecDepth 100000 in
theorem wC_X8_pairs : Cond.code yX8_pairs cX8_pairs 4 (some .int) ∈ GG := GG_in (i := 952) (rfl) (by decide +kernel)
theorem wF_X8_179 : Cond.fieldLink RX8 179 "PairSieveModel" "kept" "I" ∈ GG := GG_in (i := 724) (by decide +kernel) (by decide +kernel)
theorem wM_X8_182 : Cond.methodLink RX8 182 yX8_keep ∈ GG := GG_in (i := 953) (by decide +kernel) (by decide +kernel)
theorem wI_X8_keep : Cond.instanceMethod yX8_keep ∈ GG := GG_in (i := 955) (by decide +kernel) (by decide +kernel)
theorem wL_X8_keep : Cond.selects RX8 yX8_keep yX8_keep ∈ GG := GG_in (i := 40) (by decide +kernel) (by decide +kernel)
set_option maxRecDepth 100000 in
theorem wC_X8_keep : Cond.code yX8_keep cX8_keep 4 none ∈ GG := GG_in (i := 956) (rfl) (by decide +kernel)
theorem wM_X8_186 : Cond.methodLink RX8 186 yX8_spent ∈ GG := GG_in (i := 957) (by decide +kernel) (by decide +kernel)
theorem wI_X8_spent : Cond.instanceMethod yX8_spent ∈ GG := GG_in (i := 959) (by decide +kernel) (by decide +kernel)
theorem wL_X8_spent : Cond.selects RX8 yX8_spent yX8_spent ∈ GG := GG_in (i := 41) (by decide +kernel) (by decide +kernel)
set_option maxRecDepth 100000 in
theorem wC_X8_spent : Cond.code yX8_spent cX8_spent 8 (some .int) ∈ GG := GG_in (i := 960) (rfl) (by decide +kernel)
theorem wM_L_90 : Cond.methodLink RL 90 yL_pair ∈ GG := GG_in (i := 626) (by decide +kernel) (by decide +kernel)
theorem wS_L_pair : Cond.static yL_pair ∈ GG := GG_in (i := 627) (by decide +kernel) (by decide +kernel)
theorem wN_L : Cond.initialized RL ∈ GG := GG_in (i := 45) (by decide +kernel) (by decide +kernel)
theorem wE_L_13 : Cond.classLink RL 13 "java/util/NoSuchElementException" ∈ GG := GG_in (i := 629) (by decide +kernel) (by decide +kernel)
theorem wM_L_7 : Cond.methodLink RL 7 yX7_pair ∈ GG := GG_in (i := 630) (by decide +kernel) (by decide +kernel)
theorem wI_X7_pair : Cond.instanceMethod yX7_pair ∈ GG := GG_in (i := 631) (by decide +kernel) (by decide +kernel)
theorem wL_X7_pair : Cond.selects RX7 yX7_pair yX7_pair ∈ GG := GG_in (i := 632) (by decide +kernel) (by decide +kernel)
set_option maxRecDepth 100000 in
theorem wC_X7_pair : Cond.code yX7_pair cX7_pair 3 (some .int) ∈ GG := GG_in (i := 633) (rfl) (by decide +kernel)
theorem wE_X7_217 : Cond.classLink RX7 217 "java/util/NoSuchElementException" ∈ GG := GG_in (i := 634) (by decide +kernel) (by decide +kernel)
theorem wN_java_util_NoSuchElementException : Cond.initialized "java/util/NoSuchElementException" ∈ GG := GG_in (i := 61) (by decide +kernel) (by decide +kernel)
theorem wM_L_95 : Cond.methodLink RL 95 yX8_pair ∈ GG := GG_in (i := 961) (by decide +kernel) (by decide +kernel)
theorem wI_X8_pair : Cond.instanceMethod yX8_pair ∈ GG := GG_in (i := 962) (by decide +kernel) (by decide +kernel)
theorem wL_X8_pair : Cond.selects RX8 yX8_pair yX8_pair ∈ GG := GG_in (i := 963) (by decide +kernel) (by decide +kernel)
set_option maxRecDepth 100000 in
theorem wC_X8_pair : Cond.code yX8_pair cX8_pair 3 (some .int) ∈ GG := GG_in (i := 964) (rfl) (by decide +kernel)
theorem wM_L_96 : Cond.methodLink RL 96 yX8_thrown ∈ GG := GG_in (i := 798) (by decide +kernel) (by decide +kernel)
theorem wI_X8_thrown : Cond.instanceMethod yX8_thrown ∈ GG := GG_in (i := 799) (by decide +kernel) (by decide +kernel)
theorem wL_X8_thrown : Cond.selects RX8 yX8_thrown yX8_thrown ∈ GG := GG_in (i := 800) (by decide +kernel) (by decide +kernel)
set_option maxRecDepth 100000 in
theorem wC_X8_thrown : Cond.code yX8_thrown cX8_thrown 1 (some .int) ∈ GG := GG_in (i := 801) (rfl) (by decide +kernel)
theorem wM_L_99 : Cond.methodLink RL 99 yX7_top ∈ GG := GG_in (i := 554) (by decide +kernel) (by decide +kernel)
theorem wI_X7_top : Cond.instanceMethod yX7_top ∈ GG := GG_in (i := 555) (by decide +kernel) (by decide +kernel)
theorem wL_X7_top : Cond.selects RX7 yX7_top yX7_top ∈ GG := GG_in (i := 556) (by decide +kernel) (by decide +kernel)
set_option maxRecDepth 100000 in
theorem wC_X7_top : Cond.code yX7_top cX7_top 4 (some .int) ∈ GG := GG_in (i := 557) (rfl) (by decide +kernel)
theorem wM_X7_233 : Cond.methodLink RX7 233 yX7_rank ∈ GG := GG_in (i := 558) (by decide +kernel) (by decide +kernel)
theorem wI_X7_rank : Cond.instanceMethod yX7_rank ∈ GG := GG_in (i := 560) (by decide +kernel) (by decide +kernel)
theorem wL_X7_rank : Cond.selects RX7 yX7_rank yX7_rank ∈ GG := GG_in (i := 15) (by decide +kernel) (by decide +kernel)
set_option maxRecDepth 100000 in
theorem wC_X7_rank : Cond.code yX7_rank cX7_rank 12 none ∈ GG := GG_in (i := 561) (rfl) (by decide +kernel)
theorem wM_X7_296 : Cond.methodLink RX7 296 yX0_placeFor ∈ GG := GG_in (i := 562) (by decide +kernel) (by decide +kernel)
theorem wI_X0_placeFor : Cond.instanceMethod yX0_placeFor ∈ GG := GG_in (i := 563) (by decide +kernel) (by decide +kernel)
theorem wL_X0_placeFor : Cond.selects RX0 yX0_placeFor yX0_placeFor ∈ GG := GG_in (i := 564) (by decide +kernel) (by decide +kernel)
set_option maxRecDepth 100000 in
theorem wC_X0_placeFor : Cond.code yX0_placeFor cX0_placeFor 8 (some .int) ∈ GG := GG_in (i := 565) (rfl) (by decide +kernel)
theorem wM_X0_36 : Cond.methodLink RX0 36 Lib.Math.min.name ∈ GG := GG_in (i := 566) (by decide +kernel) (by decide +kernel)
theorem wM_X7_300 : Cond.methodLink RX7 300 yX0_makeRoom ∈ GG := GG_in (i := 567) (by decide +kernel) (by decide +kernel)
theorem wI_X0_makeRoom : Cond.instanceMethod yX0_makeRoom ∈ GG := GG_in (i := 568) (by decide +kernel) (by decide +kernel)
theorem wL_X0_makeRoom : Cond.selects RX0 yX0_makeRoom yX0_makeRoom ∈ GG := GG_in (i := 569) (by decide +kernel) (by decide +kernel)
set_option maxRecDepth 100000 in
theorem wC_X0_makeRoom : Cond.code yX0_makeRoom cX0_makeRoom 4 none ∈ GG := GG_in (i := 570) (rfl) (by decide +kernel)
theorem wM_X0_42 : Cond.methodLink RX0 42 arraycopyName ∈ GG := GG_in (i := 571) (by decide +kernel) (by decide +kernel)
theorem wM_X7_303 : Cond.methodLink RX7 303 yX0_set ∈ GG := GG_in (i := 572) (by decide +kernel) (by decide +kernel)
theorem wM_X7_307 : Cond.methodLink RX7 307 yX0_setLikeness ∈ GG := GG_in (i := 573) (by decide +kernel) (by decide +kernel)
theorem wI_X0_setLikeness : Cond.instanceMethod yX0_setLikeness ∈ GG := GG_in (i := 574) (by decide +kernel) (by decide +kernel)
theorem wL_X0_setLikeness : Cond.selects RX0 yX0_setLikeness yX0_setLikeness ∈ GG := GG_in (i := 575) (by decide +kernel) (by decide +kernel)
set_option maxRecDepth 100000 in
theorem wC_X0_setLikeness : Cond.code yX0_setLikeness cX0_setLikeness 6 none ∈ GG := GG_in (i := 576) (rfl) (by decide +kernel)
theorem wM_L_102 : Cond.methodLink RL 102 yX8_top ∈ GG := GG_in (i := 965) (by decide +kernel) (by decide +kernel)
theorem wI_X8_top : Cond.instanceMethod yX8_top ∈ GG := GG_in (i := 966) (by decide +kernel) (by decide +kernel)
theorem wL_X8_top : Cond.selects RX8 yX8_top yX8_top ∈ GG := GG_in (i := 967) (by decide +kernel) (by decide +kernel)
set_option maxRecDepth 100000 in
theorem wC_X8_top : Cond.code yX8_top cX8_top 5 (some .int) ∈ GG := GG_in (i := 968) (rfl) (by decide +kernel)
theorem wM_X8_190 : Cond.methodLink RX8 190 yX8_isLiker ∈ GG := GG_in (i := 969) (by decide +kernel) (by decide +kernel)
theorem wI_X8_isLiker : Cond.instanceMethod yX8_isLiker ∈ GG := GG_in (i := 971) (by decide +kernel) (by decide +kernel)
theorem wL_X8_isLiker : Cond.selects RX8 yX8_isLiker yX8_isLiker ∈ GG := GG_in (i := 42) (by decide +kernel) (by decide +kernel)
set_option maxRecDepth 100000 in
theorem wC_X8_isLiker : Cond.code yX8_isLiker cX8_isLiker 17 (some .boolean) ∈ GG := GG_in (i := 972) (rfl) (by decide +kernel)
theorem wM_L_103 : Cond.methodLink RL 103 yX7_core ∈ GG := GG_in (i := 577) (by decide +kernel) (by decide +kernel)
theorem wI_X7_core : Cond.instanceMethod yX7_core ∈ GG := GG_in (i := 578) (by decide +kernel) (by decide +kernel)
theorem wL_X7_core : Cond.selects RX7 yX7_core yX7_core ∈ GG := GG_in (i := 579) (by decide +kernel) (by decide +kernel)
set_option maxRecDepth 100000 in
theorem wC_X7_core : Cond.code yX7_core cX7_core 4 (some .int) ∈ GG := GG_in (i := 580) (rfl) (by decide +kernel)
theorem wF_X7_240 : Cond.fieldLink RX7 240 "PairSieve" "keptCore" "J" ∈ GG := GG_in (i := 202) (by decide +kernel) (by decide +kernel)
theorem wM_X7_237 : Cond.methodLink RX7 237 yX2_coreOf ∈ GG := GG_in (i := 581) (by decide +kernel) (by decide +kernel)
theorem wI_X2_coreOf : Cond.instanceMethod yX2_coreOf ∈ GG := GG_in (i := 582) (by decide +kernel) (by decide +kernel)
theorem wL_X2_coreOf : Cond.selects RX2 yX2_coreOf yX2_coreOf ∈ GG := GG_in (i := 583) (by decide +kernel) (by decide +kernel)
set_option maxRecDepth 100000 in
theorem wC_X2_coreOf : Cond.code yX2_coreOf cX2_coreOf 3 (some .long) ∈ GG := GG_in (i := 584) (rfl) (by decide +kernel)
theorem wM_X2_34 : Cond.methodLink RX2 34 yX2_greatestCore ∈ GG := GG_in (i := 585) (by decide +kernel) (by decide +kernel)
theorem wS_X2_greatestCore : Cond.static yX2_greatestCore ∈ GG := GG_in (i := 586) (by decide +kernel) (by decide +kernel)
set_option maxRecDepth 100000 in
theorem wC_X2_greatestCore : Cond.code yX2_greatestCore cX2_greatestCore 14 (some .long) ∈ GG := GG_in (i := 587) (rfl) (by decide +kernel)
theorem wM_X2_31 : Cond.methodLink RX2 31 yX2_leastOf ∈ GG := GG_in (i := 588) (by decide +kernel) (by decide +kernel)
theorem wM_L_106 : Cond.methodLink RL 106 yX8_core ∈ GG := GG_in (i := 993) (by decide +kernel) (by decide +kernel)
theorem wI_X8_core : Cond.instanceMethod yX8_core ∈ GG := GG_in (i := 994) (by decide +kernel) (by decide +kernel)
theorem wL_X8_core : Cond.selects RX8 yX8_core yX8_core ∈ GG := GG_in (i := 995) (by decide +kernel) (by decide +kernel)
set_option maxRecDepth 100000 in
theorem wC_X8_core : Cond.code yX8_core cX8_core 5 (some .int) ∈ GG := GG_in (i := 996) (rfl) (by decide +kernel)
theorem wF_X8_205 : Cond.fieldLink RX8 205 "PairSieveModel" "familyMany" "I" ∈ GG := GG_in (i := 730) (by decide +kernel) (by decide +kernel)
theorem wF_X8_197 : Cond.fieldLink RX8 197 "PairSieveModel" "best" "I" ∈ GG := GG_in (i := 735) (by decide +kernel) (by decide +kernel)
theorem wF_X8_212 : Cond.fieldLink RX8 212 "PairSieveModel" "coreMany" "I" ∈ GG := GG_in (i := 731) (by decide +kernel) (by decide +kernel)
theorem wM_X8_208 : Cond.methodLink RX8 208 yX8_grow ∈ GG := GG_in (i := 997) (by decide +kernel) (by decide +kernel)
theorem wI_X8_grow : Cond.instanceMethod yX8_grow ∈ GG := GG_in (i := 999) (by decide +kernel) (by decide +kernel)
theorem wL_X8_grow : Cond.selects RX8 yX8_grow yX8_grow ∈ GG := GG_in (i := 44) (by decide +kernel) (by decide +kernel)
set_option maxRecDepth 100000 in
theorem wC_X8_grow : Cond.code yX8_grow cX8_grow 6 none ∈ GG := GG_in (i := 1000) (rfl) (by decide +kernel)
theorem wM_X8_200 : Cond.methodLink RX8 200 yJ6_bitCount_0f7a4 ∈ GG := GG_in (i := 1001) (by decide +kernel) (by decide +kernel)
theorem wS_J6_bitCount_0f7a4 : Cond.static yJ6_bitCount_0f7a4 ∈ GG := GG_in (i := 1002) (by decide +kernel) (by decide +kernel)
theorem wN_J6 : Cond.initialized RJ6 ∈ GG := GG_in (i := 62) (by decide +kernel) (by decide +kernel)
set_option maxRecDepth 100000 in
theorem wC_J6_bitCount_0f7a4 : Cond.code yJ6_bitCount_0f7a4 cJ6_bitCount_0f7a4 1 (some .int) ∈ GG := GG_in (i := 1003) (rfl) (by decide +kernel)
theorem wK_J6_265 : Cond.constant RJ6 265 (1431655765) ∈ GG := GG_in (i := 1004) (by decide +kernel) (by decide +kernel)
theorem wK_J6_266 : Cond.constant RJ6 266 (858993459) ∈ GG := GG_in (i := 1005) (by decide +kernel) (by decide +kernel)
theorem wK_J6_267 : Cond.constant RJ6 267 (252645135) ∈ GG := GG_in (i := 1006) (by decide +kernel) (by decide +kernel)
theorem wM_L_107 : Cond.methodLink RL 107 yX7_member ∈ GG := GG_in (i := 589) (by decide +kernel) (by decide +kernel)
theorem wI_X7_member : Cond.instanceMethod yX7_member ∈ GG := GG_in (i := 590) (by decide +kernel) (by decide +kernel)
theorem wL_X7_member : Cond.selects RX7 yX7_member yX7_member ∈ GG := GG_in (i := 591) (by decide +kernel) (by decide +kernel)
set_option maxRecDepth 100000 in
theorem wC_X7_member : Cond.code yX7_member cX7_member 5 (some .int) ∈ GG := GG_in (i := 592) (rfl) (by decide +kernel)
theorem wM_L_110 : Cond.methodLink RL 110 yX8_member ∈ GG := GG_in (i := 1007) (by decide +kernel) (by decide +kernel)
theorem wI_X8_member : Cond.instanceMethod yX8_member ∈ GG := GG_in (i := 1008) (by decide +kernel) (by decide +kernel)
theorem wL_X8_member : Cond.selects RX8 yX8_member yX8_member ∈ GG := GG_in (i := 1009) (by decide +kernel) (by decide +kernel)
set_option maxRecDepth 100000 in
theorem wC_X8_member : Cond.code yX8_member cX8_member 2 (some .int) ∈ GG := GG_in (i := 1010) (rfl) (by decide +kernel)
theorem wM_L_111 : Cond.methodLink RL 111 yX7_chain ∈ GG := GG_in (i := 593) (by decide +kernel) (by decide +kernel)
theorem wI_X7_chain : Cond.instanceMethod yX7_chain ∈ GG := GG_in (i := 594) (by decide +kernel) (by decide +kernel)
theorem wL_X7_chain : Cond.selects RX7 yX7_chain yX7_chain ∈ GG := GG_in (i := 595) (by decide +kernel) (by decide +kernel)
set_option maxRecDepth 100000 in
theorem wC_X7_chain : Cond.code yX7_chain cX7_chain 3 (some .int) ∈ GG := GG_in (i := 596) (rfl) (by decide +kernel)
theorem wM_X7_244 : Cond.methodLink RX7 244 yX2_stepsBetween ∈ GG := GG_in (i := 597) (by decide +kernel) (by decide +kernel)
theorem wI_X2_stepsBetween : Cond.instanceMethod yX2_stepsBetween ∈ GG := GG_in (i := 598) (by decide +kernel) (by decide +kernel)
theorem wL_X2_stepsBetween : Cond.selects RX2 yX2_stepsBetween yX2_stepsBetween ∈ GG := GG_in (i := 599) (by decide +kernel) (by decide +kernel)
set_option maxRecDepth 100000 in
theorem wC_X2_stepsBetween : Cond.code yX2_stepsBetween cX2_stepsBetween 8 (some .int) ∈ GG := GG_in (i := 600) (rfl) (by decide +kernel)
theorem wM_L_114 : Cond.methodLink RL 114 yX8_chain ∈ GG := GG_in (i := 985) (by decide +kernel) (by decide +kernel)
theorem wI_X8_chain : Cond.instanceMethod yX8_chain ∈ GG := GG_in (i := 986) (by decide +kernel) (by decide +kernel)
theorem wL_X8_chain : Cond.selects RX8 yX8_chain yX8_chain ∈ GG := GG_in (i := 987) (by decide +kernel) (by decide +kernel)
set_option maxRecDepth 100000 in
theorem wC_X8_chain : Cond.code yX8_chain cX8_chain 3 (some .int) ∈ GG := GG_in (i := 988) (rfl) (by decide +kernel)
theorem wM_L_115 : Cond.methodLink RL 115 yX7_next ∈ GG := GG_in (i := 601) (by decide +kernel) (by decide +kernel)
theorem wI_X7_next : Cond.instanceMethod yX7_next ∈ GG := GG_in (i := 602) (by decide +kernel) (by decide +kernel)
theorem wL_X7_next : Cond.selects RX7 yX7_next yX7_next ∈ GG := GG_in (i := 603) (by decide +kernel) (by decide +kernel)
set_option maxRecDepth 100000 in
theorem wC_X7_next : Cond.code yX7_next cX7_next 4 (some .int) ∈ GG := GG_in (i := 604) (rfl) (by decide +kernel)
theorem wM_X7_247 : Cond.methodLink RX7 247 yX7_chain ∈ GG := GG_in (i := 605) (by decide +kernel) (by decide +kernel)
theorem wM_X7_250 : Cond.methodLink RX7 250 yX2_firstStep ∈ GG := GG_in (i := 606) (by decide +kernel) (by decide +kernel)
theorem wI_X2_firstStep : Cond.instanceMethod yX2_firstStep ∈ GG := GG_in (i := 607) (by decide +kernel) (by decide +kernel)
theorem wL_X2_firstStep : Cond.selects RX2 yX2_firstStep yX2_firstStep ∈ GG := GG_in (i := 608) (by decide +kernel) (by decide +kernel)
set_option maxRecDepth 100000 in
theorem wC_X2_firstStep : Cond.code yX2_firstStep cX2_firstStep 7 (some .int) ∈ GG := GG_in (i := 609) (rfl) (by decide +kernel)
theorem wM_L_118 : Cond.methodLink RL 118 yX8_next ∈ GG := GG_in (i := 989) (by decide +kernel) (by decide +kernel)
theorem wI_X8_next : Cond.instanceMethod yX8_next ∈ GG := GG_in (i := 990) (by decide +kernel) (by decide +kernel)
theorem wL_X8_next : Cond.selects RX8 yX8_next yX8_next ∈ GG := GG_in (i := 991) (by decide +kernel) (by decide +kernel)
set_option maxRecDepth 100000 in
theorem wC_X8_next : Cond.code yX8_next cX8_next 4 (some .int) ∈ GG := GG_in (i := 992) (rfl) (by decide +kernel)
theorem wM_L_119 : Cond.methodLink RL 119 yX7_count ∈ GG := GG_in (i := 610) (by decide +kernel) (by decide +kernel)
theorem wI_X7_count : Cond.instanceMethod yX7_count ∈ GG := GG_in (i := 611) (by decide +kernel) (by decide +kernel)
theorem wL_X7_count : Cond.selects RX7 yX7_count yX7_count ∈ GG := GG_in (i := 612) (by decide +kernel) (by decide +kernel)
set_option maxRecDepth 100000 in
theorem wC_X7_count : Cond.code yX7_count cX7_count 2 (some .int) ∈ GG := GG_in (i := 613) (rfl) (by decide +kernel)
theorem wM_X7_254 : Cond.methodLink RX7 254 yX7_countRecords ∈ GG := GG_in (i := 614) (by decide +kernel) (by decide +kernel)
theorem wI_X7_countRecords : Cond.instanceMethod yX7_countRecords ∈ GG := GG_in (i := 616) (by decide +kernel) (by decide +kernel)
theorem wL_X7_countRecords : Cond.selects RX7 yX7_countRecords yX7_countRecords ∈ GG := GG_in (i := 16) (by decide +kernel) (by decide +kernel)
set_option maxRecDepth 100000 in
theorem wC_X7_countRecords : Cond.code yX7_countRecords cX7_countRecords 3 (some .int) ∈ GG := GG_in (i := 617) (rfl) (by decide +kernel)
theorem wM_X7_258 : Cond.methodLink RX7 258 yX7_countNumbers ∈ GG := GG_in (i := 618) (by decide +kernel) (by decide +kernel)
theorem wI_X7_countNumbers : Cond.instanceMethod yX7_countNumbers ∈ GG := GG_in (i := 620) (by decide +kernel) (by decide +kernel)
theorem wL_X7_countNumbers : Cond.selects RX7 yX7_countNumbers yX7_countNumbers ∈ GG := GG_in (i := 17) (by decide +kernel) (by decide +kernel)
set_option maxRecDepth 100000 in
theorem wC_X7_countNumbers : Cond.code yX7_countNumbers cX7_countNumbers 3 (some .int) ∈ GG := GG_in (i := 621) (rfl) (by decide +kernel)
theorem wM_X7_264 : Cond.methodLink RX7 264 yX7_countFamilies ∈ GG := GG_in (i := 622) (by decide +kernel) (by decide +kernel)
theorem wI_X7_countFamilies : Cond.instanceMethod yX7_countFamilies ∈ GG := GG_in (i := 624) (by decide +kernel) (by decide +kernel)
theorem wL_X7_countFamilies : Cond.selects RX7 yX7_countFamilies yX7_countFamilies ∈ GG := GG_in (i := 18) (by decide +kernel) (by decide +kernel)
set_option maxRecDepth 100000 in
theorem wC_X7_countFamilies : Cond.code yX7_countFamilies cX7_countFamilies 5 (some .int) ∈ GG := GG_in (i := 625) (rfl) (by decide +kernel)
theorem wM_L_122 : Cond.methodLink RL 122 yX8_count ∈ GG := GG_in (i := 1011) (by decide +kernel) (by decide +kernel)
theorem wI_X8_count : Cond.instanceMethod yX8_count ∈ GG := GG_in (i := 1012) (by decide +kernel) (by decide +kernel)
theorem wL_X8_count : Cond.selects RX8 yX8_count yX8_count ∈ GG := GG_in (i := 1013) (by decide +kernel) (by decide +kernel)
set_option maxRecDepth 100000 in
theorem wC_X8_count : Cond.code yX8_count cX8_count 5 (some .int) ∈ GG := GG_in (i := 1014) (rfl) (by decide +kernel)
theorem inX0 : ∀ w ∈ u_ws RX0 TX0 6, w ∈ GG := fun w h => List.mem_filter.mpr ⟨(show ∀ w ∈ u_ws RX0 TX0 6, w ∈ lw_tbl by decide +kernel) w h, (show ∀ w ∈ u_ws RX0 TX0 6, goodWord w = true by decide +kernel) w h⟩
theorem inX1 : ∀ w ∈ u_ws RX1 TX1 3, w ∈ GG := fun w h => List.mem_filter.mpr ⟨(show ∀ w ∈ u_ws RX1 TX1 3, w ∈ lw_tbl by decide +kernel) w h, (show ∀ w ∈ u_ws RX1 TX1 3, goodWord w = true by decide +kernel) w h⟩
theorem inX2 : ∀ w ∈ u_ws RX2 TX2 2, w ∈ GG := fun w h => List.mem_filter.mpr ⟨(show ∀ w ∈ u_ws RX2 TX2 2, w ∈ lw_tbl by decide +kernel) w h, (show ∀ w ∈ u_ws RX2 TX2 2, goodWord w = true by decide +kernel) w h⟩
theorem inX3 : ∀ w ∈ u_ws RX3 TX3 4, w ∈ GG := fun w h => List.mem_filter.mpr ⟨(show ∀ w ∈ u_ws RX3 TX3 4, w ∈ lw_tbl by decide +kernel) w h, (show ∀ w ∈ u_ws RX3 TX3 4, goodWord w = true by decide +kernel) w h⟩
theorem inX4 : ∀ w ∈ u_ws RX4 TX4 3, w ∈ GG := fun w h => List.mem_filter.mpr ⟨(show ∀ w ∈ u_ws RX4 TX4 3, w ∈ lw_tbl by decide +kernel) w h, (show ∀ w ∈ u_ws RX4 TX4 3, goodWord w = true by decide +kernel) w h⟩
theorem inX5 : ∀ w ∈ u_ws RX5 TX5 3, w ∈ GG := fun w h => List.mem_filter.mpr ⟨(show ∀ w ∈ u_ws RX5 TX5 3, w ∈ lw_tbl by decide +kernel) w h, (show ∀ w ∈ u_ws RX5 TX5 3, goodWord w = true by decide +kernel) w h⟩
theorem inX6 : ∀ w ∈ u_ws RX6 TX6 3, w ∈ GG := fun w h => List.mem_filter.mpr ⟨(show ∀ w ∈ u_ws RX6 TX6 3, w ∈ lw_tbl by decide +kernel) w h, (show ∀ w ∈ u_ws RX6 TX6 3, goodWord w = true by decide +kernel) w h⟩
theorem inX7 : ∀ w ∈ u_ws RX7 TX7 13, w ∈ GG := fun w h => List.mem_filter.mpr ⟨(show ∀ w ∈ u_ws RX7 TX7 13, w ∈ lw_tbl by decide +kernel) w h, (show ∀ w ∈ u_ws RX7 TX7 13, goodWord w = true by decide +kernel) w h⟩
theorem inX8 : ∀ w ∈ u_ws RX8 TX8 30, w ∈ GG := fun w h => List.mem_filter.mpr ⟨(show ∀ w ∈ u_ws RX8 TX8 30, w ∈ lw_tbl by decide +kernel) w h, (show ∀ w ∈ u_ws RX8 TX8 30, goodWord w = true by decide +kernel) w h⟩
def NNf : List Cond := [Jvm.Cond.fieldLinkNest "PairSieve" (145 : Nat) "PairSieve$Table" "size" "I" "PairSieve", Jvm.Cond.fieldLinkNest "PairSieve" (267 : Nat) "PairSieve$Measure" "kind" "I" "PairSieve", Jvm.Cond.fieldLinkNest "PairSieve" (270 : Nat) "PairSieve$Measure" "p" "I" "PairSieve", Jvm.Cond.fieldLinkNest "PairSieve" (273 : Nat) "PairSieve$Measure" "q" "I" "PairSieve", Jvm.Cond.fieldLinkNest "PairSieve" (112 : Nat) "PairSieve$Tape" "length" "I" "PairSieve", Jvm.Cond.fieldLinkNest "PairSieve" (124 : Nat) "PairSieve$Tape" "numbers" "[I" "PairSieve", Jvm.Cond.fieldLinkNest "PairSieve" (184 : Nat) "PairSieve$Overlap" "shared" "I" "PairSieve", Jvm.Cond.fieldLinkNest "PairSieve" (283 : Nat) "PairSieve$Overlap" "sharedInBeginnings" "I" "PairSieve", Jvm.Cond.fieldLinkNest "PairSieve" (291 : Nat) "PairSieve$Overlap" "mostByPlaces" "I" "PairSieve", Jvm.Cond.fieldLinkNest "PairSieve" (226 : Nat) "PairSieve$KeptPairs" "first" "[I" "PairSieve", Jvm.Cond.fieldLinkNest "PairSieve" (229 : Nat) "PairSieve$KeptPairs" "second" "[I" "PairSieve", Jvm.Cond.fieldLinkNest "PairSieve" (224 : Nat) "PairSieve$KeptPairs" "shared" "[I" "PairSieve", Jvm.Cond.fieldLinkNest "PairSieve" (216 : Nat) "PairSieve$KeptPairs" "size" "I" "PairSieve", Jvm.Cond.fieldLinkNest "PairSieve$Overlap" (24 : Nat) "PairSieve$NumberSet" "keys" "[I" "PairSieve", Jvm.Cond.fieldLinkNest "PairSieve$Overlap" (28 : Nat) "PairSieve$NumberSet" "weights" "[I" "PairSieve", Jvm.Cond.fieldLinkNest "PairSieve$Overlap" (19 : Nat) "PairSieve$NumberSet" "size" "I" "PairSieve", Jvm.Cond.fieldLinkNest "PairSieve" (132 : Nat) "PairSieve$NumberSet" "size" "I" "PairSieve", Jvm.Cond.fieldLinkNest "PairSieve" (150 : Nat) "PairSieve$NumberSet" "amount" "I" "PairSieve"]
def NNm : List Cond := [Jvm.Cond.methodLinkNest "PairSieve" (29 : Nat) ({ cls := "PairSieve$Measure", name := "<init>", desc := "()V" } : Jvm.MethodName) "PairSieve", Jvm.Cond.methodLinkNest "PairSieve" (36 : Nat) ({ cls := "PairSieve$Tape", name := "<init>", desc := "()V" } : Jvm.MethodName) "PairSieve", Jvm.Cond.methodLinkNest "PairSieve" (43 : Nat) ({ cls := "PairSieve$Overlap", name := "<init>", desc := "()V" } : Jvm.MethodName) "PairSieve", Jvm.Cond.methodLinkNest "PairSieve" (57 : Nat) ({ cls := "PairSieve$KeptPairs", name := "<init>", desc := "()V" } : Jvm.MethodName) "PairSieve", Jvm.Cond.methodLinkNest "PairSieve" (64 : Nat) ({ cls := "PairSieve$Net", name := "<init>", desc := "()V" } : Jvm.MethodName) "PairSieve", Jvm.Cond.methodLinkNest "PairSieve" (73 : Nat) ({ cls := "PairSieve$NumberSet", name := "<init>", desc := "()V" } : Jvm.MethodName) "PairSieve"]
theorem wFn_X7_145 : Jvm.Cond.fieldLinkNest "PairSieve" (145 : Nat) "PairSieve$Table" "size" "I" "PairSieve" ∈ NNf := List.mem_of_getElem? (i := 0) rfl
theorem wFn_X7_267 : Jvm.Cond.fieldLinkNest "PairSieve" (267 : Nat) "PairSieve$Measure" "kind" "I" "PairSieve" ∈ NNf := List.mem_of_getElem? (i := 1) rfl
theorem wFn_X7_270 : Jvm.Cond.fieldLinkNest "PairSieve" (270 : Nat) "PairSieve$Measure" "p" "I" "PairSieve" ∈ NNf := List.mem_of_getElem? (i := 2) rfl
theorem wFn_X7_273 : Jvm.Cond.fieldLinkNest "PairSieve" (273 : Nat) "PairSieve$Measure" "q" "I" "PairSieve" ∈ NNf := List.mem_of_getElem? (i := 3) rfl
theorem wFn_X7_112 : Jvm.Cond.fieldLinkNest "PairSieve" (112 : Nat) "PairSieve$Tape" "length" "I" "PairSieve" ∈ NNf := List.mem_of_getElem? (i := 4) rfl
theorem wFn_X7_124 : Jvm.Cond.fieldLinkNest "PairSieve" (124 : Nat) "PairSieve$Tape" "numbers" "[I" "PairSieve" ∈ NNf := List.mem_of_getElem? (i := 5) rfl
theorem wFn_X7_184 : Jvm.Cond.fieldLinkNest "PairSieve" (184 : Nat) "PairSieve$Overlap" "shared" "I" "PairSieve" ∈ NNf := List.mem_of_getElem? (i := 6) rfl
theorem wFn_X7_283 : Jvm.Cond.fieldLinkNest "PairSieve" (283 : Nat) "PairSieve$Overlap" "sharedInBeginnings" "I" "PairSieve" ∈ NNf := List.mem_of_getElem? (i := 7) rfl
theorem wFn_X7_291 : Jvm.Cond.fieldLinkNest "PairSieve" (291 : Nat) "PairSieve$Overlap" "mostByPlaces" "I" "PairSieve" ∈ NNf := List.mem_of_getElem? (i := 8) rfl
theorem wFn_X7_226 : Jvm.Cond.fieldLinkNest "PairSieve" (226 : Nat) "PairSieve$KeptPairs" "first" "[I" "PairSieve" ∈ NNf := List.mem_of_getElem? (i := 9) rfl
theorem wFn_X7_229 : Jvm.Cond.fieldLinkNest "PairSieve" (229 : Nat) "PairSieve$KeptPairs" "second" "[I" "PairSieve" ∈ NNf := List.mem_of_getElem? (i := 10) rfl
theorem wFn_X7_224 : Jvm.Cond.fieldLinkNest "PairSieve" (224 : Nat) "PairSieve$KeptPairs" "shared" "[I" "PairSieve" ∈ NNf := List.mem_of_getElem? (i := 11) rfl
theorem wFn_X7_216 : Jvm.Cond.fieldLinkNest "PairSieve" (216 : Nat) "PairSieve$KeptPairs" "size" "I" "PairSieve" ∈ NNf := List.mem_of_getElem? (i := 12) rfl
theorem wFn_X4_24 : Jvm.Cond.fieldLinkNest "PairSieve$Overlap" (24 : Nat) "PairSieve$NumberSet" "keys" "[I" "PairSieve" ∈ NNf := List.mem_of_getElem? (i := 13) rfl
theorem wFn_X4_28 : Jvm.Cond.fieldLinkNest "PairSieve$Overlap" (28 : Nat) "PairSieve$NumberSet" "weights" "[I" "PairSieve" ∈ NNf := List.mem_of_getElem? (i := 14) rfl
theorem wFn_X4_19 : Jvm.Cond.fieldLinkNest "PairSieve$Overlap" (19 : Nat) "PairSieve$NumberSet" "size" "I" "PairSieve" ∈ NNf := List.mem_of_getElem? (i := 15) rfl
theorem wFn_X7_132 : Jvm.Cond.fieldLinkNest "PairSieve" (132 : Nat) "PairSieve$NumberSet" "size" "I" "PairSieve" ∈ NNf := List.mem_of_getElem? (i := 16) rfl
theorem wFn_X7_150 : Jvm.Cond.fieldLinkNest "PairSieve" (150 : Nat) "PairSieve$NumberSet" "amount" "I" "PairSieve" ∈ NNf := List.mem_of_getElem? (i := 17) rfl
theorem wMn_X7_29 : Jvm.Cond.methodLinkNest "PairSieve" (29 : Nat) ({ cls := "PairSieve$Measure", name := "<init>", desc := "()V" } : Jvm.MethodName) "PairSieve" ∈ NNm := List.mem_of_getElem? (i := 0) rfl
theorem wMn_X7_36 : Jvm.Cond.methodLinkNest "PairSieve" (36 : Nat) ({ cls := "PairSieve$Tape", name := "<init>", desc := "()V" } : Jvm.MethodName) "PairSieve" ∈ NNm := List.mem_of_getElem? (i := 1) rfl
theorem wMn_X7_43 : Jvm.Cond.methodLinkNest "PairSieve" (43 : Nat) ({ cls := "PairSieve$Overlap", name := "<init>", desc := "()V" } : Jvm.MethodName) "PairSieve" ∈ NNm := List.mem_of_getElem? (i := 2) rfl
theorem wMn_X7_57 : Jvm.Cond.methodLinkNest "PairSieve" (57 : Nat) ({ cls := "PairSieve$KeptPairs", name := "<init>", desc := "()V" } : Jvm.MethodName) "PairSieve" ∈ NNm := List.mem_of_getElem? (i := 3) rfl
theorem wMn_X7_64 : Jvm.Cond.methodLinkNest "PairSieve" (64 : Nat) ({ cls := "PairSieve$Net", name := "<init>", desc := "()V" } : Jvm.MethodName) "PairSieve" ∈ NNm := List.mem_of_getElem? (i := 4) rfl
theorem wMn_X7_73 : Jvm.Cond.methodLinkNest "PairSieve" (73 : Nat) ({ cls := "PairSieve$NumberSet", name := "<init>", desc := "()V" } : Jvm.MethodName) "PairSieve" ∈ NNm := List.mem_of_getElem? (i := 5) rfl
theorem NNf_in : ∀ w ∈ NNf, w ∈ lw_tbl := by decide +kernel
theorem NNm_in : ∀ w ∈ NNm, w ∈ lw_tbl := by decide +kernel
theorem NNf_on : ∀ w ∈ NNf, w.onTables = true := by decide +kernel
theorem NNm_on : ∀ w ∈ NNm, w.onTables = true := by decide +kernel
theorem NNf_is : ∀ w ∈ NNf, ∃ a i b n d x, w = Cond.fieldLinkNest a i b n d x := by
  intro w hw
  simp only [NNf, List.mem_cons, List.not_mem_nil, or_false] at hw
  rcases hw with rfl | rfl | rfl | rfl | rfl | rfl | rfl | rfl | rfl | rfl | rfl | rfl | rfl | rfl | rfl | rfl | rfl | rfl <;> exact ⟨_, _, _, _, _, _, rfl⟩
theorem NNm_is : ∀ w ∈ NNm, ∃ a i b x, w = Cond.methodLinkNest a i b x := by
  intro w hw
  simp only [NNm, List.mem_cons, List.not_mem_nil, or_false] at hw
  rcases hw with rfl | rfl | rfl | rfl | rfl | rfl <;> exact ⟨_, _, _, _, rfl⟩
end
section
/-! THE LAYER V: a machine over an abstract heap. X: all that stays during one activation; h: the cells by their addresses; z: the heap's size; lv: the locals by their slots -/
abbrev Gd : Type := va_G × (Nat → ClassId)
abbrev AH : Type := Nat → Option va_E
def tysG (G : Gd) : List (ClassId × FieldType) := [(G.2 0, .int), (G.2 1, .long), (G.2 2, .boolean), (G.2 3, .object "PairSieve$NumberSet")]
def KK (G : Gd) (U : State) : Prop := va_K G.1 vwCl (tysG G) U ∧ va_AO "PairSieve$NumberSet" U ∧ (∀ w ∈ NNf, va_Nw w U) ∧ ∀ w ∈ NNm, va_Nw w U
abbrev oI (G : Gd) (n : Nat) (f : Nat → Int32) : va_E := .inl (G.2 0, n, .inl f)
abbrev oJ (G : Gd) (n : Nat) (f : Nat → Int64) : va_E := .inl (G.2 1, n, .inr (.inl f))
abbrev oZ (G : Gd) (n : Nat) (f : Nat → Int32) : va_E := .inl (G.2 2, n, .inl f)
abbrev oN (G : Gd) (n : Nat) (f : Nat → Option Nat) : va_E := .inl (G.2 3, n, .inr (.inr (.inr (.inr f))))
abbrev oO (ci : Nat) (fs : List Value) : va_E := .inr (ci, fs)
def hv (G : Gd) (z : Nat) (h : AH) (H : Heap) : Prop := H.size = z ∧ ∀ (q : Nat) (e : va_E), h q = some e → va_at G.1 vwCl (q, e) H
def dm (h : AH) (z : Nat) : Nat → Prop := fun q => (∃ e, h q = some e) ∨ z ≤ q
def hup (h : AH) (a : Nat) (e : va_E) : AH := fun q => if q = a then some e else h q
theorem hup_s {h : AH} {a : Nat} {e : va_E} : hup h a e a = some e := if_pos rfl
theorem hup_n {h : AH} {a q : Nat} {e : va_E} (hq : q ≠ a) : hup h a e q = h q := if_neg hq
theorem hup_hup {h : AH} {a : Nat} {e e' : va_E} : hup (hup h a e) a e' = hup h a e' := by
  funext q
  unfold hup
  by_cases hq : q = a <;> simp [hq]
theorem hv.set {G : Gd} {z : Nat} {h : AH} {H H1 : Heap} {a : Nat} {e : va_E} (hh : hv G z h H) (he : va_at G.1 vwCl (a, e) H1) (z1 : H1.size = H.size) (oq : ∀ q : Nat, q ≠ a → H1[q]? = H[q]?) : hv G z (hup h a e) H1 := by
  refine ⟨z1.trans hh.1, fun q e' h' => ?_⟩
  by_cases hq : q = a
  · subst hq
    rw [hup_s] at h'
    cases h'
    exact he
  · rw [hup_n hq] at h'
    exact (hh.2 q e' h').kept (oq q hq)
theorem hv.push {G : Gd} {z : Nat} {h : AH} {H H1 : Heap} {e : va_E} (hh : hv G z h H) (he : va_at G.1 vwCl (z, e) H1) (z1 : H1.size = z + 1) (oq : ∀ q : Nat, q < z → H1[q]? = H[q]?) : hv G (z + 1) (hup h z e) H1 := by
  refine ⟨z1, fun q e' h' => ?_⟩
  by_cases hq : q = z
  · subst hq
    rw [hup_s] at h'
    cases h'
    exact he
  · rw [hup_n hq] at h'
    have hl : q < H.size := (hh.2 q e' h').lt
    rw [hh.1] at hl
    exact (hh.2 q e' h').kept (oq q hl)
/-- the locals: slot by slot; none: nothing is known of it -/
def lvh (ls : Array Slot) (lv : List (Option Value)) : Prop := ls.size = lv.length ∧ lv_wf ls ∧ ∀ (i : Nat) (v : Value), lv[i]? = some (some v) → ls[i]? = some (.val v)
def lvA (lv : List (Option Value)) : List (Nat × Value) := (List.range lv.length).filterMap (fun i => (lv[i]?.join).map (fun v => (i, v)))
theorem lvA_mem {lv : List (Option Value)} {i : Nat} {v : Value} : (i, v) ∈ lvA lv ↔ lv[i]? = some (some v) := by
  unfold lvA
  rw [List.mem_filterMap]
  constructor
  · rintro ⟨j, -, hj⟩
    cases hx : lv[j]? with
    | none => rw [hx] at hj; simp at hj
    | some o =>
      rw [hx] at hj
      cases o with
      | none => simp at hj
      | some w =>
        simp at hj
        obtain ⟨rfl, rfl⟩ := hj
        exact hx
  · intro h
    have hl : i < lv.length := (List.getElem?_eq_some_iff.mp h).1
    exact ⟨i, List.mem_range.mpr hl, by rw [h]; rfl⟩
theorem lvh.has {ls : Array Slot} {lv : List (Option Value)} (h : lvh ls lv) : lv_has ls lv.length (lvA lv) := ⟨h.1, h.2.1, fun q hq => h.2.2 q.1 q.2 (lvA_mem.mp hq)⟩
/-- a value of one slot, or of two, is put at i -/
def lvP (lv : List (Option Value)) (i : Nat) (v : Value) : List (Option Value) :=
  (match i with
    | 0 => lv
    | j + 1 => match lv[j]? with
      | some (some (.long _)) => lv.set j none
      | some (some (.double _)) => lv.set j none
      | _ => lv).set i (some v)
def lvQ (lv : List (Option Value)) (i : Nat) (v : Value) : List (Option Value) := (lvP lv i v).set (i + 1) none
theorem lvP_len (lv : List (Option Value)) (i : Nat) (v : Value) : (lvP lv i v).length = lv.length := by
  unfold lvP
  rw [List.length_set]
  split
  · rfl
  · split <;> simp
theorem lvP_at {lv : List (Option Value)} {i j : Nat} {v w : Value} (h : (lvP lv i v)[j]? = some (some w)) : (j = i ∧ w = v) ∨ (j ≠ i ∧ lv[j]? = some (some w) ∧ ¬ (j + 1 = i ∧ w.category = 2)) := by
  unfold lvP at h
  by_cases hj : j = i
  · subst hj
    left
    rw [List.getElem?_set] at h
    simp at h
    exact ⟨rfl, h.2.symm⟩
  · right
    rw [List.getElem?_set_ne (Ne.symm hj)] at h
    refine ⟨hj, ?_⟩
    cases i with
    | zero => exact ⟨h, by omega⟩
    | succ k =>
      simp only at h
      by_cases hk : j = k
      · subst hk
        cases hx : lv[j]? with
        | none => rw [hx] at h; simp only at h; rw [hx] at h; cases h
        | some o =>
          rw [hx] at h
          cases o with
          | none => simp only at h; rw [hx] at h; simp at h
          | some u =>
            cases u <;> simp only at h
            all_goals first
              | (rw [hx] at h; simp at h; subst h; exact ⟨rfl, by simp [Value.category]⟩)
              | (rw [List.getElem?_set] at h; simp at h)
      · have hne : ¬ (j + 1 = k + 1 ∧ w.category = 2) := by omega
        split at h
        · rw [List.getElem?_set_ne (Ne.symm hk)] at h; exact ⟨h, hne⟩
        · rw [List.getElem?_set_ne (Ne.symm hk)] at h; exact ⟨h, hne⟩
        · exact ⟨h, hne⟩
theorem lvh.put1 {ls ls' : Array Slot} {lv : List (Option Value)} {i : Nat} {v : Value} (h : lv_has ls' lv.length ((i, v) :: (lvA lv).filter (fun q => !(q.1 == i) && !(q.1 + 1 == i && q.2.category == 2)))) : lvh ls' (lvP lv i v) := by
  refine ⟨h.1.trans (lvP_len _ _ _).symm, h.2.1, fun j w hj => ?_⟩
  rcases lvP_at hj with ⟨rfl, rfl⟩ | ⟨h1, h2, h3⟩
  · exact h.2.2 (j, w) List.mem_cons_self
  · refine h.2.2 (j, w) (List.mem_cons_of_mem _ (List.mem_filter.mpr ⟨lvA_mem.mpr h2, ?_⟩))
    simp only [Bool.and_eq_true, Bool.not_eq_true', beq_eq_false_iff_ne, ne_eq, Bool.and_eq_false_iff]
    refine ⟨h1, ?_⟩
    by_cases hq : j + 1 = i
    · exact Or.inr (fun z => h3 ⟨hq, z⟩)
    · exact Or.inl hq
theorem lvh.put2 {ls ls' : Array Slot} {lv : List (Option Value)} {i : Nat} {v : Value} (h : lv_has ls' lv.length ((i, v) :: (lvA lv).filter (fun q => !(q.1 == i) && (!(q.1 == i + 1) && !(q.1 + 1 == i && q.2.category == 2))))) : lvh ls' (lvQ lv i v) := by
  refine ⟨by unfold lvQ; rw [List.length_set, lvP_len]; exact h.1, h.2.1, fun j w hj => ?_⟩
  unfold lvQ at hj
  by_cases hji : j = i + 1
  · subst hji
    rw [List.getElem?_set] at hj
    simp at hj
  · rw [List.getElem?_set_ne (Ne.symm hji)] at hj
    rcases lvP_at hj with ⟨rfl, rfl⟩ | ⟨h1, h2, h3⟩
    · exact h.2.2 (j, w) List.mem_cons_self
    · refine h.2.2 (j, w) (List.mem_cons_of_mem _ (List.mem_filter.mpr ⟨lvA_mem.mpr h2, ?_⟩))
      simp only [Bool.and_eq_true, Bool.not_eq_true', beq_eq_false_iff_ne, ne_eq, Bool.and_eq_false_iff]
      refine ⟨h1, hji, ?_⟩
      by_cases hq : j + 1 = i
      · exact Or.inr (fun z => h3 ⟨hq, z⟩)
      · exact Or.inl hq
/-- fewer values are known -/
theorem lvh.sub {ls : Array Slot} {lv lv' : List (Option Value)} (h : lvh ls lv) (hl : lv'.length = lv.length) (hs : ∀ (i : Nat) (v : Value), lv'[i]? = some (some v) → lv[i]? = some (some v)) : lvh ls lv' := ⟨h.1.trans hl.symm, h.2.1, fun i v hi => h.2.2 i v (hs i v hi)⟩
/-- the locals at a method's entry -/
def lvE : List Value → List (Option Value)
  | [] => []
  | v :: vs => if v.category = 2 then some v :: none :: lvE vs else some v :: lvE vs
def lvN (vs : List Value) (n : Nat) : List (Option Value) := lvE vs ++ List.replicate (n - (lvE vs).length) none
theorem lvE_args : ∀ (vs : List Value) (k i : Nat) (v : Value), (lvE vs)[i]? = some (some v) → (k + i, v) ∈ lv_args k vs
  | [], k, i, v, h => by simp [lvE] at h
  | w :: ws, k, i, v, h => by
    unfold lvE at h
    unfold lv_args
    by_cases hc : w.category = 2
    · rw [if_pos hc] at h ⊢
      match i, h with
      | 0, h => simp at h; subst h; exact List.mem_cons_self
      | 1, h => simp at h
      | j + 2, h =>
        simp only [List.getElem?_cons_succ] at h
        have := lvE_args ws (k + 2) j v h
        rw [show k + (j + 2) = k + 2 + j by omega]
        exact List.mem_cons_of_mem _ this
    · rw [if_neg hc] at h ⊢
      match i, h with
      | 0, h => simp at h; subst h; exact List.mem_cons_self
      | j + 1, h =>
        simp only [List.getElem?_cons_succ] at h
        have := lvE_args ws (k + 1) j v h
        rw [show k + (j + 1) = k + 1 + j by omega]
        exact List.mem_cons_of_mem _ this
theorem lvE_len : ∀ vs : List Value, (lvE vs).length = (lg_sl vs).length
  | [] => rfl
  | w :: ws => by
    have ih := lvE_len ws
    unfold lg_sl at ih
    unfold lvE lg_sl
    rw [List.flatMap_cons]
    by_cases hc : w.category = 2
    · rw [if_pos hc, if_pos hc]; simp [ih]
    · rw [if_neg hc, if_neg hc]; simp [ih]
theorem lvh.entry (vs : List Value) {n : Nat} (h : (lg_sl vs).length ≤ n) : lvh ((lg_sl vs ++ List.replicate (n - (lg_sl vs).length) Slot.unset).toArray) (lvN vs n) := by
  have e := lv_entry vs h
  refine ⟨?_, e.2.1, fun i v hi => ?_⟩
  · rw [e.1]; unfold lvN; rw [List.length_append, List.length_replicate, lvE_len]; omega
  · unfold lvN at hi
    by_cases hl : i < (lvE vs).length
    · rw [List.getElem?_append_left hl] at hi
      have := lvE_args vs 0 i v hi
      rw [Nat.zero_add] at this
      exact e.2.2 (i, v) this
    · rw [List.getElem?_append_right (by omega)] at hi
      have := List.eq_of_mem_replicate (List.mem_of_getElem? hi)
      cases this
/-! what stays in one activation -/
abbrev CX : Type := Program × Launch × Env × Room × State × MethodId × Array Value × List Frame × Method × Code × Gd × (Nat → Prop) × Heap × (State → Prop)
abbrev CX.p (X : CX) : Program := X.1
abbrev CX.l (X : CX) : Launch := X.2.1
abbrev CX.e (X : CX) : Env := X.2.2.1
abbrev CX.R (X : CX) : Room := X.2.2.2.1
abbrev CX.s (X : CX) : State := X.2.2.2.2.1
abbrev CX.m (X : CX) : MethodId := X.2.2.2.2.2.1
abbrev CX.a (X : CX) : Array Value := X.2.2.2.2.2.2.1
abbrev CX.b (X : CX) : List Frame := X.2.2.2.2.2.2.2.1
abbrev CX.mt (X : CX) : Method := X.2.2.2.2.2.2.2.2.1
abbrev CX.c (X : CX) : Code := X.2.2.2.2.2.2.2.2.2.1
abbrev CX.G (X : CX) : Gd := X.2.2.2.2.2.2.2.2.2.2.1
abbrev CX.A (X : CX) : Nat → Prop := X.2.2.2.2.2.2.2.2.2.2.2.1
abbrev CX.H (X : CX) : Heap := X.2.2.2.2.2.2.2.2.2.2.2.2.1
abbrev CX.Q (X : CX) : State → Prop := X.2.2.2.2.2.2.2.2.2.2.2.2.2
/-- the activation is sound: cc its code, nL its locals, own its class; d frames, mc cells, ms slots of room -/
def okX (X : CX) (cc : ByteArray) (nL : Nat) (own : String) (d mc ms : Nat) : Prop :=
  X.p.tables.exec = Jvm.exec ∧ X.c.code = cc ∧ X.c.maxLocals = nL ∧ X.s.vm.findClass own = some X.m.cls ∧ (∀ w ∈ GG, w.before X.a X.s = true) ∧ KK X.G X.s ∧ (∀ q, X.H.size ≤ q → X.A q) ∧ (d ≤ X.R.frames ∧ 40 * d ≤ X.R.locals ∧ mc ≤ X.R.cells ∧ ms ≤ X.R.slots) ∧ X.mt.locks = false
abbrev XW (X : CX) (H : Heap) (locs : List Loc) (k n : Nat) (g : JFrame) : Prop := W X.p X.l X.e X.R X.s X.m X.a X.b X.mt X.c H locs k n X.Q g
/-- from here (heap h of size z, k cells and n slots made, at pc, locals lv, stack st) the activation comes to its end -/
def V (X : CX) (k n z : Nat) (h : AH) (pc : Nat) (lv : List (Option Value)) (st : List Value) : Prop :=
  (∀ (q : Nat) (e : va_E), h q = some e → X.A q) → ∀ (H : Heap) (locs : List Loc) (ls : Array Slot), hv X.G z h H → va_S X.A X.H H locs → lvh ls lv → XW X H locs k n (F0 X.m pc ls st)
section VR
variable {X : CX} {cc : ByteArray} {nL : Nat} {own : String} {d mc ms : Nat} {k n z : Nat} {h : AH} {pc pc' : Nat} {lv lv' : List (Option Value)} {st st' : List Value}
theorem V.s (hs : ∀ (H : Heap) (locs : List Loc) (ls : Array Slot), lvh ls lv → XW X H locs k n (F0 X.m pc' ls st') → XW X H locs k n (F0 X.m pc ls st)) (kk : V X k n z h pc' lv st') : V X k n z h pc lv st :=
  fun hA H locs ls a b c => hs H locs ls c (kk hA H locs ls a b c)
/-- fewer locals are known -/
theorem V.loc (hl : lv'.length = lv.length) (hs : ∀ (i : Nat) (v : Value), lv'[i]? = some (some v) → lv[i]? = some (some v)) (kk : V X k n z h pc lv' st) : V X k n z h pc lv st :=
  fun hA H locs ls a b c => kk hA H locs ls a b (c.sub hl hs)
theorem V.widen {k' n' : Nat} (h1 : k ≤ k') (h2 : n ≤ n') (kk : V X k' n' z h pc lv st) : V X k n z h pc lv st :=
  fun hA H locs ls a b c => W.widen h1 h2 (kk hA H locs ls a b c)
/-- a cell is forgotten, or the heap is known by another name -/
theorem V.heap {h' : AH} (hs : ∀ (q : Nat) (e : va_E), h' q = some e → h q = some e) (kk : V X k n z h' pc lv st) : V X k n z h pc lv st :=
  fun hA H locs ls a b c => kk (fun q e he => hA q e (hs q e he)) H locs ls ⟨a.1, fun q e he => a.2 q e (hs q e he)⟩ b c
theorem V_iconst (hX : okX X cc nL own d mc ms) {i : Int} {v : Int32} (hd : decode cc pc = .ok (.iconst i, 1)) (hv : Int32.ofInt i = v) (hp : pc + 1 = pc') (kk : V X k n z h pc' lv (.int v :: st)) : V X k n z h pc lv (st) := by
  subst hp
  exact V.s (fun H locs ls _ w => lv_iconst hX.1 hX.2.1 hd hv w) kk
theorem V_bipush (hX : okX X cc nL own d mc ms) {i : Int} {v : Int32} (hd : decode cc pc = .ok (.bipush i, 2)) (hv : (Int8.ofInt i).toInt32 = v) (hp : pc + 2 = pc') (kk : V X k n z h pc' lv (.int v :: st)) : V X k n z h pc lv (st) := by
  subst hp
  exact V.s (fun H locs ls _ w => lv_bipush hX.1 hX.2.1 hd hv w) kk
theorem V_sipush (hX : okX X cc nL own d mc ms) {i : Int} {v : Int32} (hd : decode cc pc = .ok (.sipush i, 3)) (hv : (Int16.ofInt i).toInt32 = v) (hp : pc + 3 = pc') (kk : V X k n z h pc' lv (.int v :: st)) : V X k n z h pc lv (st) := by
  subst hp
  exact V.s (fun H locs ls _ w => lv_sipush hX.1 hX.2.1 hd hv w) kk
theorem V_lconst (hX : okX X cc nL own d mc ms) {i : Fin 2} {v : Int64} (hd : decode cc pc = .ok (.lconst i, 1)) (hv : Int64.ofNat (i : Nat) = v) (hp : pc + 1 = pc') (kk : V X k n z h pc' lv (.long v :: st)) : V X k n z h pc lv (st) := by
  subst hp
  exact V.s (fun H locs ls _ w => lv_lconst hX.1 hX.2.1 hd hv w) kk
theorem V_ldc (hX : okX X cc nL own d mc ms) {i : Nat} {v : Int32} (hd : decode cc pc = .ok (.ldc i, 2)) (hw : Cond.constant own i v ∈ GG) (hp : pc + 2 = pc') (kk : V X k n z h pc' lv (.int v :: st)) : V X k n z h pc lv (st) := by
  subst hp
  exact V.s (fun H locs ls _ w => lv_ldc hX.1 hX.2.1 hX.2.2.2.1 (hX.2.2.2.2.1 _ hw) hd w) kk
theorem V_ldcw (hX : okX X cc nL own d mc ms) {i : Nat} {v : Int32} (hd : decode cc pc = .ok (.ldc_w i, 3)) (hw : Cond.constant own i v ∈ GG) (hp : pc + 3 = pc') (kk : V X k n z h pc' lv (.int v :: st)) : V X k n z h pc lv (st) := by
  subst hp
  exact V.s (fun H locs ls _ w => lv_ldcw hX.1 hX.2.1 hX.2.2.2.1 (hX.2.2.2.2.1 _ hw) hd w) kk
theorem V_ldc2 (hX : okX X cc nL own d mc ms) {i : Nat} {v : Int64} (hd : decode cc pc = .ok (.ldc2_w i, 3)) (hw : Cond.constantLong own i v ∈ GG) (hp : pc + 3 = pc') (kk : V X k n z h pc' lv (.long v :: st)) : V X k n z h pc lv (st) := by
  subst hp
  exact V.s (fun H locs ls _ w => lv_ldc2 hX.1 hX.2.1 hX.2.2.2.1 (hX.2.2.2.2.1 _ hw) hd w) kk
theorem V_null (hX : okX X cc nL own d mc ms)  (hd : decode cc pc = .ok (.aconst_null, 1)) (hp : pc + 1 = pc') (kk : V X k n z h pc' lv (.null :: st)) : V X k n z h pc lv (st) := by
  subst hp
  exact V.s (fun H locs ls _ w => lv_null hX.1 hX.2.1 hd w) kk
theorem V_iload_n (hX : okX X cc nL own d mc ms) {i : Fin 4} {x : Int32} (hd : decode cc pc = .ok (.iload_n i, 1)) (hl : lv[(i : Nat)]? = some (some (.int x))) (hp : pc + 1 = pc') (kk : V X k n z h pc' lv (.int x :: st)) : V X k n z h pc lv st := by
  subst hp
  exact V.s (fun H locs ls c w => lv_iload_n hX.1 hX.2.1 hd rfl (c.2.2 _ _ hl) w) kk
theorem V_iload (hX : okX X cc nL own d mc ms) {i : Nat} {x : Int32} (hd : decode cc pc = .ok (.iload i, 2)) (hl : lv[i]? = some (some (.int x))) (hp : pc + 2 = pc') (kk : V X k n z h pc' lv (.int x :: st)) : V X k n z h pc lv st := by
  subst hp
  exact V.s (fun H locs ls c w => lv_iload hX.1 hX.2.1 hd (c.2.2 _ _ hl) w) kk
theorem V_lload_n (hX : okX X cc nL own d mc ms) {i : Fin 4} {x : Int64} (hd : decode cc pc = .ok (.lload_n i, 1)) (hl : lv[(i : Nat)]? = some (some (.long x))) (hp : pc + 1 = pc') (kk : V X k n z h pc' lv (.long x :: st)) : V X k n z h pc lv st := by
  subst hp
  exact V.s (fun H locs ls c w => lv_lload_n hX.1 hX.2.1 hd rfl (c.2.2 _ _ hl) w) kk
theorem V_lload (hX : okX X cc nL own d mc ms) {i : Nat} {x : Int64} (hd : decode cc pc = .ok (.lload i, 2)) (hl : lv[i]? = some (some (.long x))) (hp : pc + 2 = pc') (kk : V X k n z h pc' lv (.long x :: st)) : V X k n z h pc lv st := by
  subst hp
  exact V.s (fun H locs ls c w => lv_lload hX.1 hX.2.1 hd (c.2.2 _ _ hl) w) kk
theorem V_aload_n (hX : okX X cc nL own d mc ms) {i : Fin 4} {x : Nat} (hd : decode cc pc = .ok (.aload_n i, 1)) (hl : lv[(i : Nat)]? = some (some (.ref x))) (hp : pc + 1 = pc') (kk : V X k n z h pc' lv (.ref x :: st)) : V X k n z h pc lv st := by
  subst hp
  exact V.s (fun H locs ls c w => lv_aload_n hX.1 hX.2.1 hd rfl (c.2.2 _ _ hl) w) kk
theorem V_aload (hX : okX X cc nL own d mc ms) {i : Nat} {x : Nat} (hd : decode cc pc = .ok (.aload i, 2)) (hl : lv[i]? = some (some (.ref x))) (hp : pc + 2 = pc') (kk : V X k n z h pc' lv (.ref x :: st)) : V X k n z h pc lv st := by
  subst hp
  exact V.s (fun H locs ls c w => lv_aload hX.1 hX.2.1 hd (c.2.2 _ _ hl) w) kk
theorem V_aload_nN (hX : okX X cc nL own d mc ms) {i : Fin 4} (hd : decode cc pc = .ok (.aload_n i, 1)) (hl : lv[(i : Nat)]? = some (some .null)) (hp : pc + 1 = pc') (kk : V X k n z h pc' lv (.null :: st)) : V X k n z h pc lv st := by
  subst hp
  exact V.s (fun H locs ls c w => lv_aload_nN hX.1 hX.2.1 hd rfl (c.2.2 _ _ hl) w) kk
theorem V_aloadN (hX : okX X cc nL own d mc ms) {i : Nat} (hd : decode cc pc = .ok (.aload i, 2)) (hl : lv[i]? = some (some .null)) (hp : pc + 2 = pc') (kk : V X k n z h pc' lv (.null :: st)) : V X k n z h pc lv st := by
  subst hp
  exact V.s (fun H locs ls c w => lv_aloadN hX.1 hX.2.1 hd (c.2.2 _ _ hl) w) kk
theorem V_istore_n (hX : okX X cc nL own d mc ms) {i : Fin 4} {x : Int32} (hd : decode cc pc = .ok (.istore_n i, 1)) (hi : (i : Nat) < lv.length) (hl : lvP lv (i : Nat) (.int x) = lv') (hp : pc + 1 = pc') (kk : V X k n z h pc' lv' st) : V X k n z h pc lv (.int x :: st) := by
  subst hp; subst hl
  exact fun hA H locs ls a b c => lv_istore_n hX.1 hX.2.1 hd rfl c.has hi rfl (fun ls' c' => kk hA H locs ls' a b (lvh.put1 (ls := ls) c'))
theorem V_istore (hX : okX X cc nL own d mc ms) {i : Nat} {x : Int32} (hd : decode cc pc = .ok (.istore i, 2)) (hi : i < lv.length) (hl : lvP lv i (.int x) = lv') (hp : pc + 2 = pc') (kk : V X k n z h pc' lv' st) : V X k n z h pc lv (.int x :: st) := by
  subst hp; subst hl
  exact fun hA H locs ls a b c => lv_istore hX.1 hX.2.1 hd c.has hi rfl (fun ls' c' => kk hA H locs ls' a b (lvh.put1 (ls := ls) c'))
theorem V_lstore_n (hX : okX X cc nL own d mc ms) {i : Fin 4} {x : Int64} (hd : decode cc pc = .ok (.lstore_n i, 1)) (hi : (i : Nat) + 1 < lv.length) (hl : lvQ lv (i : Nat) (.long x) = lv') (hp : pc + 1 = pc') (kk : V X k n z h pc' lv' st) : V X k n z h pc lv (.long x :: st) := by
  subst hp; subst hl
  exact fun hA H locs ls a b c => lv_lstore_n hX.1 hX.2.1 hd rfl c.has hi rfl (fun ls' c' => kk hA H locs ls' a b (lvh.put2 (ls := ls) c'))
theorem V_lstore (hX : okX X cc nL own d mc ms) {i : Nat} {x : Int64} (hd : decode cc pc = .ok (.lstore i, 2)) (hi : i + 1 < lv.length) (hl : lvQ lv i (.long x) = lv') (hp : pc + 2 = pc') (kk : V X k n z h pc' lv' st) : V X k n z h pc lv (.long x :: st) := by
  subst hp; subst hl
  exact fun hA H locs ls a b c => lv_lstore hX.1 hX.2.1 hd c.has hi rfl (fun ls' c' => kk hA H locs ls' a b (lvh.put2 (ls := ls) c'))
theorem V_astore_n (hX : okX X cc nL own d mc ms) {i : Fin 4} {x : Nat} (hd : decode cc pc = .ok (.astore_n i, 1)) (hi : (i : Nat) < lv.length) (hl : lvP lv (i : Nat) (.ref x) = lv') (hp : pc + 1 = pc') (kk : V X k n z h pc' lv' st) : V X k n z h pc lv (.ref x :: st) := by
  subst hp; subst hl
  exact fun hA H locs ls a b c => lv_astore_n hX.1 hX.2.1 hd rfl c.has hi rfl (fun ls' c' => kk hA H locs ls' a b (lvh.put1 (ls := ls) c'))
theorem V_astore (hX : okX X cc nL own d mc ms) {i : Nat} {x : Nat} (hd : decode cc pc = .ok (.astore i, 2)) (hi : i < lv.length) (hl : lvP lv i (.ref x) = lv') (hp : pc + 2 = pc') (kk : V X k n z h pc' lv' st) : V X k n z h pc lv (.ref x :: st) := by
  subst hp; subst hl
  exact fun hA H locs ls a b c => lv_astore hX.1 hX.2.1 hd c.has hi rfl (fun ls' c' => kk hA H locs ls' a b (lvh.put1 (ls := ls) c'))
theorem V_astore_nN (hX : okX X cc nL own d mc ms) {i : Fin 4}  (hd : decode cc pc = .ok (.astore_n i, 1)) (hi : (i : Nat) < lv.length) (hl : lvP lv (i : Nat) (.null) = lv') (hp : pc + 1 = pc') (kk : V X k n z h pc' lv' st) : V X k n z h pc lv (.null :: st) := by
  subst hp; subst hl
  exact fun hA H locs ls a b c => lv_astore_nN hX.1 hX.2.1 hd rfl c.has hi rfl (fun ls' c' => kk hA H locs ls' a b (lvh.put1 (ls := ls) c'))
theorem V_astoreN (hX : okX X cc nL own d mc ms) {i : Nat}  (hd : decode cc pc = .ok (.astore i, 2)) (hi : i < lv.length) (hl : lvP lv i (.null) = lv') (hp : pc + 2 = pc') (kk : V X k n z h pc' lv' st) : V X k n z h pc lv (.null :: st) := by
  subst hp; subst hl
  exact fun hA H locs ls a b c => lv_astoreN hX.1 hX.2.1 hd c.has hi rfl (fun ls' c' => kk hA H locs ls' a b (lvh.put1 (ls := ls) c'))
theorem V_iinc (hX : okX X cc nL own d mc ms) {i : Nat} {j : Int} {x v : Int32} (hd : decode cc pc = .ok (.iinc i j, 3)) (hx : lv[i]? = some (some (.int x))) (hv : x + Int32.ofInt j = v) (hl : lvP lv i (.int v) = lv') (hp : pc + 3 = pc') (kk : V X k n z h pc' lv' st) : V X k n z h pc lv st := by
  subst hp; subst hl
  intro hA H locs ls a b c
  have hm : (i, Value.int x) ∈ lvA lv := lvA_mem.mpr hx
  obtain ⟨q, hq⟩ := List.getElem?_of_mem hm
  exact lv_iinc hX.1 hX.2.1 hd c.has hq hv (List.getElem?_eq_some_iff.mp hx).1 rfl (fun ls' c' => kk hA H locs ls' a b (lvh.put1 (ls := ls) c'))
theorem V_iadd (hX : okX X cc nL own d mc ms) {x y : Int32} (hd : decode cc pc = .ok (.iadd, 1)) (hp : pc + 1 = pc') (kk : V X k n z h pc' lv (.int (x + y) :: st)) : V X k n z h pc lv (.int y :: .int x :: st) := by
  subst hp
  exact V.s (fun H locs ls _ w => lv_iadd hX.1 hX.2.1 hd w) kk
theorem V_isub (hX : okX X cc nL own d mc ms) {x y : Int32} (hd : decode cc pc = .ok (.isub, 1)) (hp : pc + 1 = pc') (kk : V X k n z h pc' lv (.int (x - y) :: st)) : V X k n z h pc lv (.int y :: .int x :: st) := by
  subst hp
  exact V.s (fun H locs ls _ w => lv_isub hX.1 hX.2.1 hd w) kk
theorem V_imul (hX : okX X cc nL own d mc ms) {x y : Int32} (hd : decode cc pc = .ok (.imul, 1)) (hp : pc + 1 = pc') (kk : V X k n z h pc' lv (.int (x * y) :: st)) : V X k n z h pc lv (.int y :: .int x :: st) := by
  subst hp
  exact V.s (fun H locs ls _ w => lv_imul hX.1 hX.2.1 hd w) kk
theorem V_iand (hX : okX X cc nL own d mc ms) {x y : Int32} (hd : decode cc pc = .ok (.iand, 1)) (hp : pc + 1 = pc') (kk : V X k n z h pc' lv (.int (x &&& y) :: st)) : V X k n z h pc lv (.int y :: .int x :: st) := by
  subst hp
  exact V.s (fun H locs ls _ w => lv_iand hX.1 hX.2.1 hd w) kk
theorem V_ior (hX : okX X cc nL own d mc ms) {x y : Int32} (hd : decode cc pc = .ok (.ior, 1)) (hp : pc + 1 = pc') (kk : V X k n z h pc' lv (.int (x ||| y) :: st)) : V X k n z h pc lv (.int y :: .int x :: st) := by
  subst hp
  exact V.s (fun H locs ls _ w => lv_ior hX.1 hX.2.1 hd w) kk
theorem V_ixor (hX : okX X cc nL own d mc ms) {x y : Int32} (hd : decode cc pc = .ok (.ixor, 1)) (hp : pc + 1 = pc') (kk : V X k n z h pc' lv (.int (x ^^^ y) :: st)) : V X k n z h pc lv (.int y :: .int x :: st) := by
  subst hp
  exact V.s (fun H locs ls _ w => lv_ixor hX.1 hX.2.1 hd w) kk
theorem V_ladd (hX : okX X cc nL own d mc ms) {x y : Int64} (hd : decode cc pc = .ok (.ladd, 1)) (hp : pc + 1 = pc') (kk : V X k n z h pc' lv (.long (x + y) :: st)) : V X k n z h pc lv (.long y :: .long x :: st) := by
  subst hp
  exact V.s (fun H locs ls _ w => lv_ladd hX.1 hX.2.1 hd w) kk
theorem V_lsub (hX : okX X cc nL own d mc ms) {x y : Int64} (hd : decode cc pc = .ok (.lsub, 1)) (hp : pc + 1 = pc') (kk : V X k n z h pc' lv (.long (x - y) :: st)) : V X k n z h pc lv (.long y :: .long x :: st) := by
  subst hp
  exact V.s (fun H locs ls _ w => lv_lsub hX.1 hX.2.1 hd w) kk
theorem V_lmul (hX : okX X cc nL own d mc ms) {x y : Int64} (hd : decode cc pc = .ok (.lmul, 1)) (hp : pc + 1 = pc') (kk : V X k n z h pc' lv (.long (x * y) :: st)) : V X k n z h pc lv (.long y :: .long x :: st) := by
  subst hp
  exact V.s (fun H locs ls _ w => lv_lmul hX.1 hX.2.1 hd w) kk
theorem V_land (hX : okX X cc nL own d mc ms) {x y : Int64} (hd : decode cc pc = .ok (.land, 1)) (hp : pc + 1 = pc') (kk : V X k n z h pc' lv (.long (x &&& y) :: st)) : V X k n z h pc lv (.long y :: .long x :: st) := by
  subst hp
  exact V.s (fun H locs ls _ w => lv_land hX.1 hX.2.1 hd w) kk
theorem V_lor (hX : okX X cc nL own d mc ms) {x y : Int64} (hd : decode cc pc = .ok (.lor, 1)) (hp : pc + 1 = pc') (kk : V X k n z h pc' lv (.long (x ||| y) :: st)) : V X k n z h pc lv (.long y :: .long x :: st) := by
  subst hp
  exact V.s (fun H locs ls _ w => lv_lor hX.1 hX.2.1 hd w) kk
theorem V_lxor (hX : okX X cc nL own d mc ms) {x y : Int64} (hd : decode cc pc = .ok (.lxor, 1)) (hp : pc + 1 = pc') (kk : V X k n z h pc' lv (.long (x ^^^ y) :: st)) : V X k n z h pc lv (.long y :: .long x :: st) := by
  subst hp
  exact V.s (fun H locs ls _ w => lv_lxor hX.1 hX.2.1 hd w) kk
theorem V_irem (hX : okX X cc nL own d mc ms) {x y : Int32} (hd : decode cc pc = .ok (.irem, 1)) (hne : ¬ y = 0) (hp : pc + 1 = pc') (kk : V X k n z h pc' lv (.int (x - x / y * y) :: st)) : V X k n z h pc lv (.int y :: .int x :: st) := by
  subst hp
  exact V.s (fun H locs ls _ w => lv_irem hX.1 hX.2.1 hd hne w) kk
theorem V_ldiv (hX : okX X cc nL own d mc ms) {x y : Int64} (hd : decode cc pc = .ok (.ldiv, 1)) (hne : ¬ y = 0) (hp : pc + 1 = pc') (kk : V X k n z h pc' lv (.long (x / y) :: st)) : V X k n z h pc lv (.long y :: .long x :: st) := by
  subst hp
  exact V.s (fun H locs ls _ w => lv_ldiv hX.1 hX.2.1 hd hne w) kk
theorem V_lrem (hX : okX X cc nL own d mc ms) {x y : Int64} (hd : decode cc pc = .ok (.lrem, 1)) (hne : ¬ y = 0) (hp : pc + 1 = pc') (kk : V X k n z h pc' lv (.long (x - x / y * y) :: st)) : V X k n z h pc lv (.long y :: .long x :: st) := by
  subst hp
  exact V.s (fun H locs ls _ w => lv_lrem hX.1 hX.2.1 hd hne w) kk
theorem V_lneg (hX : okX X cc nL own d mc ms) {x : Int64} (hd : decode cc pc = .ok (.lneg, 1)) (hp : pc + 1 = pc') (kk : V X k n z h pc' lv (.long (-x) :: st)) : V X k n z h pc lv (.long x :: st) := by
  subst hp
  exact V.s (fun H locs ls _ w => lv_lneg hX.1 hX.2.1 hd w) kk
theorem V_ishl (hX : okX X cc nL own d mc ms) {x y : Int32} (hd : decode cc pc = .ok (.ishl, 1)) (hp : pc + 1 = pc') (kk : V X k n z h pc' lv (.int (x <<< (y &&& 31)) :: st)) : V X k n z h pc lv (.int y :: .int x :: st) := by
  subst hp
  exact V.s (fun H locs ls _ w => lv_ishl hX.1 hX.2.1 hd w) kk
theorem V_ishr (hX : okX X cc nL own d mc ms) {x y : Int32} (hd : decode cc pc = .ok (.ishr, 1)) (hp : pc + 1 = pc') (kk : V X k n z h pc' lv (.int (x >>> (y &&& 31)) :: st)) : V X k n z h pc lv (.int y :: .int x :: st) := by
  subst hp
  exact V.s (fun H locs ls _ w => lv_ishr hX.1 hX.2.1 hd w) kk
theorem V_iushr (hX : okX X cc nL own d mc ms) {x y : Int32} (hd : decode cc pc = .ok (.iushr, 1)) (hp : pc + 1 = pc') (kk : V X k n z h pc' lv (.int ((x.toUInt32 >>> (y.toUInt32 &&& Int32.toUInt32 31)).toInt32) :: st)) : V X k n z h pc lv (.int y :: .int x :: st) := by
  subst hp
  exact V.s (fun H locs ls _ w => lv_iushr hX.1 hX.2.1 hd rfl w) kk
theorem V_lushr (hX : okX X cc nL own d mc ms) {x : Int64} {y : Int32} (hd : decode cc pc = .ok (.lushr, 1)) (hp : pc + 1 = pc') (kk : V X k n z h pc' lv (.long ((x.toUInt64 >>> (y.toInt64.toUInt64 &&& Int64.toUInt64 63)).toInt64) :: st)) : V X k n z h pc lv (.int y :: .long x :: st) := by
  subst hp
  exact V.s (fun H locs ls _ w => lv_lushr hX.1 hX.2.1 hd rfl w) kk
theorem V_lshl (hX : okX X cc nL own d mc ms) {x : Int64} {y : Int32} (hd : decode cc pc = .ok (.lshl, 1)) (hp : pc + 1 = pc') (kk : V X k n z h pc' lv (.long (x <<< (y.toInt64 &&& 63)) :: st)) : V X k n z h pc lv (.int y :: .long x :: st) := by
  subst hp
  exact V.s (fun H locs ls _ w => lv_lshl hX.1 hX.2.1 hd rfl w) kk
theorem V_i2l (hX : okX X cc nL own d mc ms) {x : Int32} (hd : decode cc pc = .ok (.i2l, 1)) (hp : pc + 1 = pc') (kk : V X k n z h pc' lv (.long x.toInt64 :: st)) : V X k n z h pc lv (.int x :: st) := by
  subst hp
  exact V.s (fun H locs ls _ w => lv_i2l hX.1 hX.2.1 hd rfl w) kk
theorem V_l2i (hX : okX X cc nL own d mc ms) {x : Int64} (hd : decode cc pc = .ok (.l2i, 1)) (hp : pc + 1 = pc') (kk : V X k n z h pc' lv (.int x.toInt32 :: st)) : V X k n z h pc lv (.long x :: st) := by
  subst hp
  exact V.s (fun H locs ls _ w => lv_l2i hX.1 hX.2.1 hd rfl w) kk
theorem V_dup (hX : okX X cc nL own d mc ms) {va : Value} (hd : decode cc pc = .ok (.dup, 1)) (hc : va.category = 1) (hp : pc + 1 = pc') (kk : V X k n z h pc' lv (va :: va :: st)) : V X k n z h pc lv (va :: st) := by
  subst hp
  exact V.s (fun H locs ls _ w => lv_dup hX.1 hX.2.1 hd hc w) kk
theorem V_pop (hX : okX X cc nL own d mc ms) {va : Value} (hd : decode cc pc = .ok (.pop, 1)) (hc : va.category = 1) (hp : pc + 1 = pc') (kk : V X k n z h pc' lv (st)) : V X k n z h pc lv (va :: st) := by
  subst hp
  exact V.s (fun H locs ls _ w => lv_pop hX.1 hX.2.1 hd hc w) kk
theorem V_dup2_11 (hX : okX X cc nL own d mc ms) {va vb : Value} (hd : decode cc pc = .ok (.dup2, 1)) (hc : va.category = 1) (hc2 : vb.category = 1) (hp : pc + 1 = pc') (kk : V X k n z h pc' lv (va :: vb :: va :: vb :: st)) : V X k n z h pc lv (va :: vb :: st) := by
  subst hp
  exact V.s (fun H locs ls _ w => lv_dup2_11 hX.1 hX.2.1 hd hc hc2 w) kk
theorem V_dup2_2 (hX : okX X cc nL own d mc ms) {va : Value} (hd : decode cc pc = .ok (.dup2, 1)) (hc : va.category = 2) (hp : pc + 1 = pc') (kk : V X k n z h pc' lv (va :: va :: st)) : V X k n z h pc lv (va :: st) := by
  subst hp
  exact V.s (fun H locs ls _ w => lv_dup2_2 hX.1 hX.2.1 hd hc w) kk
theorem V_goto (hX : okX X cc nL own d mc ms) {off : Int} (hd : decode cc pc = .ok (.goto off, 3)) (ht : (pc : Int) + off = (pc' : Int)) (kk : V X k n z h pc' lv st) : V X k n z h pc lv st := V.s (fun H locs ls _ w => lv_goto hX.1 hX.2.1 hd ht w) kk
/-- two ways on -/
theorem V.br {C : Prop} {pt pf : Nat} {st'' : List Value} (hs : ∀ (H : Heap) (locs : List Loc) (ls : Array Slot), (C → XW X H locs k n (F0 X.m pt ls st')) → (¬ C → XW X H locs k n (F0 X.m pf ls st'')) → XW X H locs k n (F0 X.m pc ls st)) (kt : C → V X k n z h pt lv st') (kf : ¬ C → V X k n z h pf lv st'') : V X k n z h pc lv st :=
  fun hA H locs ls a b c => hs H locs ls (fun q => kt q hA H locs ls a b c) (fun q => kf q hA H locs ls a b c)
theorem V_if_eq (hX : okX X cc nL own d mc ms) {x : Int32} {off : Int} {pt : Nat} (hd : decode cc pc = .ok (.ifCond .eq off, 3)) (ht : (pc : Int) + off = (pt : Int)) (hp : pc + 3 = pc') (kt : x = 0 → V X k n z h pt lv st) (kf : ¬ (x = 0) → V X k n z h pc' lv st) : V X k n z h pc lv (.int x :: st) := by
  subst hp
  exact V.br (fun H locs ls a b => lv_if_eq hX.1 hX.2.1 hd ht a b) kt kf
theorem V_icmp_eq (hX : okX X cc nL own d mc ms) {x y : Int32} {off : Int} {pt : Nat} (hd : decode cc pc = .ok (.if_icmp .eq off, 3)) (ht : (pc : Int) + off = (pt : Int)) (hp : pc + 3 = pc') (kt : x = y → V X k n z h pt lv st) (kf : ¬ (x = y) → V X k n z h pc' lv st) : V X k n z h pc lv (.int y :: .int x :: st) := by
  subst hp
  exact V.br (fun H locs ls a b => lv_icmp_eq hX.1 hX.2.1 hd ht a b) kt kf
theorem V_if_ne (hX : okX X cc nL own d mc ms) {x : Int32} {off : Int} {pt : Nat} (hd : decode cc pc = .ok (.ifCond .ne off, 3)) (ht : (pc : Int) + off = (pt : Int)) (hp : pc + 3 = pc') (kt : ¬ x = 0 → V X k n z h pt lv st) (kf : x = 0 → V X k n z h pc' lv st) : V X k n z h pc lv (.int x :: st) := by
  subst hp
  exact V.br (fun H locs ls a b => lv_if_ne hX.1 hX.2.1 hd ht b a) kf kt
theorem V_icmp_ne (hX : okX X cc nL own d mc ms) {x y : Int32} {off : Int} {pt : Nat} (hd : decode cc pc = .ok (.if_icmp .ne off, 3)) (ht : (pc : Int) + off = (pt : Int)) (hp : pc + 3 = pc') (kt : ¬ x = y → V X k n z h pt lv st) (kf : x = y → V X k n z h pc' lv st) : V X k n z h pc lv (.int y :: .int x :: st) := by
  subst hp
  exact V.br (fun H locs ls a b => lv_icmp_ne hX.1 hX.2.1 hd ht b a) kf kt
theorem V_if_lt (hX : okX X cc nL own d mc ms) {x : Int32} {off : Int} {pt : Nat} (hd : decode cc pc = .ok (.ifCond .lt off, 3)) (ht : (pc : Int) + off = (pt : Int)) (hp : pc + 3 = pc') (kt : x < 0 → V X k n z h pt lv st) (kf : ¬ (x < 0) → V X k n z h pc' lv st) : V X k n z h pc lv (.int x :: st) := by
  subst hp
  exact V.br (fun H locs ls a b => lv_if_lt hX.1 hX.2.1 hd ht a b) kt kf
theorem V_icmp_lt (hX : okX X cc nL own d mc ms) {x y : Int32} {off : Int} {pt : Nat} (hd : decode cc pc = .ok (.if_icmp .lt off, 3)) (ht : (pc : Int) + off = (pt : Int)) (hp : pc + 3 = pc') (kt : x < y → V X k n z h pt lv st) (kf : ¬ (x < y) → V X k n z h pc' lv st) : V X k n z h pc lv (.int y :: .int x :: st) := by
  subst hp
  exact V.br (fun H locs ls a b => lv_icmp_lt hX.1 hX.2.1 hd ht a b) kt kf
theorem V_if_ge (hX : okX X cc nL own d mc ms) {x : Int32} {off : Int} {pt : Nat} (hd : decode cc pc = .ok (.ifCond .ge off, 3)) (ht : (pc : Int) + off = (pt : Int)) (hp : pc + 3 = pc') (kt : 0 ≤ x → V X k n z h pt lv st) (kf : ¬ (0 ≤ x) → V X k n z h pc' lv st) : V X k n z h pc lv (.int x :: st) := by
  subst hp
  exact V.br (fun H locs ls a b => lv_if_ge hX.1 hX.2.1 hd ht a b) kt kf
theorem V_icmp_ge (hX : okX X cc nL own d mc ms) {x y : Int32} {off : Int} {pt : Nat} (hd : decode cc pc = .ok (.if_icmp .ge off, 3)) (ht : (pc : Int) + off = (pt : Int)) (hp : pc + 3 = pc') (kt : y ≤ x → V X k n z h pt lv st) (kf : ¬ (y ≤ x) → V X k n z h pc' lv st) : V X k n z h pc lv (.int y :: .int x :: st) := by
  subst hp
  exact V.br (fun H locs ls a b => lv_icmp_ge hX.1 hX.2.1 hd ht a b) kt kf
theorem V_if_gt (hX : okX X cc nL own d mc ms) {x : Int32} {off : Int} {pt : Nat} (hd : decode cc pc = .ok (.ifCond .gt off, 3)) (ht : (pc : Int) + off = (pt : Int)) (hp : pc + 3 = pc') (kt : 0 < x → V X k n z h pt lv st) (kf : ¬ (0 < x) → V X k n z h pc' lv st) : V X k n z h pc lv (.int x :: st) := by
  subst hp
  exact V.br (fun H locs ls a b => lv_if_gt hX.1 hX.2.1 hd ht a b) kt kf
theorem V_icmp_gt (hX : okX X cc nL own d mc ms) {x y : Int32} {off : Int} {pt : Nat} (hd : decode cc pc = .ok (.if_icmp .gt off, 3)) (ht : (pc : Int) + off = (pt : Int)) (hp : pc + 3 = pc') (kt : y < x → V X k n z h pt lv st) (kf : ¬ (y < x) → V X k n z h pc' lv st) : V X k n z h pc lv (.int y :: .int x :: st) := by
  subst hp
  exact V.br (fun H locs ls a b => lv_icmp_gt hX.1 hX.2.1 hd ht a b) kt kf
theorem V_if_le (hX : okX X cc nL own d mc ms) {x : Int32} {off : Int} {pt : Nat} (hd : decode cc pc = .ok (.ifCond .le off, 3)) (ht : (pc : Int) + off = (pt : Int)) (hp : pc + 3 = pc') (kt : x ≤ 0 → V X k n z h pt lv st) (kf : ¬ (x ≤ 0) → V X k n z h pc' lv st) : V X k n z h pc lv (.int x :: st) := by
  subst hp
  exact V.br (fun H locs ls a b => lv_if_le hX.1 hX.2.1 hd ht a b) kt kf
theorem V_icmp_le (hX : okX X cc nL own d mc ms) {x y : Int32} {off : Int} {pt : Nat} (hd : decode cc pc = .ok (.if_icmp .le off, 3)) (ht : (pc : Int) + off = (pt : Int)) (hp : pc + 3 = pc') (kt : x ≤ y → V X k n z h pt lv st) (kf : ¬ (x ≤ y) → V X k n z h pc' lv st) : V X k n z h pc lv (.int y :: .int x :: st) := by
  subst hp
  exact V.br (fun H locs ls a b => lv_icmp_le hX.1 hX.2.1 hd ht a b) kt kf
/-! comparing longs and going on by it -/
theorem lg_lt (x y : Int64) : lg_cmp x y < 0 ↔ x < y := by
  unfold lg_cmp
  split
  · rename_i h; simp only [Int64.lt_iff_toInt_lt] at *; constructor
    · intro q; exact absurd q (by decide)
    · intro q; omega
  · split
    · rename_i h1 h2; simp only [Int64.lt_iff_toInt_lt] at *; constructor
      · intro q; exact absurd q (by decide)
      · intro q; subst h2; omega
    · rename_i h1 h2; constructor
      · intro _; simp only [Int64.lt_iff_toInt_lt] at *; have : x.toInt ≠ y.toInt := fun q => h2 (Int64.toInt_inj.mp q); omega
      · intro _; decide
theorem lg_eq (x y : Int64) : lg_cmp x y = 0 ↔ x = y := by
  unfold lg_cmp
  split
  · rename_i h; constructor
    · intro q; exact absurd q (by decide)
    · intro q; subst q; exact absurd h (Int64.lt_irrefl)
  · split
    · rename_i h1 h2; exact ⟨fun _ => h2, fun _ => rfl⟩
    · rename_i h1 h2; exact ⟨fun q => absurd q (by decide), fun q => absurd q h2⟩
theorem lg_gt (x y : Int64) : 0 < lg_cmp x y ↔ y < x := by
  unfold lg_cmp
  split
  · rename_i h; exact ⟨fun _ => h, fun _ => by decide⟩
  · split
    · rename_i h1 h2; exact ⟨fun q => absurd q (by decide), fun q => absurd q h1⟩
    · rename_i h1 h2; exact ⟨fun q => absurd q (by decide), fun q => absurd q h1⟩
theorem lg_le (x y : Int64) : lg_cmp x y ≤ 0 ↔ x ≤ y := by
  have h := lg_gt x y
  rw [← Int32.not_lt, h, Int64.not_lt]
theorem lg_ge (x y : Int64) : 0 ≤ lg_cmp x y ↔ y ≤ x := by
  have h := lg_lt x y
  rw [← Int32.not_lt, h, Int64.not_lt]
theorem V_lcmp_eq (hX : okX X cc nL own d mc ms) {x y : Int64} {off : Int} {p1 pt : Nat} (hd : decode cc pc = .ok (.lcmp, 1)) (hp1 : pc + 1 = p1) (hd2 : decode cc p1 = .ok (.ifCond .eq off, 3)) (ht : (p1 : Int) + off = (pt : Int)) (hp : p1 + 3 = pc') (kt : x = y → V X k n z h pt lv st) (kf : ¬ (x = y) → V X k n z h pc' lv st) : V X k n z h pc lv (.long y :: .long x :: st) := by
  subst hp1; subst hp
  refine V.s (fun H locs ls _ w => W.lcmp hX.1 hX.2.1 hd w) ?_
  exact V.br (fun H locs ls a b => lv_if_eq hX.1 hX.2.1 hd2 ht a b) (fun q => kt ((lg_eq x y).mp q)) (fun q => kf (fun q2 => q ((lg_eq x y).mpr q2)))
theorem V_lcmp_ne (hX : okX X cc nL own d mc ms) {x y : Int64} {off : Int} {p1 pt : Nat} (hd : decode cc pc = .ok (.lcmp, 1)) (hp1 : pc + 1 = p1) (hd2 : decode cc p1 = .ok (.ifCond .ne off, 3)) (ht : (p1 : Int) + off = (pt : Int)) (hp : p1 + 3 = pc') (kt : ¬ x = y → V X k n z h pt lv st) (kf : x = y → V X k n z h pc' lv st) : V X k n z h pc lv (.long y :: .long x :: st) := by
  subst hp1; subst hp
  refine V.s (fun H locs ls _ w => W.lcmp hX.1 hX.2.1 hd w) ?_
  exact V.br (fun H locs ls a b => lv_if_ne hX.1 hX.2.1 hd2 ht b a) (fun q => kf ((lg_eq x y).mp q)) (fun q => kt (fun q2 => q ((lg_eq x y).mpr q2)))
theorem V_lcmp_lt (hX : okX X cc nL own d mc ms) {x y : Int64} {off : Int} {p1 pt : Nat} (hd : decode cc pc = .ok (.lcmp, 1)) (hp1 : pc + 1 = p1) (hd2 : decode cc p1 = .ok (.ifCond .lt off, 3)) (ht : (p1 : Int) + off = (pt : Int)) (hp : p1 + 3 = pc') (kt : x < y → V X k n z h pt lv st) (kf : ¬ (x < y) → V X k n z h pc' lv st) : V X k n z h pc lv (.long y :: .long x :: st) := by
  subst hp1; subst hp
  refine V.s (fun H locs ls _ w => W.lcmp hX.1 hX.2.1 hd w) ?_
  exact V.br (fun H locs ls a b => lv_if_lt hX.1 hX.2.1 hd2 ht a b) (fun q => kt ((lg_lt x y).mp q)) (fun q => kf (fun q2 => q ((lg_lt x y).mpr q2)))
theorem V_lcmp_ge (hX : okX X cc nL own d mc ms) {x y : Int64} {off : Int} {p1 pt : Nat} (hd : decode cc pc = .ok (.lcmp, 1)) (hp1 : pc + 1 = p1) (hd2 : decode cc p1 = .ok (.ifCond .ge off, 3)) (ht : (p1 : Int) + off = (pt : Int)) (hp : p1 + 3 = pc') (kt : y ≤ x → V X k n z h pt lv st) (kf : ¬ (y ≤ x) → V X k n z h pc' lv st) : V X k n z h pc lv (.long y :: .long x :: st) := by
  subst hp1; subst hp
  refine V.s (fun H locs ls _ w => W.lcmp hX.1 hX.2.1 hd w) ?_
  exact V.br (fun H locs ls a b => lv_if_ge hX.1 hX.2.1 hd2 ht a b) (fun q => kt ((lg_ge x y).mp q)) (fun q => kf (fun q2 => q ((lg_ge x y).mpr q2)))
theorem V_lcmp_gt (hX : okX X cc nL own d mc ms) {x y : Int64} {off : Int} {p1 pt : Nat} (hd : decode cc pc = .ok (.lcmp, 1)) (hp1 : pc + 1 = p1) (hd2 : decode cc p1 = .ok (.ifCond .gt off, 3)) (ht : (p1 : Int) + off = (pt : Int)) (hp : p1 + 3 = pc') (kt : y < x → V X k n z h pt lv st) (kf : ¬ (y < x) → V X k n z h pc' lv st) : V X k n z h pc lv (.long y :: .long x :: st) := by
  subst hp1; subst hp
  refine V.s (fun H locs ls _ w => W.lcmp hX.1 hX.2.1 hd w) ?_
  exact V.br (fun H locs ls a b => lv_if_gt hX.1 hX.2.1 hd2 ht a b) (fun q => kt ((lg_gt x y).mp q)) (fun q => kf (fun q2 => q ((lg_gt x y).mpr q2)))
theorem V_lcmp_le (hX : okX X cc nL own d mc ms) {x y : Int64} {off : Int} {p1 pt : Nat} (hd : decode cc pc = .ok (.lcmp, 1)) (hp1 : pc + 1 = p1) (hd2 : decode cc p1 = .ok (.ifCond .le off, 3)) (ht : (p1 : Int) + off = (pt : Int)) (hp : p1 + 3 = pc') (kt : x ≤ y → V X k n z h pt lv st) (kf : ¬ (x ≤ y) → V X k n z h pc' lv st) : V X k n z h pc lv (.long y :: .long x :: st) := by
  subst hp1; subst hp
  refine V.s (fun H locs ls _ w => W.lcmp hX.1 hX.2.1 hd w) ?_
  exact V.br (fun H locs ls a b => lv_if_le hX.1 hX.2.1 hd2 ht a b) (fun q => kt ((lg_le x y).mp q)) (fun q => kf (fun q2 => q ((lg_le x y).mpr q2)))
/-! references and null -/
theorem V_ifnull (hX : okX X cc nL own d mc ms) {x : Nat} {off : Int} (hd : decode cc pc = .ok (.ifnull off, 3)) (hp : pc + 3 = pc') (kk : V X k n z h pc' lv st) : V X k n z h pc lv (.ref x :: st) := by
  subst hp
  exact V.s (fun H locs ls _ w => lv_ifnull hX.1 hX.2.1 hd w) kk
theorem V_ifnullN (hX : okX X cc nL own d mc ms) {off : Int} (hd : decode cc pc = .ok (.ifnull off, 3)) (ht : (pc : Int) + off = (pc' : Int)) (kk : V X k n z h pc' lv st) : V X k n z h pc lv (.null :: st) := V.s (fun H locs ls _ w => lv_ifnullN hX.1 hX.2.1 hd ht w) kk
theorem V_ifnonnull (hX : okX X cc nL own d mc ms) {x : Nat} {off : Int} (hd : decode cc pc = .ok (.ifnonnull off, 3)) (ht : (pc : Int) + off = (pc' : Int)) (kk : V X k n z h pc' lv st) : V X k n z h pc lv (.ref x :: st) := V.s (fun H locs ls _ w => lv_ifnonnull hX.1 hX.2.1 hd ht w) kk
theorem V_ifnonnullN (hX : okX X cc nL own d mc ms) {off : Int} (hd : decode cc pc = .ok (.ifnonnull off, 3)) (hp : pc + 3 = pc') (kk : V X k n z h pc' lv st) : V X k n z h pc lv (.null :: st) := by
  subst hp
  exact V.s (fun H locs ls _ w => lv_ifnonnullN hX.1 hX.2.1 hd w) kk
theorem V_tableIn (hX : okX X cc nL own d mc ms) {dflt lo hi : Int} {offs : Array Int} {len : Nat} {x : Int32} {off : Int} (hd : decode cc pc = .ok (.tableswitch dflt lo hi offs, len)) (h1 : ¬ x.toInt < lo) (h2 : ¬ hi < x.toInt) (ho : offs[(x.toInt - lo).toNat]? = some off) (ht : (pc : Int) + off = (pc' : Int)) (kk : V X k n z h pc' lv st) : V X k n z h pc lv (.int x :: st) := V.s (fun H locs ls _ w => lv_tableIn hX.1 hX.2.1 hd h1 h2 ho ht w) kk
theorem V_tableOut (hX : okX X cc nL own d mc ms) {dflt lo hi : Int} {offs : Array Int} {len : Nat} {x : Int32} (hd : decode cc pc = .ok (.tableswitch dflt lo hi offs, len)) (h1 : x.toInt < lo ∨ hi < x.toInt) (ht : (pc : Int) + dflt = (pc' : Int)) (kk : V X k n z h pc' lv st) : V X k n z h pc lv (.int x :: st) := V.s (fun H locs ls _ w => lv_tableOut hX.1 hX.2.1 hd h1 ht w) kk
theorem V_lookup (hX : okX X cc nL own d mc ms) {dflt : Int} {ps : Array (Int × Int)} {len : Nat} {x : Int32} {off : Int} (hd : decode cc pc = .ok (.lookupswitch dflt ps, len)) (hq : (ps.toList.zip (ps.toList.drop 1)).all (fun (a, next) => a.1 < next.1) = true) (ho : Op.lookupswitch.offset ps.toList dflt x.toInt = off) (ht : (pc : Int) + off = (pc' : Int)) (kk : V X k n z h pc' lv st) : V X k n z h pc lv (.int x :: st) := V.s (fun H locs ls _ w => lv_lookup hX.1 hX.2.1 hd hq ho ht w) kk
/-! fields -/
theorem hv.one {G : Gd} {H : Heap} {a : Nat} {e : va_E} (hh : hv G z h H) (ha : h a = some e) : va_P G.1 vwCl [(a, e)] H := fun k q hq => by
  match k, hq with
  | 0, hq => cases hq; exact hh.2 a e ha
  | k + 1, hq => simp at hq
theorem V_get (hX : okX X cc nL own d mc ms) {a ci index N : Nat} {C : String} {T : u_T} {fs : List Value} {v : Value} (hd : decode cc pc = .ok (.getfield index, 3)) (he : h a = some (.inr (ci, fs))) (hc : vwCl[ci]? = some (C, T, N)) (hin : ∀ w ∈ u_ws C T N, w ∈ GG) (i : Nat) (hi : i < N) (hw : Cond.fieldLink own index (T i).1 (T i).2.1 (T i).2.2.1 ∈ GG) (hf : fs[i]? = some v) (hp : pc + 3 = pc') (kk : V X k n z h pc' lv (v :: st)) : V X k n z h pc lv (.ref a :: st) := by
  subst hp
  exact fun hA H locs ls x b c => va_get hX.1 hX.2.1 hX.2.2.2.2.1 hin hX.2.2.2.1 hX.2.2.2.2.2.1.1 (x.one he) 0 rfl hc i hi (hX.2.2.2.2.1 _ hw) (fun _ h9 => h9) hf hd (kk hA H locs ls x b c)
theorem V_getN (hX : okX X cc nL own d mc ms) {a ci index N : Nat} {C host : String} {T : u_T} {fs : List Value} {v : Value} (hd : decode cc pc = .ok (.getfield index, 3)) (he : h a = some (.inr (ci, fs))) (hc : vwCl[ci]? = some (C, T, N)) (hin : ∀ w ∈ u_ws C T N, w ∈ GG) (i : Nat) (hi : i < N) (hw : Cond.fieldLinkNest own index (T i).1 (T i).2.1 (T i).2.2.1 host ∈ NNf) (hf : fs[i]? = some v) (hp : pc + 3 = pc') (kk : V X k n z h pc' lv (v :: st)) : V X k n z h pc lv (.ref a :: st) := by
  subst hp
  exact fun hA H locs ls x b c => va_getN hX.1 hX.2.1 hX.2.2.2.2.1 hin hX.2.2.2.1 hX.2.2.2.2.2.1.1 (x.one he) 0 rfl hc i hi (va_Nw.use rfl (hX.2.2.2.2.2.1.2.2.1 _ hw)) (fun _ h9 => h9) hf hd (kk hA H locs ls x b c)
theorem V_put (hX : okX X cc nL own d mc ms) {a ci index N : Nat} {C : String} {T : u_T} {fs fs' : List Value} {v : Value} {ty0 : Nat → FieldType} (hd : decode cc pc = .ok (.putfield index, 3)) (he : h a = some (.inr (ci, fs))) (hc : vwCl[ci]? = some (C, T, N)) (hin : ∀ w ∈ u_ws C T N, w ∈ GG) (hty : ∀ k, k < N → parseFieldDescriptor (T k).2.2.1 = some (ty0 k)) (hnm : ∀ a, a < N → ∀ b, b < N → a ≠ b → (T a).2.1 ≠ (T b).2.1) (i : Nat) (hi : i < N) (hw : Cond.fieldLink own index (T i).1 (T i).2.1 (T i).2.2.1 ∈ GG) (hfin : (T i).2.2.2 = false) {ty : FieldType} (hdt : parseFieldDescriptor (T i).2.2.1 = some ty) (hn : narrow ty v = v) (hfit : fits ty v = true) (hl : i < fs.length) (hfs : fs.set i v = fs') (hp : pc + 3 = pc') (kk : V X k n z (hup h a (.inr (ci, fs'))) pc' lv st) : V X k n z h pc lv (v :: .ref a :: st) := by
  subst hp; subst hfs
  intro hA H locs ls x b c
  have hts := hX.2.2.2.2.1
  have hK := hX.2.2.2.2.2.1.1
  have hap := va_apart (own := own) hts hin ty0 hty hnm hK hc
  obtain ⟨r, h1, cell, q1, q2, q3, q4⟩ := x.2 a _ he
  have hr : r = (C, T, N) := Option.some.inj (h1.symm.trans hc)
  subst hr
  obtain ⟨hS, hfc, kC, hkC, hkind⟩ := hK.1 ci _ hc
  obtain ⟨cf, kf, fi, f, hif, hsl⟩ := hS i hi
  have hlay := hts _ (hin _ (u_in_lay hi))
  unfold u_lay at hlay
  rw [if_neg (by rw [hfin]; decide)] at hlay
  have hst := (u_facts hfc hkC (u_lays hts hin hi) hif).1
  have h6 := u_store hfc hkC hkind hlay hif hdt hn hfit
  refine W.putK hX.1 hX.2.1 (f := f) ⟨hX.2.2.2.1, hts _ hw, ⟨_, _, _, hif⟩, hst⟩ (by rw [q2]; exact h6) q1 q3 (by rw [hsl]; exact k2_hasslot (q4 i hi)) rfl rfl hd fun H' e1 e2 e3 => ?_
  rw [hsl] at e1 ⊢
  have haA : X.A a := hA a _ he
  refine kk (fun q e hq => ?_) H' _ ls (x.set ⟨_, hc, t_OB.to (V := updV (vp_V fs) i v) ⟨_, e1, q2, q3, t_set q4 hap hi v⟩ (fun j _ => vp_updV_set hl v j)⟩ e2 e3) (b.put e2 e3 haA) c
  by_cases hqa : q = a
  · rw [hqa]; exact haA
  · rw [hup_n hqa] at hq; exact hA q e hq
theorem V_putF (hX : okX X cc nL own d mc ms) {a ci index N : Nat} {C : String} {T : u_T} {fs fs' : List Value} {v : Value} {ty0 : Nat → FieldType} (hd : decode cc pc = .ok (.putfield index, 3)) (hini : X.mt.name = "<init>") (he : h a = some (.inr (ci, fs))) (hc : vwCl[ci]? = some (C, T, N)) (hin : ∀ w ∈ u_ws C T N, w ∈ GG) (hty : ∀ k, k < N → parseFieldDescriptor (T k).2.2.1 = some (ty0 k)) (hnm : ∀ a, a < N → ∀ b, b < N → a ≠ b → (T a).2.1 ≠ (T b).2.1) (i : Nat) (hi : i < N) (hw : Cond.fieldLink own index (T i).1 (T i).2.1 (T i).2.2.1 ∈ GG) (hfin : (T i).2.2.2 = true) (hdecl : (T i).1 = own) {ty : FieldType} (hdt : parseFieldDescriptor (T i).2.2.1 = some ty) (hn : narrow ty v = v) (hfit : fits ty v = true) (hl : i < fs.length) (hfs : fs.set i v = fs') (hp : pc + 3 = pc') (kk : V X k n z (hup h a (.inr (ci, fs'))) pc' lv st) : V X k n z h pc lv (v :: .ref a :: st) := by
  subst hp; subst hfs
  intro hA H locs ls x b c
  have hts := hX.2.2.2.2.1
  have hK := hX.2.2.2.2.2.1.1
  have hown := hX.2.2.2.1
  have hap := va_apart (own := own) hts hin ty0 hty hnm hK hc
  obtain ⟨r, h1, cell, q1, q2, q3, q4⟩ := x.2 a _ he
  have hr : r = (C, T, N) := Option.some.inj (h1.symm.trans hc)
  subst hr
  obtain ⟨hS, hfc, kC, hkC, hkind⟩ := hK.1 ci _ hc
  obtain ⟨cf, kf, fi, f, hif, hsl⟩ := hS i hi
  have hlay := hts _ (hin _ (u_in_lay hi))
  unfold u_lay at hlay
  rw [if_pos hfin] at hlay
  have hst := (u_facts hfc hkC (u_lays hts hin hi) hif).1
  have hcf : X.m.cls = cf := by
    obtain ⟨_, _, c', _, _, _, -, -, hf', -, -, -, hown2, -⟩ := Cond.laysFinal_spec hlay
    have e1 : c' = cf := by have := hif.symm.trans hf'; simp at this; exact this.1.symm
    rw [hdecl] at hown2
    rw [← e1]; exact Option.some.inj (hown.symm.trans hown2)
  have h6 := u_fits hfc hkC hkind (Or.inr hlay) hif hdt hn hfit
  refine W.putFinK hX.1 hX.2.1 hown (hts _ hw) hif hst hcf hini (by rw [q2]; exact h6) q1 q3 (by rw [hsl]; exact k2_hasslot (q4 i hi)) rfl rfl hd fun H' e1 e2 e3 => ?_
  rw [hsl] at e1 ⊢
  have haA : X.A a := hA a _ he
  refine kk (fun q e hq => ?_) H' _ ls (x.set ⟨_, hc, t_OB.to (V := updV (vp_V fs) i v) ⟨_, e1, q2, q3, t_set q4 hap hi v⟩ (fun j _ => vp_updV_set hl v j)⟩ e2 e3) (b.put e2 e3 haA) c
  by_cases hqa : q = a
  · rw [hqa]; exact haA
  · rw [hup_n hqa] at hq; exact hA q e hq
theorem V.upd {a : Nat} {e0 e : va_E} (he : h a = some e0) (hA : ∀ (q : Nat) (e : va_E), h q = some e → X.A q) : ∀ (q : Nat) (e1 : va_E), hup h a e q = some e1 → X.A q := by
  intro q e1 hq
  by_cases hqa : q = a
  · rw [hqa]; exact hA a _ he
  · rw [hup_n hqa] at hq; exact hA q e1 hq
/-! arrays -/
theorem okX.arr (hX : okX X cc nL own d mc ms) (j : Nat) {cA : ClassId} {ty : FieldType} (hj : (tysG X.G)[j]? = some (cA, ty)) : ArrOfT X.s cA ty ∧ va_RA X.s cA ty := hX.2.2.2.2.2.1.1.2 j _ hj
theorem V_alen (hX : okX X cc nL own d mc ms) {a : Nat} {cA : ClassId} {x : vp_A} {ty : FieldType} (j : Nat) (hj : (tysG X.G)[j]? = some (cA, ty)) (hd : decode cc pc = .ok (.arraylength, 1)) (ha : h a = some (.inl (cA, x))) {v : Int32} (hv : Int32.ofNat x.1 = v) (hp : pc + 1 = pc') (kk : V X k n z h pc' lv (.int v :: st)) : V X k n z h pc lv (.ref a :: st) := by
  subst hp
  exact fun hA H locs ls x b c => va_alen hX.1 hX.2.1 hX.2.2.2.2.2.1.1 (x.one ha) 0 j rfl hj hv hd (kk hA H locs ls x b c)
theorem V_iald (hX : okX X cc nL own d mc ms) {a N : Nat} {f : Nat → Int32} {i : Int32} (hd : decode cc pc = .ok (.iaload, 1)) (ha : h a = some (oI X.G N f)) (hi : vp_in i N) (hp : pc + 1 = pc') (kk : V X k n z h pc' lv (.int (f i.toNatClampNeg) :: st)) : V X k n z h pc lv (.int i :: .ref a :: st) := by
  subst hp
  exact fun hA H locs ls x b c => va_iald hX.1 hX.2.1 hX.2.2.2.2.2.1.1 (x.one ha) 0 0 rfl rfl hi hd (kk hA H locs ls x b c)
theorem V_zald (hX : okX X cc nL own d mc ms) {a N : Nat} {f : Nat → Int32} {i : Int32} (hd : decode cc pc = .ok (.baload, 1)) (ha : h a = some (oZ X.G N f)) (hi : vp_in i N) (hp : pc + 1 = pc') (kk : V X k n z h pc' lv (.int (f i.toNatClampNeg) :: st)) : V X k n z h pc lv (.int i :: .ref a :: st) := by
  subst hp
  exact fun hA H locs ls x b c => va_zald hX.1 hX.2.1 hX.2.2.2.2.2.1.1 (x.one ha) 0 2 rfl rfl hi hd (kk hA H locs ls x b c)
theorem V_lald (hX : okX X cc nL own d mc ms) {a N : Nat} {f : Nat → Int64} {i : Int32} (hd : decode cc pc = .ok (.laload, 1)) (ha : h a = some (oJ X.G N f)) (hi : vp_in i N) (hp : pc + 1 = pc') (kk : V X k n z h pc' lv (.long (f i.toNatClampNeg) :: st)) : V X k n z h pc lv (.int i :: .ref a :: st) := by
  subst hp
  exact fun hA H locs ls x b c => va_lald hX.1 hX.2.1 hX.2.2.2.2.2.1.1 (x.one ha) 0 1 rfl rfl hi hd (kk hA H locs ls x b c)
theorem V_aald (hX : okX X cc nL own d mc ms) {a N : Nat} {f : Nat → Option Nat} {i : Int32} (hd : decode cc pc = .ok (.aaload, 1)) (ha : h a = some (oN X.G N f)) (hi : vp_in i N) (hp : pc + 1 = pc') (kk : V X k n z h pc' lv (va_rf (f i.toNatClampNeg) :: st)) : V X k n z h pc lv (.int i :: .ref a :: st) := by
  subst hp
  exact fun hA H locs ls x b c => va_aldq hX.1 hX.2.1 hX.2.2.2.2.2.1.1 (x.one ha) 0 3 rfl rfl hi hd (kk hA H locs ls x b c)
theorem V_iast (hX : okX X cc nL own d mc ms) {a N : Nat} {f : Nat → Int32} {i v : Int32} (hd : decode cc pc = .ok (.iastore, 1)) (ha : h a = some (oI X.G N f)) (hi : vp_in i N) (hp : pc + 1 = pc') (kk : V X k n z (hup h a (oI X.G N (upd f i.toNatClampNeg v))) pc' lv st) : V X k n z h pc lv (.int v :: .int i :: .ref a :: st) := by
  subst hp
  intro hA H locs ls x b c
  have harr := (hX.arr 0 rfl).1
  refine W.iast hX.1 hX.2.1 (x.2 _ _ ha) (harr N (fun j => .int (f j))) (fun q => by cases q) (by show ¬ (i < 0 ∨ (arrV _ _ _).slots.size ≤ _); rw [arrV_size]; exact hi) rfl rfl hd fun H1 e z1 oq => ?_
  refine kk (V.upd ha hA) H1 _ ls (x.set ?_ z1 oq) (b.put z1 oq (hA _ _ ha)) c
  show H1[a]? = some (vp_cell _ _)
  rw [e]
  rw [vp_cell_i, vp_cell_i, arrV_store]
  congr 2
  funext q
  by_cases hq : q = i.toNatClampNeg
  · subst hq
    simp [updV, upd]
  · simp [updV, upd, hq]
theorem V_zast (hX : okX X cc nL own d mc ms) {a N : Nat} {f : Nat → Int32} {i v : Int32} (hd : decode cc pc = .ok (.bastore, 1)) (ha : h a = some (oZ X.G N f)) (hi : vp_in i N) (hnv : narrow .boolean (.int v) = .int v) (hp : pc + 1 = pc') (kk : V X k n z (hup h a (oZ X.G N (upd f i.toNatClampNeg v))) pc' lv st) : V X k n z h pc lv (.int v :: .int i :: .ref a :: st) := by
  subst hp
  intro hA H locs ls x b c
  have harr := (hX.arr 2 rfl).1
  refine W.zast hX.1 hX.2.1 (x.2 _ _ ha) (harr N (fun j => .int (f j))) (fun q => by cases q) (by show ¬ (i < 0 ∨ (arrV _ _ _).slots.size ≤ _); rw [arrV_size]; exact hi) rfl rfl hd fun H1 e z1 oq => ?_
  refine kk (V.upd ha hA) H1 _ ls (x.set ?_ z1 oq) (b.put z1 oq (hA _ _ ha)) c
  show H1[a]? = some (vp_cell _ _)
  rw [e, hnv]
  rw [vp_cell_i, vp_cell_i, arrV_store]
  congr 2
  funext q
  by_cases hq : q = i.toNatClampNeg
  · subst hq
    simp [updV, upd]
  · simp [updV, upd, hq]
theorem V_last (hX : okX X cc nL own d mc ms) {a N : Nat} {f : Nat → Int64} {i : Int32} {v : Int64} (hd : decode cc pc = .ok (.lastore, 1)) (ha : h a = some (oJ X.G N f)) (hi : vp_in i N) (hp : pc + 1 = pc') (kk : V X k n z (hup h a (oJ X.G N (vp_updL f i.toNatClampNeg v))) pc' lv st) : V X k n z h pc lv (.long v :: .int i :: .ref a :: st) := by
  subst hp
  intro hA H locs ls x b c
  have harr := (hX.arr 1 rfl).1
  refine W.last hX.1 hX.2.1 (x.2 _ _ ha) (harr N (fun j => .long (f j))) (fun q => by cases q) (by show ¬ (i < 0 ∨ (arrV _ _ _).slots.size ≤ _); rw [arrV_size]; exact hi) rfl rfl hd fun H1 e z1 oq => ?_
  refine kk (V.upd ha hA) H1 _ ls (x.set ?_ z1 oq) (b.put z1 oq (hA _ _ ha)) c
  show H1[a]? = some (vp_cell _ _)
  rw [e]
  rw [vp_cell_l, vp_cell_l, arrV_store]
  congr 2
  funext q
  by_cases hq : q = i.toNatClampNeg
  · subst hq
    simp [updV, vp_updL]
  · simp [updV, vp_updL, hq]
theorem V_aast (hX : okX X cc nL own d mc ms) {a N v : Nat} {f : Nat → Option Nat} {i : Int32} {vs : List Value} (hd : decode cc pc = .ok (.aastore, 1)) (ha : h a = some (oN X.G N f)) (hv : h v = some (.inr (3, vs))) (hi : vp_in i N) (hp : pc + 1 = pc') (kk : V X k n z (hup h a (oN X.G N (va_up f i.toNatClampNeg (some v)))) pc' lv st) : V X k n z h pc lv (.ref v :: .int i :: .ref a :: st) := by
  subst hp
  intro hA H locs ls x b c
  have hlt : i.toNatClampNeg < N := Nat.not_le.mp fun q => hi (Or.inr q)
  have h0 : ¬ i < 0 := fun q => hi (Or.inl q)
  obtain ⟨r', hr', cellV, g1, g2, g3, -⟩ := x.2 _ _ hv
  have hcls := (hX.2.2.2.2.2.1.1.1 3 (RX3, TX3, 4) rfl).2
  obtain ⟨kA, comp, k1, k2, k3, -⟩ := (hX.arr 3 rfl).2
  have hcomp : comp = X.G.1.1 3 := Option.some.inj (k3.symm.trans hcls.1)
  subst hcomp
  obtain ⟨kC, hkC, -⟩ := hcls.2
  refine W.aast hX.1 hX.2.1 (x.2 _ _ ha) (fun q h => by cases h) (fun h => by cases h) k1 k2 rfl hkC ⟨h0, by show _ < (arrV _ _ _).slots.size; rw [arrV_size]; exact hlt⟩ g1 (fun q h => by rw [g3] at h; cases h) (by rw [g2]; exact hkC) (by rw [g2]; exact va_assign hcls) rfl rfl hd fun H1 e z1 oq => ?_
  refine kk (V.upd ha hA) H1 _ ls (x.set ?_ z1 oq) (b.put z1 oq (hA _ _ ha)) c
  show H1[a]? = some (vp_cell _ _)
  rw [e]
  rw [vp_cell_q, vp_cell_q, arrV_store]
  congr 2
  funext q
  by_cases hq : q = i.toNatClampNeg
  · subst hq
    simp [updV, va_up, va_rf]
  · simp [updV, va_up, hq]
theorem V_aastN (hX : okX X cc nL own d mc ms) {a N : Nat} {f : Nat → Option Nat} {i : Int32} (hd : decode cc pc = .ok (.aastore, 1)) (ha : h a = some (oN X.G N f)) (hi : vp_in i N) (hp : pc + 1 = pc') (kk : V X k n z (hup h a (oN X.G N (va_up f i.toNatClampNeg none))) pc' lv st) : V X k n z h pc lv (.null :: .int i :: .ref a :: st) := by
  subst hp
  intro hA H locs ls x b c
  have harr := (hX.arr 3 rfl).1
  refine va_WaastN (C := "PairSieve$NumberSet") hX.1 hX.2.1 (x.2 _ _ ha) (harr N (fun j => va_rf (f j))) (fun h => by cases h) (by show ¬ (i < 0 ∨ (arrV _ _ _).slots.size ≤ _); rw [arrV_size]; exact hi) rfl rfl hd fun H1 e z1 oq => ?_
  refine kk (V.upd ha hA) H1 _ ls (x.set ?_ z1 oq) (b.put z1 oq (hA _ _ ha)) c
  show H1[a]? = some (vp_cell _ _)
  rw [e]
  rw [vp_cell_q, vp_cell_q, arrV_store]
  congr 2
  funext q
  by_cases hq : q = i.toNatClampNeg
  · subst hq
    simp [updV, va_up, va_rf]
  · simp [updV, va_up, hq]
theorem V.born {e : va_E} (hz : X.A z) (hA : ∀ (q : Nat) (e : va_E), h q = some e → X.A q) : ∀ (q : Nat) (e1 : va_E), hup h z e q = some e1 → X.A q := by
  intro q e1 hq
  by_cases hqa : q = z
  · rw [hqa]; exact hz
  · rw [hup_n hqa] at hq; exact hA q e1 hq
theorem va_S.grow {A : Nat → Prop} {H0 H H1 : Heap} {locs : List Loc} {z : Nat} (b : va_S A H0 H locs) (hz : H.size = z) (z1 : H1.size = z + 1) (o1 : ∀ q : Nat, q < z → H1[q]? = H[q]?) : va_S A H0 H1 locs :=
  ⟨Nat.le_trans b.1 (by omega), fun q h1 h2 => (o1 q (by have := b.1; omega)).trans (b.2.1 q h1 h2), b.2.2⟩
theorem V_new (hX : okX X cc nL own d mc ms) {ci index N : Nat} {C : String} {T : u_T} {ty0 : Nat → FieldType} {fs : List Value} (hd : decode cc pc = .ok (.new index, 3)) (hc : vwCl[ci]? = some (C, T, N)) (hin : ∀ w ∈ u_ws C T N, w ∈ GG) (hty : ∀ k, k < N → parseFieldDescriptor (T k).2.2.1 = some (ty0 k)) (hw1 : Cond.classLink own index C ∈ GG) (hw2 : Cond.instantiable C N ∈ GG) (hw3 : Cond.initialized C ∈ GG) (hfs : ∀ j, j < N → defaultValue (ty0 j) = vp_V fs j) (hk : k + 1 ≤ mc) (hn : n + N ≤ ms) (hp : pc + 3 = pc') (kk : V X (k + 1) (n + N) (z + 1) (hup h z (.inr (ci, fs))) pc' lv (.ref z :: st)) : V X k n z h pc lv st := by
  subst hp
  intro hA H locs ls x b c
  have hts := hX.2.2.2.2.1
  have hK := hX.2.2.2.2.2.1.1
  obtain ⟨-, -, hmc, hms⟩ := hX.2.2.2.2.2.2.2.1
  have hKn := hK.1 ci _ hc
  refine W.newcK hX.1 hX.2.1 hX.2.2.2.1 (hts _ hw1) (hts _ hw2) (hts _ hw3) rfl hd (by omega) (by omega) hKn.2.1 x.1 fun H1 kC hkC e1 z1 o1 => ?_
  have hAz : X.A z := hX.2.2.2.2.2.2.1 z (by have := b.1; have := x.1; omega)
  exact kk (V.born hAz hA) H1 locs ls (x.push ⟨_, hc, (u_born ty0 hts hin hKn hkC e1 hty).to hfs⟩ z1 o1) (b.grow x.1 z1 o1) c
theorem V_newI (hX : okX X cc nL own d mc ms) {i : Int32} {N : Nat} (hd : decode cc pc = .ok (.newarray .int, 2)) (hw : Cond.arrayClass .int ∈ GG) (hi : ¬ i < 0) (hN : i.toNatClampNeg = N) (hsm : N ≤ 100000) (hk : k + 1 ≤ mc) (hn : n + N ≤ ms) (hp : pc + 2 = pc') (kk : V X (k + 1) (n + N) (z + 1) (hup h z (oI X.G N (fun _ => 0))) pc' lv (.ref z :: st)) : V X k n z h pc lv (.int i :: st) := by
  subst hp
  intro hA H locs ls x b c
  have hts := hX.2.2.2.2.1
  obtain ⟨-, -, hmc, hms⟩ := hX.2.2.2.2.2.2.2.1
  refine va_newaK (atype := .int) hX.1 hX.2.1 (hts _ hw) rfl hd rfl hi hN (by simp [newarray.typeOf, componentBytes]; omega) (by omega) (by omega) x.1 fun H1 cA e1 z1 o1 hAr hNm => ?_
  have hAz : X.A z := hX.2.2.2.2.2.2.1 z (by have := b.1; have := x.1; omega)
  have hcA : cA = X.G.2 0 := Option.some.inj (hNm.symm.trans (hX.arr 0 rfl).2)
  subst hcA
  exact kk (V.born hAz hA) H1 locs ls (x.push (by show H1[z]? = some (vp_cell _ _); rw [vp_cell_i]; exact e1) z1 o1) (b.grow x.1 z1 o1) c
theorem V_newJ (hX : okX X cc nL own d mc ms) {i : Int32} {N : Nat} (hd : decode cc pc = .ok (.newarray .long, 2)) (hw : Cond.arrayClass .long ∈ GG) (hi : ¬ i < 0) (hN : i.toNatClampNeg = N) (hsm : N ≤ 100000) (hk : k + 1 ≤ mc) (hn : n + N ≤ ms) (hp : pc + 2 = pc') (kk : V X (k + 1) (n + N) (z + 1) (hup h z (oJ X.G N (fun _ => 0))) pc' lv (.ref z :: st)) : V X k n z h pc lv (.int i :: st) := by
  subst hp
  intro hA H locs ls x b c
  have hts := hX.2.2.2.2.1
  obtain ⟨-, -, hmc, hms⟩ := hX.2.2.2.2.2.2.2.1
  refine va_newaK (atype := .long) hX.1 hX.2.1 (hts _ hw) rfl hd rfl hi hN (by simp [newarray.typeOf, componentBytes]; omega) (by omega) (by omega) x.1 fun H1 cA e1 z1 o1 hAr hNm => ?_
  have hAz : X.A z := hX.2.2.2.2.2.2.1 z (by have := b.1; have := x.1; omega)
  have hcA : cA = X.G.2 1 := Option.some.inj (hNm.symm.trans (hX.arr 1 rfl).2)
  subst hcA
  exact kk (V.born hAz hA) H1 locs ls (x.push (by show H1[z]? = some (vp_cell _ _); rw [vp_cell_l]; exact e1) z1 o1) (b.grow x.1 z1 o1) c
theorem V_newZ (hX : okX X cc nL own d mc ms) {i : Int32} {N : Nat} (hd : decode cc pc = .ok (.newarray .boolean, 2)) (hw : Cond.arrayClass .boolean ∈ GG) (hi : ¬ i < 0) (hN : i.toNatClampNeg = N) (hsm : N ≤ 100000) (hk : k + 1 ≤ mc) (hn : n + N ≤ ms) (hp : pc + 2 = pc') (kk : V X (k + 1) (n + N) (z + 1) (hup h z (oZ X.G N (fun _ => 0))) pc' lv (.ref z :: st)) : V X k n z h pc lv (.int i :: st) := by
  subst hp
  intro hA H locs ls x b c
  have hts := hX.2.2.2.2.1
  obtain ⟨-, -, hmc, hms⟩ := hX.2.2.2.2.2.2.2.1
  refine va_newaK (atype := .boolean) hX.1 hX.2.1 (hts _ hw) rfl hd rfl hi hN (by simp [newarray.typeOf, componentBytes]; omega) (by omega) (by omega) x.1 fun H1 cA e1 z1 o1 hAr hNm => ?_
  have hAz : X.A z := hX.2.2.2.2.2.2.1 z (by have := b.1; have := x.1; omega)
  have hcA : cA = X.G.2 2 := Option.some.inj (hNm.symm.trans (hX.arr 2 rfl).2)
  subst hcA
  exact kk (V.born hAz hA) H1 locs ls (x.push (by show H1[z]? = some (vp_cell _ _); rw [vp_cell_i]; exact e1) z1 o1) (b.grow x.1 z1 o1) c
theorem V_newN (hX : okX X cc nL own d mc ms) {i : Int32} {N index : Nat} (hd : decode cc pc = .ok (.anewarray index, 3)) (hw : Cond.classLink own index "PairSieve$NumberSet" ∈ GG) (hi : ¬ i < 0) (hN : i.toNatClampNeg = N) (hsm : N ≤ 100000) (hk : k + 1 ≤ mc) (hn : n + N ≤ ms) (hp : pc + 3 = pc') (kk : V X (k + 1) (n + N) (z + 1) (hup h z (oN X.G N (fun _ => none))) pc' lv (.ref z :: st)) : V X k n z h pc lv (.int i :: st) := by
  subst hp; subst hN
  intro hA H locs ls x b c
  have hts := hX.2.2.2.2.1
  obtain ⟨-, -, hmc, hms⟩ := hX.2.2.2.2.2.2.2.1
  refine W.anew hX.1 hX.2.1 hX.2.2.2.1 (hts _ hw) (va_AO.use hX.2.2.2.2.2.1.2.1) rfl hd rfl hi (by omega) (by omega) (by omega) fun cA kA comp f1 f2 f3 f4 => ?_
  obtain ⟨hz, -⟩ := id x
  generalize hH1 : H.push ({ cls := cA, slots := Array.replicate i.toNatClampNeg .null, vm := .none } : Cell) = H1
  have z1 : H1.size = z + 1 := by rw [← hH1, Array.size_push, hz]
  have e1 : H1[z]? = some (arrV cA i.toNatClampNeg (fun _ => .null)) := by rw [← hH1, ← hz, Array.getElem?_push_size, ← arrV_new]
  have o1 : ∀ q : Nat, q < z → H1[q]? = H[q]? := fun q hq => by rw [← hH1, Array.getElem?_push, if_neg (by omega)]
  have hAz : X.A z := hX.2.2.2.2.2.2.1 z (by have := b.1; omega)
  obtain ⟨kA2, comp2, g1, g2, g3, g4⟩ := (hX.arr 3 rfl).2
  have hcA : cA = X.G.2 3 := Option.some.inj (f1.symm.trans g4)
  subst hcA
  show XW X H1 locs (k + 1) (n + i.toNatClampNeg) (F0 X.m (pc + 3) ls (.ref H.size :: st))
  rw [hz]
  exact kk (V.born hAz hA) H1 locs ls (x.push (by show H1[z]? = some (vp_cell _ _); rw [vp_cell_q]; exact e1) z1 o1) (b.grow x.1 z1 o1) c
theorem V_objInit (hX : okX X cc nL own d mc ms) {a idx : Nat} (hd : decode cc pc = .ok (.invokespecial idx, 3)) (hw1 : Cond.methodLink own idx objectInit ∈ GG) (hw2 : Cond.instanceMethod objectInit ∈ GG) (hw3 : Cond.code objectInit ⟨#[0xb1]⟩ 1 none ∈ GG) (hdd : 1 ≤ d) (hl : lv.length = nL) (hs : st = []) (hp : pc + 3 = pc') (kk : V X k n z h pc' lv st) : V X k n z h pc lv (.ref a :: st) := by
  subst hp; subst hs
  intro hA H locs ls x b c
  obtain ⟨h1, h2, -, -⟩ := hX.2.2.2.2.2.2.2.1
  have hts := hX.2.2.2.2.1
  exact W.objInit hX.1 hX.2.1 hX.2.2.2.1 (hts _ hw1) (hts _ hw2) (hts _ hw3) rfl (by rw [hX.2.2.1, ← hl]; exact c.1) rfl hd (by omega) (by show 2 * 0 + 0 + 12 ≤ _; omega) (kk hA H locs ls x b c)
theorem V_min (hX : okX X cc nL own d mc ms) {idx : Nat} {x y : Int32} (hd : decode cc pc = .ok (.invokestatic idx, 3)) (hw1 : Cond.methodLink own idx Lib.Math.min.name ∈ GG) (hdd : 1 ≤ d) (hk : k ≤ mc) (hn : n ≤ ms) (hl : lv.length = nL) (hs : (st.map fun v => v.category).sum ≤ 8) (hp : pc + 3 = pc') (kk : V X k n z h pc' lv (.int (if y < x then y else x) :: st)) : V X k n z h pc lv (.int y :: .int x :: st) := by
  subst hp
  intro hA H locs ls u b c
  obtain ⟨h1, h2, h3, h4⟩ := hX.2.2.2.2.2.2.2.1
  have hts := hX.2.2.2.2.1
  exact va_mmin hX.1 hX.2.1 (by rw [hX.2.2.1, ← hl]; exact c.1.symm) hX.2.2.2.1 (hts _ hw1) (hts _ wS_J9_min_7cf53) (hts _ wN_J9) (hts _ wC_J9_min_7cf53) (by omega) (by omega) (by omega) (by omega) hd (kk hA H locs ls u b c)
theorem V_minL (hX : okX X cc nL own d mc ms) {idx : Nat} {x y : Int64} (hd : decode cc pc = .ok (.invokestatic idx, 3)) (hw1 : Cond.methodLink own idx Lib.MathLoose.min_long.x ∈ GG) (hdd : 1 ≤ d) (hk : k ≤ mc) (hn : n ≤ ms) (hl : lv.length = nL) (hs : (st.map fun v => v.category).sum ≤ 8) (hp : pc + 3 = pc') (kk : V X k n z h pc' lv (.long (if y < x then y else x) :: st)) : V X k n z h pc lv (.long y :: .long x :: st) := by
  subst hp
  intro hA H locs ls u b c
  obtain ⟨h1, h2, h3, h4⟩ := hX.2.2.2.2.2.2.2.1
  have hts := hX.2.2.2.2.1
  exact va_mmin_long hX.1 hX.2.1 (by rw [hX.2.2.1, ← hl]; exact c.1.symm) hX.2.2.2.1 (hts _ hw1) (hts _ wS_J9_min_f86c9) (hts _ wN_J9) (hts _ wC_J9_min_f86c9) (by omega) (by omega) (by omega) (by omega) hd (kk hA H locs ls u b c)
theorem va_S.copy {A : Nat → Prop} {H0 H H1 : Heap} {locs L : List Loc} {a : Nat} (b : va_S A H0 H locs) (z1 : H1.size = H.size) (oq : ∀ q : Nat, q ≠ a → H1[q]? = H[q]?) (ha : A a) (hL : ∀ q ∈ L, q.base = a) : va_S A H0 H1 (locs ++ L) := by
  refine ⟨by rw [z1]; exact b.1, fun q g1 g2 => ?_, fun q hq => ?_⟩
  · rw [oq q (fun e => g2 (by rw [e]; exact ha))]
    exact b.2.1 q g1 g2
  · rcases List.mem_append.mp hq with h | h
    · exact b.2.2 q h
    · rw [hL q h]; exact ha
/-- System.arraycopy over ints, its stretch within both -/
theorem V_copyI (hX : okX X cc nL own d mc ms) {a0 a1 n0 n1 idx : Nat} {f g : Nat → Int32} {sp dp m : Nat} (hd : decode cc pc = .ok (.invokestatic idx, 3)) (hw1 : Cond.methodLink own idx arraycopyName ∈ GG) (ha0 : h a0 = some (oI X.G n0 f)) (ha1 : h a1 = some (oI X.G n1 g)) (hb0 : n0 < 100000) (hb1 : n1 < 100000) (h4 : sp + m ≤ n0) (h5 : dp + m ≤ n1) (hdd : 1 ≤ d) (hl : lv.length = nL) (hs : (st.map fun v => v.category).sum ≤ 8) (hp : pc + 3 = pc') (kk : V X k n z (hup h a1 (oI X.G n1 (va_cpy f g sp dp m))) pc' lv st) : V X k n z h pc lv (.int (nI m) :: .int (nI dp) :: .ref a1 :: .int (nI sp) :: .ref a0 :: st) := by
  subst hp
  intro hA H locs ls x b c
  obtain ⟨r1, r2, -, -⟩ := hX.2.2.2.2.2.2.2.1
  have hts := hX.2.2.2.2.1
  have hsp : sp < 2 ^ 31 := by omega
  have hdp : dp < 2 ^ 31 := by omega
  have hm : m < 2 ^ 31 := by omega
  have hc0 : H[a0]? = some (vp_cell (X.G.2 0) (n0, .inl f)) := x.2 _ _ ha0
  have hc1 : H[a1]? = some (vp_cell (X.G.2 0) (n1, .inl g)) := x.2 _ _ ha1
  have harr := (hX.arr 0 rfl).1
  intro T hT Y
  obtain ⟨-, k0, hk0, cm0, hkk0⟩ := harr n0 (fun j => .int (f j))
  obtain ⟨-, k1, hk1, cm1, hkk1⟩ := harr n1 (fun j => .int (g j))
  obtain ⟨vm', Y', step⟩ := Y.arraycopy hX.1 hX.2.2.2.1 (hts _ hw1) (hts _ wV_arraycopy) (hts _ wS_arraycopy) (hts _ wN_J10) (src := a0) (dst := a1) (cs := vp_cell (X.G.2 0) (n0, .inl f)) (cd := vp_cell (X.G.2 0) (n1, .inl g)) (srcPos := nI sp) (destPos := nI dp) (n := nI m) (by rw [hT]; exact hc0) (by rw [hT]; exact hc1)
    (fun _ h => by cases h) (fun _ h => by cases h) (fun h => by cases h) (fun h => by cases h) hk0 hk1 hkk0 hkk1 (by simp [refKind]) (nI_pos hsp) (nI_pos hdp) (nI_pos hm)
    (by rw [nI_toInt hsp, nI_toInt hm]; show ¬ _ > ((arrV (X.G.2 0) n0 (fun j => .int (f j))).slots.size : Int); rw [arrV_size]; omega)
    (by rw [nI_toInt hdp, nI_toInt hm]; show ¬ _ > ((arrV (X.G.2 0) n1 (fun j => .int (g j))).slots.size : Int); rw [arrV_size]; omega)
    (fun vm₁ _ i hi => by
      rw [nI_clamp hm] at hi
      have e : (vp_cell (X.G.2 0) (n0, .inl f)).slots.getD ((nI sp).toNatClampNeg + i) .null = .int (f (sp + i)) := by
        show (arrV (X.G.2 0) n0 (fun j => .int (f j))).slots.getD _ _ = _
        rw [nI_clamp hsp, Array.getD_eq_getD_getElem?, arrV_read _ _ (by omega)]
        rfl
      refine ⟨?_, ?_⟩
      · rw [e]; rfl
      · rw [e]; exact trivial)
    (g := F0 X.m pc ls (.int (nI m) :: .int (nI dp) :: .ref a1 :: .int (nI sp) :: .ref a0 :: st)) rfl (by rw [hX.2.2.1, ← hl]; exact c.1) (rest := st) rfl (by rw [hX.2.1]; exact hd) (by omega) (by show 2 * 0 + _ + _ ≤ _; have : nativeFrameWords "java/lang/System" "arraycopy" 5 + 11 ≤ 32 := (by decide); omega)
  have e1 : copied (vp_cell (X.G.2 0) (n0, .inl f)) (vp_cell (X.G.2 0) (n1, .inl g)) (nI sp) (nI dp) (nI m) = vp_cell (X.G.2 0) (n1, .inl (va_cpy f g sp dp m)) := by
    have := va_copied (n1 := n1) (dp := (nI dp).toNatClampNeg) (fun z => Value.int z) (X.G.2 0) (X.G.2 0) f g (show (nI sp).toNatClampNeg + (nI m).toNatClampNeg ≤ n0 by rw [nI_clamp hsp, nI_clamp hm]; exact h4)
    rw [nI_clamp hsp, nI_clamp hdp, nI_clamp hm] at this
    unfold copied
    rw [nI_clamp hsp, nI_clamp hdp, nI_clamp hm]
    exact this
  rw [e1] at Y' step
  have hl1 : a1 < H.size := (Array.getElem?_eq_some_iff.mp hc1).1
  generalize hce : vp_cell (X.G.2 0) (n1, .inl (va_cpy f g sp dp m)) = ce at Y' step
  have hheap : ((T.setVm vm').setCell a1 ce).heap = H.setIfInBounds a1 ce := by rw [← hT]; rfl
  have oq : ∀ q : Nat, q ≠ a1 → (H.setIfInBounds a1 ce)[q]? = H[q]? := fun q hq => by simp [Array.getElem?_setIfInBounds, Ne.symm hq]
  obtain ⟨t, u1, u2⟩ := kk (V.upd ha1 hA) (H.setIfInBounds a1 ce) _ ls (x.set (by show (H.setIfInBounds a1 ce)[a1]? = some (vp_cell _ _); rw [hce]; simp [Array.getElem?_setIfInBounds, hl1]) (by simp) oq) (b.copy (by simp) oq (hA _ _ ha1) (fun q hq => by
    obtain ⟨w, -, hw⟩ := List.mem_map.mp hq
    rw [← hw])) c _ hheap Y'
  exact ⟨t, step t u1, u2⟩
/-- System.arraycopy over longs, its stretch within both -/
theorem V_copyJ (hX : okX X cc nL own d mc ms) {a0 a1 n0 n1 idx : Nat} {f g : Nat → Int64} {sp dp m : Nat} (hd : decode cc pc = .ok (.invokestatic idx, 3)) (hw1 : Cond.methodLink own idx arraycopyName ∈ GG) (ha0 : h a0 = some (oJ X.G n0 f)) (ha1 : h a1 = some (oJ X.G n1 g)) (hb0 : n0 < 100000) (hb1 : n1 < 100000) (h4 : sp + m ≤ n0) (h5 : dp + m ≤ n1) (hdd : 1 ≤ d) (hl : lv.length = nL) (hs : (st.map fun v => v.category).sum ≤ 8) (hp : pc + 3 = pc') (kk : V X k n z (hup h a1 (oJ X.G n1 (va_cpy f g sp dp m))) pc' lv st) : V X k n z h pc lv (.int (nI m) :: .int (nI dp) :: .ref a1 :: .int (nI sp) :: .ref a0 :: st) := by
  subst hp
  intro hA H locs ls x b c
  obtain ⟨r1, r2, -, -⟩ := hX.2.2.2.2.2.2.2.1
  have hts := hX.2.2.2.2.1
  have hsp : sp < 2 ^ 31 := by omega
  have hdp : dp < 2 ^ 31 := by omega
  have hm : m < 2 ^ 31 := by omega
  have hc0 : H[a0]? = some (vp_cell (X.G.2 1) (n0, .inr (.inl f))) := x.2 _ _ ha0
  have hc1 : H[a1]? = some (vp_cell (X.G.2 1) (n1, .inr (.inl g))) := x.2 _ _ ha1
  have harr := (hX.arr 1 rfl).1
  intro T hT Y
  obtain ⟨-, k0, hk0, cm0, hkk0⟩ := harr n0 (fun j => .long (f j))
  obtain ⟨-, k1, hk1, cm1, hkk1⟩ := harr n1 (fun j => .long (g j))
  obtain ⟨vm', Y', step⟩ := Y.arraycopy hX.1 hX.2.2.2.1 (hts _ hw1) (hts _ wV_arraycopy) (hts _ wS_arraycopy) (hts _ wN_J10) (src := a0) (dst := a1) (cs := vp_cell (X.G.2 1) (n0, .inr (.inl f))) (cd := vp_cell (X.G.2 1) (n1, .inr (.inl g))) (srcPos := nI sp) (destPos := nI dp) (n := nI m) (by rw [hT]; exact hc0) (by rw [hT]; exact hc1)
    (fun _ h => by cases h) (fun _ h => by cases h) (fun h => by cases h) (fun h => by cases h) hk0 hk1 hkk0 hkk1 (by simp [refKind]) (nI_pos hsp) (nI_pos hdp) (nI_pos hm)
    (by rw [nI_toInt hsp, nI_toInt hm]; show ¬ _ > ((arrV (X.G.2 1) n0 (fun j => .long (f j))).slots.size : Int); rw [arrV_size]; omega)
    (by rw [nI_toInt hdp, nI_toInt hm]; show ¬ _ > ((arrV (X.G.2 1) n1 (fun j => .long (g j))).slots.size : Int); rw [arrV_size]; omega)
    (fun vm₁ _ i hi => by
      rw [nI_clamp hm] at hi
      have e : (vp_cell (X.G.2 1) (n0, .inr (.inl f))).slots.getD ((nI sp).toNatClampNeg + i) .null = .long (f (sp + i)) := by
        show (arrV (X.G.2 1) n0 (fun j => .long (f j))).slots.getD _ _ = _
        rw [nI_clamp hsp, Array.getD_eq_getD_getElem?, arrV_read _ _ (by omega)]
        rfl
      refine ⟨?_, ?_⟩
      · rw [e]; rfl
      · rw [e]; exact trivial)
    (g := F0 X.m pc ls (.int (nI m) :: .int (nI dp) :: .ref a1 :: .int (nI sp) :: .ref a0 :: st)) rfl (by rw [hX.2.2.1, ← hl]; exact c.1) (rest := st) rfl (by rw [hX.2.1]; exact hd) (by omega) (by show 2 * 0 + _ + _ ≤ _; have : nativeFrameWords "java/lang/System" "arraycopy" 5 + 11 ≤ 32 := (by decide); omega)
  have e1 : copied (vp_cell (X.G.2 1) (n0, .inr (.inl f))) (vp_cell (X.G.2 1) (n1, .inr (.inl g))) (nI sp) (nI dp) (nI m) = vp_cell (X.G.2 1) (n1, .inr (.inl (va_cpy f g sp dp m))) := by
    have := va_copied (n1 := n1) (dp := (nI dp).toNatClampNeg) (fun z => Value.long z) (X.G.2 1) (X.G.2 1) f g (show (nI sp).toNatClampNeg + (nI m).toNatClampNeg ≤ n0 by rw [nI_clamp hsp, nI_clamp hm]; exact h4)
    rw [nI_clamp hsp, nI_clamp hdp, nI_clamp hm] at this
    unfold copied
    rw [nI_clamp hsp, nI_clamp hdp, nI_clamp hm]
    exact this
  rw [e1] at Y' step
  have hl1 : a1 < H.size := (Array.getElem?_eq_some_iff.mp hc1).1
  generalize hce : vp_cell (X.G.2 1) (n1, .inr (.inl (va_cpy f g sp dp m))) = ce at Y' step
  have hheap : ((T.setVm vm').setCell a1 ce).heap = H.setIfInBounds a1 ce := by rw [← hT]; rfl
  have oq : ∀ q : Nat, q ≠ a1 → (H.setIfInBounds a1 ce)[q]? = H[q]? := fun q hq => by simp [Array.getElem?_setIfInBounds, Ne.symm hq]
  obtain ⟨t, u1, u2⟩ := kk (V.upd ha1 hA) (H.setIfInBounds a1 ce) _ ls (x.set (by show (H.setIfInBounds a1 ce)[a1]? = some (vp_cell _ _); rw [hce]; simp [Array.getElem?_setIfInBounds, hl1]) (by simp) oq) (b.copy (by simp) oq (hA _ _ ha1) (fun q hq => by
    obtain ⟨w, -, hw⟩ := List.mem_map.mp hq
    rw [← hw])) c _ hheap Y'
  exact ⟨t, step t u1, u2⟩
end VR
/-! CONTRACTS: from the heap h of size z, with the arguments av: y returns; 'post' its answer, the new size, the new heap -/
def rmd (d mc ms : Nat) : Room := { frames := d, cells := mc, slots := ms, locals := 40 * d }
def QC (G : Gd) (z : Nat) (h : AH) (post : Option Value → Nat → AH → Prop) : Array Value → State → Outcome → State → Prop := fun _ st oc t =>
  (∃ (v : Option Value) (z' : Nat) (h' : AH), oc = .returned v ∧ post v z' h' ∧ hv G z' h' t.heap ∧ ∀ (q : Nat) (e : va_E), h' q = some e → dm h z q) ∧ va_F (dm h z) st t
def Ct (G : Gd) (y : MethodName) (cc : ByteArray) (mL : Nat) (ret : Option FieldType) (d mc ms : Nat) (av : List Value) (z : Nat) (h : AH) (post : Option Value → Nat → AH → Prop) : Prop :=
  ∀ l : Launch, Met l y (.code y cc mL ret :: GG) (rmd d mc ms) (va_Pc av (fun U => hv G z h U.heap ∧ KK G U)) (QC G z h post) mc ms (dm h z)
theorem KK.same {G : Gd} {u U : State} (hvm : u.vm = U.vm) (h : KK G u) : KK G U :=
  ⟨va_K.moved (by rw [hvm]; exact Vm.Alike.refl _) h.1, va_AO.moved (by rw [hvm]; exact Vm.Alike.refl _) h.2.1, fun w hw => va_Nw.same (NNf_on w hw) hvm (h.2.2.1 w hw), fun w hw => va_Nw.same (NNm_on w hw) hvm (h.2.2.2 w hw)⟩
theorem KK.warm {G : Gd} {s U : State} (hW : s.WarmedH U.vm) (h : KK G s) : KK G U :=
  ⟨va_K.moved hW.alike h.1, va_AO.moved hW.alike h.2.1, fun w hw => by
    have h1 := h.2.2.1 w hw
    obtain ⟨a, i, b, n, d, x, rfl⟩ := NNf_is w hw
    exact va_Nw.warmF hW h1, fun w hw => by
    have h1 := h.2.2.2 w hw
    obtain ⟨a, i, b, x, rfl⟩ := NNm_is w hw
    exact va_Nw.warmM hW h1⟩
/-- what the returns need: X ends as the contract's post has it -/
def reX (X : CX) (ret : Option FieldType) (mc ms : Nat) (z0 : Nat) (h0 : AH) (post : Option Value → Nat → AH → Prop) : Prop :=
  X.mt.sig.returnType = ret ∧ X.A = dm h0 z0 ∧ X.H = X.s.heap ∧ X.Q = MQ X.b (QC X.G z0 h0 post) X.a X.s mc ms (dm h0 z0)
theorem Ct.of {G : Gd} {y : MethodName} {cc : ByteArray} {mL : Nat} {ret : Option FieldType} {d mc ms : Nat} {av : List Value} {z : Nat} {h : AH} {post : Option Value → Nat → AH → Prop} {lv : List (Option Value)}
    (hy : plainName y.cls = true) (hlen : (lg_sl av).length ≤ mL) (hlv : lvN av mL = lv)
    (body : ∀ X : CX, X.G = G → okX X cc mL y.cls d mc ms → reX X ret mc ms z h post → X.mt.name = y.name → V X 0 0 z h 0 lv []) : Ct G y cc mL ret d mc ms av z h post := by
  intro l
  refine Met.ofW (cc := cc) (maxL := mL) (ret := ret) hy rfl ?_
  intro p e s m args below meth c s₁ B hml hv
  obtain ⟨rfl, hh, hK⟩ := hv
  have hts := atoms_spec (ws := Cond.code y cc mL ret :: GG) B.pre
  have hown : s.vm.findClass y.cls = some m.cls := findClass_of_methodNamed B.named
  have hnm := (name_of_methodNamed B.named B.method).1
  subst hlv
  have key := body (p, l, e, (headSpec (Cond.code y cc mL ret :: GG) (rmd d mc ms)).room, s, m, av.toArray, below, meth, c, G, dm h z, s.heap, MQ below (QC G z h post) av.toArray s mc ms (dm h z)) rfl
    ⟨B.exec, B.bytes, hml, hown, fun w hw => hts w (List.mem_cons_of_mem _ hw), hK, fun q hq => Or.inr (by rw [← hh.1]; exact hq), ⟨Nat.le_refl _, Nat.le_refl _, Nat.le_refl _, Nat.le_refl _⟩, B.notSynchronized⟩ ⟨B.returns, rfl, rfl, rfl⟩ hnm
  rw [lg_entry_eq]
  exact key (fun q e he => Or.inl ⟨e, he⟩) s.heap [] _ hh va_S.rf (lvh.entry av hlen)
section VE
variable {X : CX} {cc : ByteArray} {nL : Nat} {own : String} {d mc ms mc' ms' : Nat} {k n z z0 : Nat} {h h0 : AH} {pc pc' : Nat} {lv lv' : List (Option Value)} {st st' : List Value} {post : Option Value → Nat → AH → Prop}
theorem QC.mk {H : Heap} {locs : List Loc} {v : Option Value} {ret : Option FieldType} (hR : reX X ret mc' ms' z0 h0 post) (hA : ∀ (q : Nat) (e : va_E), h q = some e → X.A q) (hh : hv X.G z h H) (b : va_S X.A X.H H locs) (hq : post v z h) : ∀ t : State, t.heap = H → X.s.WarmedH t.vm → QC X.G z0 h0 post X.a X.s (.returned v) t := by
  intro t ht _
  obtain ⟨-, hA0, hH, -⟩ := hR
  rw [hA0] at hA b
  rw [hH] at b
  exact ⟨⟨v, z, h, rfl, hq, by rw [ht]; exact hh, hA⟩, b.F ht⟩
theorem V_iret (hX : okX X cc nL own d mc ms) (hR : reX X (some .int) k n z0 h0 post) {v : Int32} (hd : decode cc pc = .ok (.ireturn, 1)) (hq : post (some (.int v)) z h) : V X k n z h pc lv [.int v] := by
  intro hA H locs ls x b c
  show W _ _ _ _ _ _ _ _ _ _ _ _ _ _ X.Q _
  rw [hR.2.2.2]
  exact W.iret (v := v) hX.1 hX.2.1 hR.1 (QC.mk hR hA x b hq) (by rw [← hR.2.1]; exact b.2.2) hd hX.2.2.2.2.2.2.2.2
theorem V_zret (hX : okX X cc nL own d mc ms) (hR : reX X (some .boolean) k n z0 h0 post) {v : Int32} (hd : decode cc pc = .ok (.ireturn, 1)) (hn : narrow .boolean (.int v) = .int v) (hq : post (some (.int v)) z h) : V X k n z h pc lv [.int v] := by
  intro hA H locs ls x b c
  show W _ _ _ _ _ _ _ _ _ _ _ _ _ _ X.Q _
  rw [hR.2.2.2]
  exact W.zret (v := v) hX.1 hX.2.1 hR.1 hn (QC.mk hR hA x b hq) (by rw [← hR.2.1]; exact b.2.2) hd hX.2.2.2.2.2.2.2.2
theorem V_lret (hX : okX X cc nL own d mc ms) (hR : reX X (some .long) k n z0 h0 post) {v : Int64} (hd : decode cc pc = .ok (.lreturn, 1)) (hq : post (some (.long v)) z h) : V X k n z h pc lv [.long v] := by
  intro hA H locs ls x b c
  show W _ _ _ _ _ _ _ _ _ _ _ _ _ _ X.Q _
  rw [hR.2.2.2]
  exact W.lret (v := v) hX.1 hX.2.1 hR.1 (QC.mk hR hA x b hq) (by rw [← hR.2.1]; exact b.2.2) hd hX.2.2.2.2.2.2.2.2
theorem V_vret (hX : okX X cc nL own d mc ms) (hR : reX X none k n z0 h0 post) (hd : decode cc pc = .ok (.return_, 1)) (hq : post none z h) : V X k n z h pc lv [] := by
  intro hA H locs ls x b c
  show W _ _ _ _ _ _ _ _ _ _ _ _ _ _ X.Q _
  rw [hR.2.2.2]
  exact W.vret hX.1 hX.2.1 hR.1 (QC.mk hR hA x b hq) (by rw [← hR.2.1]; exact b.2.2) hd hX.2.2.2.2.2.2.2.2
/-- behind a call -/
theorem V.back {a : Array Value} {cp : Option Value → Nat → AH → Prop} {mc1 ms1 : Nat} {ls : Array Slot} {rest : List Value} {H : Heap} {locs : List Loc} (hX : okX X cc nL own d mc ms) (hA : ∀ (q : Nat) (e : va_E), h q = some e → X.A q) (x : hv X.G z h H) (b : va_S X.A X.H H locs) (c : lvh ls lv)
    (hr : va_Run X.p X.l X.e X.R X.s X.m X.a X.b X.mt X.c H locs k n mc1 ms1 (F0 X.m pc ls st) rest (QC X.G z h cp a) (dm h z))
    (kk : ∀ (v : Option Value) (z' : Nat) (h' : AH), cp v z' h' → V X (k + mc1) (n + ms1) z' h' (pc + 3) lv (v.toList ++ rest)) : XW X H locs k n (F0 X.m pc ls st) := by
  have hdA : ∀ q, dm h z q → X.A q := by
    rintro q (⟨e, he⟩ | hq)
    · exact hA q e he
    · exact hX.2.2.2.2.2.2.1 q (by have := b.1; have := x.1; omega)
  intro T hT Y
  obtain ⟨v, st₀, t, T', L, g0, Y', hL, e1, e2, ⟨⟨v', z', h', hv, hp, hh, hd'⟩, hz, hk⟩, st⟩ := hr T hT Y
  cases hv
  rw [g0] at hz hk
  obtain ⟨t2, a1, b1⟩ := kk v z' h' hp (fun q e he => hdA q (hd' q e he)) T'.heap (locs ++ L) ls (by rw [e1]; exact hh)
    ⟨Nat.le_trans b.1 (by rw [e1]; exact hz), fun q h1 h2 => by rw [e1, hk q (Nat.lt_of_lt_of_le h1 b.1) (fun w => h2 (hdA q w))]; exact b.2.1 q h1 h2, fun q hq => by
      rcases List.mem_append.mp hq with h | h
      · exact b.2.2 q h
      · exact hdA _ (hL q h)⟩ c T' rfl Y'
  exact ⟨t2, st t2 a1, b1⟩
theorem goodGG {y : MethodName} {bytes : ByteArray} {maxL : Nat} {ret : Option FieldType} (hw : Cond.code y bytes maxL ret ∈ GG) : GoodIn GG (Cond.code y bytes maxL ret :: GG) := fun w h => by
  rcases List.mem_cons.mp h with h | h
  · rw [h]; exact ⟨hw, GG_good _ hw⟩
  · exact ⟨h, GG_good _ h⟩
theorem goodV {own : String} {idx : Nat} {C : String} {y : MethodName} {ws : List Cond} (h : GoodIn GG ws) (h1 : Cond.methodLink own idx y ∈ GG) (h2 : Cond.instanceMethod y ∈ GG) (h3 : Cond.selects C y y ∈ GG) (h4 : Cond.initialized C ∈ GG) : GoodIn GG (wsV own idx C y ws) := fun w hw => by
  unfold wsV at hw
  rcases List.mem_append.mp hw with hw | hw
  · have hm : w ∈ GG := by
      simp only [List.mem_cons, List.not_mem_nil, or_false] at hw
      rcases hw with rfl | rfl | rfl | rfl
      · exact h1
      · exact h2
      · exact h3
      · exact h4
    exact ⟨hm, GG_good _ hm⟩
  · exact h w hw
theorem blindC {G : Gd} {av : List Value} : FrameBlind (va_Pc av (fun U => hv G z h U.heap ∧ KK G U)) := fun a U g mk q => ⟨q.1, q.2.1, KK.same (u := U) (U := U.calling g mk a) rfl q.2.2⟩
theorem V_callV (hX : okX X cc nL own d mc ms) {y : MethodName} {bytes : ByteArray} {maxL : Nat} {ret : Option FieldType} {d1 mc1 ms1 idx b ci nA : Nat} {C : String} {T : u_T} {N : Nat} {fs As rest : List Value} {cp : Option Value → Nat → AH → Prop} {k' n' : Nat} (hd : decode cc pc = .ok (.invokevirtual idx, 3)) (hM : Ct X.G y bytes maxL ret d1 mc1 ms1 (.ref b :: As) z h cp) (he : h b = some (.inr (ci, fs))) (hc : vwCl[ci]? = some (C, T, N))
    (w1 : Cond.methodLink own idx y ∈ GG) (w2 : Cond.instanceMethod y ∈ GG) (w3 : Cond.selects C y y ∈ GG) (w4 : Cond.initialized C ∈ GG) (w5 : Cond.code y bytes maxL ret ∈ GG) (hn : As.length = nA) (hy : y.cls = C ∧ y.cls ≠ "java/lang/invoke/MethodHandle" ∧ y.cls ≠ "java/lang/invoke/VarHandle" ∧ (parseMethodDescriptor y.desc).map (fun d => d.parameters.length) = some nA)
    (hs : st = As.reverse ++ .ref b :: rest) (hW : (rest.map fun v => v.category).sum ≤ 8) (hL : maxL ≤ 20) (hdd : d1 + 1 ≤ d) (hl : lv.length = nL) (hk : k + mc1 = k') (hk' : k' ≤ mc) (hn1 : n + ms1 = n') (hn' : n' ≤ ms) (hp : pc + 3 = pc')
    (kk : ∀ (v : Option Value) (z' : Nat) (h' : AH), cp v z' h' → V X k' n' z' h' pc' lv (v.toList ++ rest)) : V X k n z h pc lv st := by
  subst hp; subst hs; subst hk; subst hn1
  intro hA H locs ls x b' c
  obtain ⟨r1, r2, r3, r4⟩ := hX.2.2.2.2.2.2.2.1
  refine V.back hX hA x b' c (va_runV (As := As) (rest := rest) (nL := nL) ⟨hX.1, hX.2.1, hX.2.2.1, hX.2.2.2.1, hX.2.2.2.2.1⟩ (hM X.l) (cwV nA hX.2.2.2.2.1 (goodV (goodGG w5) w1 w2 w3 w4) rfl rfl rfl hy ⟨by show d1 + 1 ≤ _; omega, by show 8 + (maxL + 11) + 40 * d1 ≤ _; omega⟩) ⟨blindC, ?_, fun U hU hWm => ⟨rfl, by rw [hU]; exact x, KK.warm hWm hX.2.2.2.2.2.1⟩⟩ rfl hn (by rw [← hl]; exact c.1) rfl (lv_room hW) hd ⟨by omega, by omega⟩) kk
  obtain ⟨q', h1, cell, g1, g2, g3, -⟩ := x.2 b _ he
  have hr : q' = (C, T, N) := Option.some.inj (h1.symm.trans hc)
  subst hr
  exact ⟨cell, g1, by rw [g3]; rfl, by rw [g2]; exact (hX.2.2.2.2.2.1.1.1 ci _ hc).2.1⟩
theorem V_callS (hX : okX X cc nL own d mc ms) {y : MethodName} {bytes : ByteArray} {maxL : Nat} {ret : Option FieldType} {d1 mc1 ms1 idx nA : Nat} {As rest : List Value} {cp : Option Value → Nat → AH → Prop} {k' n' : Nat} (hd : decode cc pc = .ok (.invokestatic idx, 3)) (hM : Ct X.G y bytes maxL ret d1 mc1 ms1 As z h cp)
    (w1 : Cond.methodLink own idx y ∈ GG) (w2 : Cond.static y ∈ GG) (w4 : Cond.initialized y.cls ∈ GG) (w5 : Cond.code y bytes maxL ret ∈ GG) (hn : As.length = nA) (hy : y.cls ≠ "java/lang/invoke/MethodHandle" ∧ y.cls ≠ "java/lang/invoke/VarHandle" ∧ (parseMethodDescriptor y.desc).map (fun d => d.parameters.length) = some nA)
    (hs : st = As.reverse ++ rest) (hW : (rest.map fun v => v.category).sum ≤ 8) (hL : maxL ≤ 20) (hdd : d1 + 1 ≤ d) (hl : lv.length = nL) (hk : k + mc1 = k') (hk' : k' ≤ mc) (hn1 : n + ms1 = n') (hn' : n' ≤ ms) (hp : pc + 3 = pc')
    (kk : ∀ (v : Option Value) (z' : Nat) (h' : AH), cp v z' h' → V X k' n' z' h' pc' lv (v.toList ++ rest)) : V X k n z h pc lv st := by
  subst hp; subst hs; subst hk; subst hn1
  intro hA H locs ls x b' c
  obtain ⟨r1, r2, r3, r4⟩ := hX.2.2.2.2.2.2.2.1
  have hts := hX.2.2.2.2.1
  exact V.back hX hA x b' c (va_runS (As := As) (rest := rest) (nL := nL) ⟨hX.1, hX.2.1, hX.2.2.1, hX.2.2.2.1, hX.2.2.2.2.1⟩ (hM X.l) ⟨callB_of nA hts (goodGG w5) rfl rfl rfl (hts _ w4) (hts _ w1) hy ⟨by show d1 + 1 ≤ _; omega, by show 8 + (maxL + 11) + 40 * d1 ≤ _; omega⟩, hts _ w2⟩ ⟨blindC, fun U hU hWm => ⟨rfl, by rw [hU]; exact x, KK.warm hWm hX.2.2.2.2.2.1⟩⟩ rfl hn (by rw [← hl]; exact c.1) rfl (lv_room hW) hd ⟨by omega, by omega⟩) kk
theorem V_callI (hX : okX X cc nL own d mc ms) {y : MethodName} {bytes : ByteArray} {maxL : Nat} {d1 mc1 ms1 idx b nA : Nat} {As rest : List Value} {cp : Option Value → Nat → AH → Prop} {k' n' : Nat} (hd : decode cc pc = .ok (.invokespecial idx, 3)) (hM : Ct X.G y bytes maxL none d1 mc1 ms1 (.ref b :: As) z h cp)
    (w1 : Cond.methodLink own idx y ∈ GG) (w2 : Cond.instanceMethod y ∈ GG) (w4 : Cond.initialized y.cls ∈ GG) (w5 : Cond.code y bytes maxL none ∈ GG) (hn : As.length = nA) (hy : y.name = "<init>" ∧ y.cls ≠ "java/lang/invoke/MethodHandle" ∧ y.cls ≠ "java/lang/invoke/VarHandle" ∧ (parseMethodDescriptor y.desc).map (fun d => d.parameters.length) = some nA)
    (hs : st = As.reverse ++ .ref b :: rest) (hW : (rest.map fun v => v.category).sum ≤ 8) (hL : maxL ≤ 20) (hdd : d1 + 1 ≤ d) (hl : lv.length = nL) (hk : k + mc1 = k') (hk' : k' ≤ mc) (hn1 : n + ms1 = n') (hn' : n' ≤ ms) (hp : pc + 3 = pc')
    (kk : ∀ (v : Option Value) (z' : Nat) (h' : AH), cp v z' h' → V X k' n' z' h' pc' lv (v.toList ++ rest)) : V X k n z h pc lv st := by
  subst hp; subst hs; subst hk; subst hn1
  intro hA H locs ls x b' c
  obtain ⟨r1, r2, r3, r4⟩ := hX.2.2.2.2.2.2.2.1
  have hts := hX.2.2.2.2.1
  exact V.back hX hA x b' c (va_runI (As := As) (rest := rest) (nL := nL) ⟨hX.1, hX.2.1, hX.2.2.1, hX.2.2.2.1, hX.2.2.2.2.1⟩ (hM X.l) ⟨callB_of nA hts (goodGG w5) rfl rfl rfl (hts _ w4) (hts _ w1) hy.2 ⟨by show d1 + 1 ≤ _; omega, by show 8 + (maxL + 11) + 40 * d1 ≤ _; omega⟩, hy.1, hts _ w2⟩ ⟨blindC, fun U hU hWm => ⟨rfl, by rw [hU]; exact x, KK.warm hWm hX.2.2.2.2.2.1⟩⟩ rfl hn (by rw [← hl]; exact c.1) rfl (lv_room hW) hd ⟨by omega, by omega⟩) kk
/-- a private constructor of a nest mate -/
theorem V_callIN (hX : okX X cc nL own d mc ms) {y : MethodName} {bytes : ByteArray} {maxL : Nat} {d1 mc1 ms1 idx b nA : Nat} {host : String} {As rest : List Value} {cp : Option Value → Nat → AH → Prop} {k' n' : Nat} (hd : decode cc pc = .ok (.invokespecial idx, 3)) (hM : Ct X.G y bytes maxL none d1 mc1 ms1 (.ref b :: As) z h cp)
    (w1 : Cond.methodLinkNest own idx y host ∈ NNm) (w2 : Cond.instanceMethod y ∈ GG) (w4 : Cond.initialized y.cls ∈ GG) (w5 : Cond.code y bytes maxL none ∈ GG) (hn : As.length = nA) (hy : y.name = "<init>" ∧ y.cls ≠ "java/lang/invoke/MethodHandle" ∧ y.cls ≠ "java/lang/invoke/VarHandle" ∧ (parseMethodDescriptor y.desc).map (fun d => d.parameters.length) = some nA)
    (hs : st = As.reverse ++ .ref b :: rest) (hW : (rest.map fun v => v.category).sum ≤ 8) (hL : maxL ≤ 20) (hdd : d1 + 1 ≤ d) (hl : lv.length = nL) (hk : k + mc1 = k') (hk' : k' ≤ mc) (hn1 : n + ms1 = n') (hn' : n' ≤ ms) (hp : pc + 3 = pc')
    (kk : ∀ (v : Option Value) (z' : Nat) (h' : AH), cp v z' h' → V X k' n' z' h' pc' lv (v.toList ++ rest)) : V X k n z h pc lv st := by
  subst hp; subst hs; subst hk; subst hn1
  intro hA H locs ls x b' c
  obtain ⟨r1, r2, r3, r4⟩ := hX.2.2.2.2.2.2.2.1
  have hts := hX.2.2.2.2.1
  exact V.back hX hA x b' c (va_runIN (As := As) (rest := rest) (nL := nL) ⟨hX.1, hX.2.1, hX.2.2.1, hX.2.2.2.1, hX.2.2.2.2.1⟩ (hM X.l) ⟨va_cnB nA hts (goodGG w5) rfl rfl rfl (hX.2.2.2.2.2.1.2.2.2 _ w1) (hts _ w4) hy.2 ⟨by show d1 + 1 ≤ _; omega, by show 8 + (maxL + 11) + 40 * d1 ≤ _; omega⟩, hy.1, hts _ w2⟩ ⟨blindC, fun U hU hWm => ⟨rfl, by rw [hU]; exact x, KK.warm hWm hX.2.2.2.2.2.1⟩⟩ rfl hn (by rw [← hl]; exact c.1) rfl (lv_room hW) hd ⟨by omega, by omega⟩) kk
end VE
end
