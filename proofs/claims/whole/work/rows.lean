section
-- ===== PART A: goes FIRST, ahead of the names: the tables' words, and 'selects' of the private methods out of them =====
/-- a private method of a class that the tables say can be made, by its rows of tables_1 -/
def lw_okq (q : MethodName × Nat) : Prop := (q.1.cls ≠ "java/lang/invoke/MethodHandle" ∧ q.1.cls ≠ "java/lang/invoke/VarHandle") ∧ Cond.instantiable q.1.cls q.2 ∈ tables_1 ∧ Cond.privateMethod q.1 ∈ tables_1 ∧ Cond.instanceMethod q.1 ∈ tables_1
theorem lw_p0 : lw_okq (⟨"BellowsWords", "found", "(I)I"⟩, 8) := ⟨⟨by decide +kernel, by decide +kernel⟩, List.mem_of_getElem? (i := 13) (by decide +kernel), List.mem_of_getElem? (i := 227) (by decide +kernel), List.mem_of_getElem? (i := 228) (by decide +kernel)⟩
theorem lw_p1 : lw_okq (⟨"BellowsWords", "unfound", "(I)I"⟩, 8) := ⟨⟨by decide +kernel, by decide +kernel⟩, List.mem_of_getElem? (i := 13) (by decide +kernel), List.mem_of_getElem? (i := 239) (by decide +kernel), List.mem_of_getElem? (i := 240) (by decide +kernel)⟩
theorem lw_p2 : lw_okq (⟨"BellowsWords$Tape", "readLaw", "()Z"⟩, 5) := ⟨⟨by decide +kernel, by decide +kernel⟩, List.mem_of_getElem? (i := 40) (by decide +kernel), List.mem_of_getElem? (i := 299) (by decide +kernel), List.mem_of_getElem? (i := 300) (by decide +kernel)⟩
theorem lw_p3 : lw_okq (⟨"BellowsWords$Tape", "takeByte", "(I)Z"⟩, 5) := ⟨⟨by decide +kernel, by decide +kernel⟩, List.mem_of_getElem? (i := 40) (by decide +kernel), List.mem_of_getElem? (i := 303) (by decide +kernel), List.mem_of_getElem? (i := 304) (by decide +kernel)⟩
theorem lw_p4 : lw_okq (⟨"BellowsWords$Tape", "standsHere", "(I)Z"⟩, 5) := ⟨⟨by decide +kernel, by decide +kernel⟩, List.mem_of_getElem? (i := 40) (by decide +kernel), List.mem_of_getElem? (i := 307) (by decide +kernel), List.mem_of_getElem? (i := 308) (by decide +kernel)⟩
theorem lw_p5 : lw_okq (⟨"BellowsWords$Tape", "refuse", "(I)Z"⟩, 5) := ⟨⟨by decide +kernel, by decide +kernel⟩, List.mem_of_getElem? (i := 40) (by decide +kernel), List.mem_of_getElem? (i := 311) (by decide +kernel), List.mem_of_getElem? (i := 312) (by decide +kernel)⟩
theorem lw_p6 : lw_okq (⟨"BellowsWords$Tape", "takeNumber", "(II)I"⟩, 5) := ⟨⟨by decide +kernel, by decide +kernel⟩, List.mem_of_getElem? (i := 40) (by decide +kernel), List.mem_of_getElem? (i := 315) (by decide +kernel), List.mem_of_getElem? (i := 316) (by decide +kernel)⟩
theorem lw_p7 : lw_okq (⟨"BellowsWords$Tape", "readHearths", "()Z"⟩, 5) := ⟨⟨by decide +kernel, by decide +kernel⟩, List.mem_of_getElem? (i := 40) (by decide +kernel), List.mem_of_getElem? (i := 323) (by decide +kernel), List.mem_of_getElem? (i := 324) (by decide +kernel)⟩
theorem lw_p8 : lw_okq (⟨"BellowsWords$Tape", "readHearth", "(I)Z"⟩, 5) := ⟨⟨by decide +kernel, by decide +kernel⟩, List.mem_of_getElem? (i := 40) (by decide +kernel), List.mem_of_getElem? (i := 327) (by decide +kernel), List.mem_of_getElem? (i := 328) (by decide +kernel)⟩
theorem lw_p9 : lw_okq (⟨"BellowsWords$Tape", "readPairs", "()Z"⟩, 5) := ⟨⟨by decide +kernel, by decide +kernel⟩, List.mem_of_getElem? (i := 40) (by decide +kernel), List.mem_of_getElem? (i := 331) (by decide +kernel), List.mem_of_getElem? (i := 332) (by decide +kernel)⟩
theorem lw_p10 : lw_okq (⟨"BellowsWords$Tape", "readPair", "(I)Z"⟩, 5) := ⟨⟨by decide +kernel, by decide +kernel⟩, List.mem_of_getElem? (i := 40) (by decide +kernel), List.mem_of_getElem? (i := 338) (by decide +kernel), List.mem_of_getElem? (i := 339) (by decide +kernel)⟩
theorem lw_p11 : lw_okq (⟨"BellowsWords$House", "gatherBlown", "()V"⟩, 11) := ⟨⟨by decide +kernel, by decide +kernel⟩, List.mem_of_getElem? (i := 46) (by decide +kernel), List.mem_of_getElem? (i := 377) (by decide +kernel), List.mem_of_getElem? (i := 378) (by decide +kernel)⟩
theorem lw_p12 : lw_okq (⟨"BellowsWords$House", "blownBy", "(I)I"⟩, 11) := ⟨⟨by decide +kernel, by decide +kernel⟩, List.mem_of_getElem? (i := 46) (by decide +kernel), List.mem_of_getElem? (i := 381) (by decide +kernel), List.mem_of_getElem? (i := 382) (by decide +kernel)⟩
theorem lw_p13 : lw_okq (⟨"BellowsWords$House", "isWarmDay", "()Z"⟩, 11) := ⟨⟨by decide +kernel, by decide +kernel⟩, List.mem_of_getElem? (i := 46) (by decide +kernel), List.mem_of_getElem? (i := 390) (by decide +kernel), List.mem_of_getElem? (i := 391) (by decide +kernel)⟩
theorem lw_p14 : lw_okq (⟨"BellowsWords$House", "burnAll", "()V"⟩, 11) := ⟨⟨by decide +kernel, by decide +kernel⟩, List.mem_of_getElem? (i := 46) (by decide +kernel), List.mem_of_getElem? (i := 398) (by decide +kernel), List.mem_of_getElem? (i := 399) (by decide +kernel)⟩
theorem lw_p15 : lw_okq (⟨"BellowsWords$House", "burnt", "(III)I"⟩, 11) := ⟨⟨by decide +kernel, by decide +kernel⟩, List.mem_of_getElem? (i := 46) (by decide +kernel), List.mem_of_getElem? (i := 405) (by decide +kernel), List.mem_of_getElem? (i := 406) (by decide +kernel)⟩
def lw_privs_1 : List (MethodName × Nat) := [(⟨"BellowsWords", "found", "(I)I"⟩, 8), (⟨"BellowsWords", "unfound", "(I)I"⟩, 8), (⟨"BellowsWords$Tape", "readLaw", "()Z"⟩, 5), (⟨"BellowsWords$Tape", "takeByte", "(I)Z"⟩, 5), (⟨"BellowsWords$Tape", "standsHere", "(I)Z"⟩, 5), (⟨"BellowsWords$Tape", "refuse", "(I)Z"⟩, 5), (⟨"BellowsWords$Tape", "takeNumber", "(II)I"⟩, 5), (⟨"BellowsWords$Tape", "readHearths", "()Z"⟩, 5), (⟨"BellowsWords$Tape", "readHearth", "(I)Z"⟩, 5), (⟨"BellowsWords$Tape", "readPairs", "()Z"⟩, 5), (⟨"BellowsWords$Tape", "readPair", "(I)Z"⟩, 5), (⟨"BellowsWords$House", "gatherBlown", "()V"⟩, 11), (⟨"BellowsWords$House", "blownBy", "(I)I"⟩, 11), (⟨"BellowsWords$House", "isWarmDay", "()Z"⟩, 11), (⟨"BellowsWords$House", "burnAll", "()V"⟩, 11), (⟨"BellowsWords$House", "burnt", "(III)I"⟩, 11)]
theorem lw_r1 : ∀ q ∈ lw_privs_1, lw_okq q := List.forall_mem_cons.mpr ⟨lw_p0, List.forall_mem_cons.mpr ⟨lw_p1, List.forall_mem_cons.mpr ⟨lw_p2, List.forall_mem_cons.mpr ⟨lw_p3, List.forall_mem_cons.mpr ⟨lw_p4, List.forall_mem_cons.mpr ⟨lw_p5, List.forall_mem_cons.mpr ⟨lw_p6, List.forall_mem_cons.mpr ⟨lw_p7, List.forall_mem_cons.mpr ⟨lw_p8, List.forall_mem_cons.mpr ⟨lw_p9, List.forall_mem_cons.mpr ⟨lw_p10, List.forall_mem_cons.mpr ⟨lw_p11, List.forall_mem_cons.mpr ⟨lw_p12, List.forall_mem_cons.mpr ⟨lw_p13, List.forall_mem_cons.mpr ⟨lw_p14, List.forall_mem_cons.mpr ⟨lw_p15, fun _ h => absurd h List.not_mem_nil⟩⟩⟩⟩⟩⟩⟩⟩⟩⟩⟩⟩⟩⟩⟩⟩
theorem lw_p16 : lw_okq (⟨"BellowsWords", "isPair", "(I)Z"⟩, 8) := ⟨⟨by decide +kernel, by decide +kernel⟩, List.mem_of_getElem? (i := 13) (by decide +kernel), List.mem_of_getElem? (i := 417) (by decide +kernel), List.mem_of_getElem? (i := 418) (by decide +kernel)⟩
theorem lw_p17 : lw_okq (⟨"BellowsWords", "isHearth", "(I)Z"⟩, 8) := ⟨⟨by decide +kernel, by decide +kernel⟩, List.mem_of_getElem? (i := 13) (by decide +kernel), List.mem_of_getElem? (i := 429) (by decide +kernel), List.mem_of_getElem? (i := 430) (by decide +kernel)⟩
theorem lw_p18 : lw_okq (⟨"BellowsWords$Foreteller", "passDays", "(I)V"⟩, 3) := ⟨⟨by decide +kernel, by decide +kernel⟩, List.mem_of_getElem? (i := 158) (by decide +kernel), List.mem_of_getElem? (i := 476) (by decide +kernel), List.mem_of_getElem? (i := 477) (by decide +kernel)⟩
theorem lw_p19 : lw_okq (⟨"BellowsWords$Foreteller", "passWaiting", "(IIIII)V"⟩, 3) := ⟨⟨by decide +kernel, by decide +kernel⟩, List.mem_of_getElem? (i := 158) (by decide +kernel), List.mem_of_getElem? (i := 520) (by decide +kernel), List.mem_of_getElem? (i := 521) (by decide +kernel)⟩
theorem lw_p20 : lw_okq (⟨"BellowsWords$Foreteller", "lightsAll", "(LBellowsWords$House;II)Z"⟩, 3) := ⟨⟨by decide +kernel, by decide +kernel⟩, List.mem_of_getElem? (i := 158) (by decide +kernel), List.mem_of_getElem? (i := 538) (by decide +kernel), List.mem_of_getElem? (i := 539) (by decide +kernel)⟩
theorem lw_p21 : lw_okq (⟨"BellowsWords$Foreteller", "isRest", "(II)Z"⟩, 3) := ⟨⟨by decide +kernel, by decide +kernel⟩, List.mem_of_getElem? (i := 158) (by decide +kernel), List.mem_of_getElem? (i := 561) (by decide +kernel), List.mem_of_getElem? (i := 562) (by decide +kernel)⟩
theorem lw_p22 : lw_okq (⟨"BellowsWords$Foreteller", "suppose", "(III)V"⟩, 3) := ⟨⟨by decide +kernel, by decide +kernel⟩, List.mem_of_getElem? (i := 158) (by decide +kernel), List.mem_of_getElem? (i := 577) (by decide +kernel), List.mem_of_getElem? (i := 578) (by decide +kernel)⟩
theorem lw_p23 : lw_okq (⟨"BellowsWords$Foreteller", "isTold", "(I[III)Z"⟩, 3) := ⟨⟨by decide +kernel, by decide +kernel⟩, List.mem_of_getElem? (i := 158) (by decide +kernel), List.mem_of_getElem? (i := 581) (by decide +kernel), List.mem_of_getElem? (i := 582) (by decide +kernel)⟩
theorem lw_p24 : lw_okq (⟨"BellowsWords$Foreteller", "isKept", "(LBellowsWords$House;III)Z"⟩, 3) := ⟨⟨by decide +kernel, by decide +kernel⟩, List.mem_of_getElem? (i := 158) (by decide +kernel), List.mem_of_getElem? (i := 593) (by decide +kernel), List.mem_of_getElem? (i := 594) (by decide +kernel)⟩
theorem lw_p25 : lw_okq (⟨"BellowsWords$Asker", "give", "(ILBellowsWords$House;II)I"⟩, 2) := ⟨⟨by decide +kernel, by decide +kernel⟩, List.mem_of_getElem? (i := 176) (by decide +kernel), List.mem_of_getElem? (i := 658) (by decide +kernel), List.mem_of_getElem? (i := 659) (by decide +kernel)⟩
theorem lw_p26 : lw_okq (⟨"BellowsWords$Asker", "leave", "(I)V"⟩, 2) := ⟨⟨by decide +kernel, by decide +kernel⟩, List.mem_of_getElem? (i := 176) (by decide +kernel), List.mem_of_getElem? (i := 662) (by decide +kernel), List.mem_of_getElem? (i := 663) (by decide +kernel)⟩
theorem lw_p27 : lw_okq (⟨"BellowsWordsModel", "found", "(I)I"⟩, 26) := ⟨⟨by decide +kernel, by decide +kernel⟩, List.mem_of_getElem? (i := 683) (by decide +kernel), List.mem_of_getElem? (i := 781) (by decide +kernel), List.mem_of_getElem? (i := 782) (by decide +kernel)⟩
theorem lw_p28 : lw_okq (⟨"BellowsWordsModel", "well", "(I)I"⟩, 26) := ⟨⟨by decide +kernel, by decide +kernel⟩, List.mem_of_getElem? (i := 683) (by decide +kernel), List.mem_of_getElem? (i := 786) (by decide +kernel), List.mem_of_getElem? (i := 787) (by decide +kernel)⟩
theorem lw_p29 : lw_okq (⟨"BellowsWordsModel", "isMissing", "(I)Z"⟩, 26) := ⟨⟨by decide +kernel, by decide +kernel⟩, List.mem_of_getElem? (i := 683) (by decide +kernel), List.mem_of_getElem? (i := 794) (by decide +kernel), List.mem_of_getElem? (i := 795) (by decide +kernel)⟩
theorem lw_p30 : lw_okq (⟨"BellowsWordsModel", "isPart", "(III)Z"⟩, 26) := ⟨⟨by decide +kernel, by decide +kernel⟩, List.mem_of_getElem? (i := 683) (by decide +kernel), List.mem_of_getElem? (i := 805) (by decide +kernel), List.mem_of_getElem? (i := 806) (by decide +kernel)⟩
theorem lw_p31 : lw_okq (⟨"BellowsWordsModel", "advances", "()V"⟩, 26) := ⟨⟨by decide +kernel, by decide +kernel⟩, List.mem_of_getElem? (i := 683) (by decide +kernel), List.mem_of_getElem? (i := 822) (by decide +kernel), List.mem_of_getElem? (i := 823) (by decide +kernel)⟩
def lw_privs_2 : List (MethodName × Nat) := [(⟨"BellowsWords", "isPair", "(I)Z"⟩, 8), (⟨"BellowsWords", "isHearth", "(I)Z"⟩, 8), (⟨"BellowsWords$Foreteller", "passDays", "(I)V"⟩, 3), (⟨"BellowsWords$Foreteller", "passWaiting", "(IIIII)V"⟩, 3), (⟨"BellowsWords$Foreteller", "lightsAll", "(LBellowsWords$House;II)Z"⟩, 3), (⟨"BellowsWords$Foreteller", "isRest", "(II)Z"⟩, 3), (⟨"BellowsWords$Foreteller", "suppose", "(III)V"⟩, 3), (⟨"BellowsWords$Foreteller", "isTold", "(I[III)Z"⟩, 3), (⟨"BellowsWords$Foreteller", "isKept", "(LBellowsWords$House;III)Z"⟩, 3), (⟨"BellowsWords$Asker", "give", "(ILBellowsWords$House;II)I"⟩, 2), (⟨"BellowsWords$Asker", "leave", "(I)V"⟩, 2), (⟨"BellowsWordsModel", "found", "(I)I"⟩, 26), (⟨"BellowsWordsModel", "well", "(I)I"⟩, 26), (⟨"BellowsWordsModel", "isMissing", "(I)Z"⟩, 26), (⟨"BellowsWordsModel", "isPart", "(III)Z"⟩, 26), (⟨"BellowsWordsModel", "advances", "()V"⟩, 26)]
theorem lw_r2 : ∀ q ∈ lw_privs_2, lw_okq q := List.forall_mem_cons.mpr ⟨lw_p16, List.forall_mem_cons.mpr ⟨lw_p17, List.forall_mem_cons.mpr ⟨lw_p18, List.forall_mem_cons.mpr ⟨lw_p19, List.forall_mem_cons.mpr ⟨lw_p20, List.forall_mem_cons.mpr ⟨lw_p21, List.forall_mem_cons.mpr ⟨lw_p22, List.forall_mem_cons.mpr ⟨lw_p23, List.forall_mem_cons.mpr ⟨lw_p24, List.forall_mem_cons.mpr ⟨lw_p25, List.forall_mem_cons.mpr ⟨lw_p26, List.forall_mem_cons.mpr ⟨lw_p27, List.forall_mem_cons.mpr ⟨lw_p28, List.forall_mem_cons.mpr ⟨lw_p29, List.forall_mem_cons.mpr ⟨lw_p30, List.forall_mem_cons.mpr ⟨lw_p31, fun _ h => absurd h List.not_mem_nil⟩⟩⟩⟩⟩⟩⟩⟩⟩⟩⟩⟩⟩⟩⟩⟩
theorem lw_p32 : lw_okq (⟨"BellowsWordsModel", "byteAt", "(I)I"⟩, 26) := ⟨⟨by decide +kernel, by decide +kernel⟩, List.mem_of_getElem? (i := 683) (by decide +kernel), List.mem_of_getElem? (i := 826) (by decide +kernel), List.mem_of_getElem? (i := 827) (by decide +kernel)⟩
theorem lw_p33 : lw_okq (⟨"BellowsWordsModel", "takes", "(ZI)I"⟩, 26) := ⟨⟨by decide +kernel, by decide +kernel⟩, List.mem_of_getElem? (i := 683) (by decide +kernel), List.mem_of_getElem? (i := 830) (by decide +kernel), List.mem_of_getElem? (i := 831) (by decide +kernel)⟩
theorem lw_p34 : lw_okq (⟨"BellowsWordsModel", "isWell", "()Z"⟩, 26) := ⟨⟨by decide +kernel, by decide +kernel⟩, List.mem_of_getElem? (i := 683) (by decide +kernel), List.mem_of_getElem? (i := 834) (by decide +kernel), List.mem_of_getElem? (i := 835) (by decide +kernel)⟩
theorem lw_p35 : lw_okq (⟨"BellowsWordsModel", "figure", "(II)I"⟩, 26) := ⟨⟨by decide +kernel, by decide +kernel⟩, List.mem_of_getElem? (i := 683) (by decide +kernel), List.mem_of_getElem? (i := 838) (by decide +kernel), List.mem_of_getElem? (i := 839) (by decide +kernel)⟩
theorem lw_p36 : lw_okq (⟨"BellowsWordsModel", "follows", "(II)I"⟩, 26) := ⟨⟨by decide +kernel, by decide +kernel⟩, List.mem_of_getElem? (i := 683) (by decide +kernel), List.mem_of_getElem? (i := 842) (by decide +kernel), List.mem_of_getElem? (i := 843) (by decide +kernel)⟩
theorem lw_p37 : lw_okq (⟨"BellowsWordsModel", "readsHearth", "()V"⟩, 26) := ⟨⟨by decide +kernel, by decide +kernel⟩, List.mem_of_getElem? (i := 683) (by decide +kernel), List.mem_of_getElem? (i := 846) (by decide +kernel), List.mem_of_getElem? (i := 847) (by decide +kernel)⟩
theorem lw_p38 : lw_okq (⟨"BellowsWordsModel", "must", "(Z)V"⟩, 26) := ⟨⟨by decide +kernel, by decide +kernel⟩, List.mem_of_getElem? (i := 683) (by decide +kernel), List.mem_of_getElem? (i := 850) (by decide +kernel), List.mem_of_getElem? (i := 851) (by decide +kernel)⟩
theorem lw_p39 : lw_okq (⟨"BellowsWordsModel", "readsPair", "()V"⟩, 26) := ⟨⟨by decide +kernel, by decide +kernel⟩, List.mem_of_getElem? (i := 683) (by decide +kernel), List.mem_of_getElem? (i := 857) (by decide +kernel), List.mem_of_getElem? (i := 858) (by decide +kernel)⟩
theorem lw_p40 : lw_okq (⟨"BellowsWordsModel", "isHouse", "()Z"⟩, 26) := ⟨⟨by decide +kernel, by decide +kernel⟩, List.mem_of_getElem? (i := 683) (by decide +kernel), List.mem_of_getElem? (i := 873) (by decide +kernel), List.mem_of_getElem? (i := 874) (by decide +kernel)⟩
theorem lw_p41 : lw_okq (⟨"BellowsWordsModel", "notes", "()V"⟩, 26) := ⟨⟨by decide +kernel, by decide +kernel⟩, List.mem_of_getElem? (i := 683) (by decide +kernel), List.mem_of_getElem? (i := 878) (by decide +kernel), List.mem_of_getElem? (i := 879) (by decide +kernel)⟩
theorem lw_p42 : lw_okq (⟨"BellowsWordsModel", "passes", "([I)V"⟩, 26) := ⟨⟨by decide +kernel, by decide +kernel⟩, List.mem_of_getElem? (i := 683) (by decide +kernel), List.mem_of_getElem? (i := 882) (by decide +kernel), List.mem_of_getElem? (i := 883) (by decide +kernel)⟩
theorem lw_p43 : lw_okq (⟨"BellowsWordsModel", "burns", "([II)V"⟩, 26) := ⟨⟨by decide +kernel, by decide +kernel⟩, List.mem_of_getElem? (i := 683) (by decide +kernel), List.mem_of_getElem? (i := 901) (by decide +kernel), List.mem_of_getElem? (i := 902) (by decide +kernel)⟩
theorem lw_p44 : lw_okq (⟨"BellowsWordsModel", "isHot", "([II)Z"⟩, 26) := ⟨⟨by decide +kernel, by decide +kernel⟩, List.mem_of_getElem? (i := 683) (by decide +kernel), List.mem_of_getElem? (i := 905) (by decide +kernel), List.mem_of_getElem? (i := 906) (by decide +kernel)⟩
theorem lw_p45 : lw_okq (⟨"BellowsWordsModel", "isPair", "(I)Z"⟩, 26) := ⟨⟨by decide +kernel, by decide +kernel⟩, List.mem_of_getElem? (i := 683) (by decide +kernel), List.mem_of_getElem? (i := 916) (by decide +kernel), List.mem_of_getElem? (i := 917) (by decide +kernel)⟩
theorem lw_p46 : lw_okq (⟨"BellowsWordsModel", "isHearth", "(I)Z"⟩, 26) := ⟨⟨by decide +kernel, by decide +kernel⟩, List.mem_of_getElem? (i := 683) (by decide +kernel), List.mem_of_getElem? (i := 927) (by decide +kernel), List.mem_of_getElem? (i := 928) (by decide +kernel)⟩
theorem lw_p47 : lw_okq (⟨"BellowsWordsModel", "pairsAt", "(I)I"⟩, 26) := ⟨⟨by decide +kernel, by decide +kernel⟩, List.mem_of_getElem? (i := 683) (by decide +kernel), List.mem_of_getElem? (i := 951) (by decide +kernel), List.mem_of_getElem? (i := 952) (by decide +kernel)⟩
def lw_privs_3 : List (MethodName × Nat) := [(⟨"BellowsWordsModel", "byteAt", "(I)I"⟩, 26), (⟨"BellowsWordsModel", "takes", "(ZI)I"⟩, 26), (⟨"BellowsWordsModel", "isWell", "()Z"⟩, 26), (⟨"BellowsWordsModel", "figure", "(II)I"⟩, 26), (⟨"BellowsWordsModel", "follows", "(II)I"⟩, 26), (⟨"BellowsWordsModel", "readsHearth", "()V"⟩, 26), (⟨"BellowsWordsModel", "must", "(Z)V"⟩, 26), (⟨"BellowsWordsModel", "readsPair", "()V"⟩, 26), (⟨"BellowsWordsModel", "isHouse", "()Z"⟩, 26), (⟨"BellowsWordsModel", "notes", "()V"⟩, 26), (⟨"BellowsWordsModel", "passes", "([I)V"⟩, 26), (⟨"BellowsWordsModel", "burns", "([II)V"⟩, 26), (⟨"BellowsWordsModel", "isHot", "([II)Z"⟩, 26), (⟨"BellowsWordsModel", "isPair", "(I)Z"⟩, 26), (⟨"BellowsWordsModel", "isHearth", "(I)Z"⟩, 26), (⟨"BellowsWordsModel", "pairsAt", "(I)I"⟩, 26)]
theorem lw_r3 : ∀ q ∈ lw_privs_3, lw_okq q := List.forall_mem_cons.mpr ⟨lw_p32, List.forall_mem_cons.mpr ⟨lw_p33, List.forall_mem_cons.mpr ⟨lw_p34, List.forall_mem_cons.mpr ⟨lw_p35, List.forall_mem_cons.mpr ⟨lw_p36, List.forall_mem_cons.mpr ⟨lw_p37, List.forall_mem_cons.mpr ⟨lw_p38, List.forall_mem_cons.mpr ⟨lw_p39, List.forall_mem_cons.mpr ⟨lw_p40, List.forall_mem_cons.mpr ⟨lw_p41, List.forall_mem_cons.mpr ⟨lw_p42, List.forall_mem_cons.mpr ⟨lw_p43, List.forall_mem_cons.mpr ⟨lw_p44, List.forall_mem_cons.mpr ⟨lw_p45, List.forall_mem_cons.mpr ⟨lw_p46, List.forall_mem_cons.mpr ⟨lw_p47, fun _ h => absurd h List.not_mem_nil⟩⟩⟩⟩⟩⟩⟩⟩⟩⟩⟩⟩⟩⟩⟩⟩
theorem lw_p48 : lw_okq (⟨"BellowsWordsModel", "blownInto", "(I)I"⟩, 26) := ⟨⟨by decide +kernel, by decide +kernel⟩, List.mem_of_getElem? (i := 683) (by decide +kernel), List.mem_of_getElem? (i := 955) (by decide +kernel), List.mem_of_getElem? (i := 956) (by decide +kernel)⟩
theorem lw_p49 : lw_okq (⟨"BellowsWordsModel", "goesOn", "(I)V"⟩, 26) := ⟨⟨by decide +kernel, by decide +kernel⟩, List.mem_of_getElem? (i := 683) (by decide +kernel), List.mem_of_getElem? (i := 963) (by decide +kernel), List.mem_of_getElem? (i := 964) (by decide +kernel)⟩
theorem lw_p50 : lw_okq (⟨"BellowsWordsModel", "waits", "(IIIII)V"⟩, 26) := ⟨⟨by decide +kernel, by decide +kernel⟩, List.mem_of_getElem? (i := 683) (by decide +kernel), List.mem_of_getElem? (i := 1001) (by decide +kernel), List.mem_of_getElem? (i := 1002) (by decide +kernel)⟩
theorem lw_p51 : lw_okq (⟨"BellowsWordsModel", "isRest", "(II)Z"⟩, 26) := ⟨⟨by decide +kernel, by decide +kernel⟩, List.mem_of_getElem? (i := 683) (by decide +kernel), List.mem_of_getElem? (i := 1005) (by decide +kernel), List.mem_of_getElem? (i := 1006) (by decide +kernel)⟩
theorem lw_p52 : lw_okq (⟨"BellowsWordsModel", "keepsSo", "(IIIII)Z"⟩, 26) := ⟨⟨by decide +kernel, by decide +kernel⟩, List.mem_of_getElem? (i := 683) (by decide +kernel), List.mem_of_getElem? (i := 1013) (by decide +kernel), List.mem_of_getElem? (i := 1014) (by decide +kernel)⟩
theorem lw_p53 : lw_okq (⟨"BellowsWordsModel", "kindIn", "(I)I"⟩, 26) := ⟨⟨by decide +kernel, by decide +kernel⟩, List.mem_of_getElem? (i := 683) (by decide +kernel), List.mem_of_getElem? (i := 1042) (by decide +kernel), List.mem_of_getElem? (i := 1043) (by decide +kernel)⟩
theorem lw_p54 : lw_okq (⟨"BellowsWordsModel", "tinSize", "(I)I"⟩, 26) := ⟨⟨by decide +kernel, by decide +kernel⟩, List.mem_of_getElem? (i := 683) (by decide +kernel), List.mem_of_getElem? (i := 1054) (by decide +kernel), List.mem_of_getElem? (i := 1055) (by decide +kernel)⟩
theorem lw_p55 : lw_okq (⟨"BellowsWordsModel", "begins", "(I)V"⟩, 26) := ⟨⟨by decide +kernel, by decide +kernel⟩, List.mem_of_getElem? (i := 683) (by decide +kernel), List.mem_of_getElem? (i := 1058) (by decide +kernel), List.mem_of_getElem? (i := 1059) (by decide +kernel)⟩
theorem lw_p56 : lw_okq (⟨"BellowsWordsModel", "leatherSize", "(I)I"⟩, 26) := ⟨⟨by decide +kernel, by decide +kernel⟩, List.mem_of_getElem? (i := 683) (by decide +kernel), List.mem_of_getElem? (i := 1062) (by decide +kernel), List.mem_of_getElem? (i := 1063) (by decide +kernel)⟩
theorem lw_p57 : lw_okq (⟨"BellowsWordsModel", "leatherMark", "(I)I"⟩, 26) := ⟨⟨by decide +kernel, by decide +kernel⟩, List.mem_of_getElem? (i := 683) (by decide +kernel), List.mem_of_getElem? (i := 1066) (by decide +kernel), List.mem_of_getElem? (i := 1067) (by decide +kernel)⟩
theorem lw_p58 : lw_okq (⟨"BellowsWordsModel", "tinMark", "(I)I"⟩, 26) := ⟨⟨by decide +kernel, by decide +kernel⟩, List.mem_of_getElem? (i := 683) (by decide +kernel), List.mem_of_getElem? (i := 1070) (by decide +kernel), List.mem_of_getElem? (i := 1071) (by decide +kernel)⟩
def lw_privs_4 : List (MethodName × Nat) := [(⟨"BellowsWordsModel", "blownInto", "(I)I"⟩, 26), (⟨"BellowsWordsModel", "goesOn", "(I)V"⟩, 26), (⟨"BellowsWordsModel", "waits", "(IIIII)V"⟩, 26), (⟨"BellowsWordsModel", "isRest", "(II)Z"⟩, 26), (⟨"BellowsWordsModel", "keepsSo", "(IIIII)Z"⟩, 26), (⟨"BellowsWordsModel", "kindIn", "(I)I"⟩, 26), (⟨"BellowsWordsModel", "tinSize", "(I)I"⟩, 26), (⟨"BellowsWordsModel", "begins", "(I)V"⟩, 26), (⟨"BellowsWordsModel", "leatherSize", "(I)I"⟩, 26), (⟨"BellowsWordsModel", "leatherMark", "(I)I"⟩, 26), (⟨"BellowsWordsModel", "tinMark", "(I)I"⟩, 26)]
theorem lw_r4 : ∀ q ∈ lw_privs_4, lw_okq q := List.forall_mem_cons.mpr ⟨lw_p48, List.forall_mem_cons.mpr ⟨lw_p49, List.forall_mem_cons.mpr ⟨lw_p50, List.forall_mem_cons.mpr ⟨lw_p51, List.forall_mem_cons.mpr ⟨lw_p52, List.forall_mem_cons.mpr ⟨lw_p53, List.forall_mem_cons.mpr ⟨lw_p54, List.forall_mem_cons.mpr ⟨lw_p55, List.forall_mem_cons.mpr ⟨lw_p56, List.forall_mem_cons.mpr ⟨lw_p57, List.forall_mem_cons.mpr ⟨lw_p58, fun _ h => absurd h List.not_mem_nil⟩⟩⟩⟩⟩⟩⟩⟩⟩⟩⟩
def lw_privs : List (MethodName × Nat) := lw_privs_1 ++ (lw_privs_2 ++ (lw_privs_3 ++ (lw_privs_4)))
def lw_tbl : List Cond := k2_sels lw_privs ++ tables_1
theorem lw_privs_ok : ∀ q ∈ lw_privs, lw_okq q := by
  show ∀ q ∈ lw_privs_1 ++ (lw_privs_2 ++ (lw_privs_3 ++ (lw_privs_4))), lw_okq q
  exact List.forall_mem_append.mpr ⟨lw_r1, List.forall_mem_append.mpr ⟨lw_r2, List.forall_mem_append.mpr ⟨lw_r3, lw_r4⟩⟩⟩
end
section
def RX0 : String := "BellowsWords$Acts"
def TX0 : u_T := fun k => match k with
  | 0 => ("BellowsWords$Acts", "before", "[LBellowsWords$House;", true)
  | 1 => ("BellowsWords$Acts", "next", "I", false)
  | _ => ("BellowsWords$Acts", "kept", "I", false)
def tyX0 : Nat → FieldType := fun k => match k with
  | 0 => .array (.object "BellowsWords$House")
  | 1 => .int
  | _ => .int
abbrev wsX00 : List Cond := u_ws RX0 TX0 3
theorem nmX0 : ∀ a, a < 3 → ∀ b, b < 3 → a ≠ b → (TX0 a).2.1 ≠ (TX0 b).2.1 := by decide +kernel
theorem tyX0_ok : ∀ k, k < 3 → parseFieldDescriptor (TX0 k).2.2.1 = some (tyX0 k) := by decide +kernel
abbrev cX0_init : ByteArray := prog_2_method_1_code
def yX0_init : MethodName := ⟨RX0, "<init>", "()V"⟩
abbrev cX0_keep : ByteArray := prog_2_method_2_code
def yX0_keep : MethodName := ⟨RX0, "keep", "(LBellowsWords$House;)V"⟩
abbrev cX0_bringBack : ByteArray := prog_2_method_3_code
def yX0_bringBack : MethodName := ⟨RX0, "bringBack", "(LBellowsWords$House;)V"⟩
abbrev cX0_forgetAll : ByteArray := prog_2_method_4_code
def yX0_forgetAll : MethodName := ⟨RX0, "forgetAll", "()V"⟩
def RX1 : String := "BellowsWords$Asker"
def TX1 : u_T := fun k => match k with
  | 0 => ("BellowsWords$Asker", "numbers", "[I", true)
  | _ => ("BellowsWords$Asker", "traced", "I", false)
def tyX1 : Nat → FieldType := fun k => match k with
  | 0 => .array .int
  | _ => .int
abbrev wsX10 : List Cond := u_ws RX1 TX1 2
theorem nmX1 : ∀ a, a < 2 → ∀ b, b < 2 → a ≠ b → (TX1 a).2.1 ≠ (TX1 b).2.1 := by decide +kernel
theorem tyX1_ok : ∀ k, k < 2 → parseFieldDescriptor (TX1 k).2.2.1 = some (tyX1 k) := by decide +kernel
abbrev cX1_init : ByteArray := prog_3_method_1_code
def yX1_init : MethodName := ⟨RX1, "<init>", "()V"⟩
abbrev cX1_answer : ByteArray := prog_3_method_2_code
def yX1_answer : MethodName := ⟨RX1, "answer", "(LBellowsWords$House;II)I"⟩
abbrev cX1_give : ByteArray := prog_3_method_3_code
def yX1_give : MethodName := ⟨RX1, "give", "(ILBellowsWords$House;II)I"⟩
abbrev cX1_leave : ByteArray := prog_3_method_4_code
def yX1_leave : MethodName := ⟨RX1, "leave", "(I)V"⟩
def RX2 : String := "BellowsWords$Foreteller"
def TX2 : u_T := fun k => match k with
  | 0 => ("BellowsWords$Foreteller", "trial", "LBellowsWords$House;", true)
  | 1 => ("BellowsWords$Foreteller", "oneGets", "[I", true)
  | _ => ("BellowsWords$Foreteller", "otherGets", "[I", true)
def tyX2 : Nat → FieldType := fun k => match k with
  | 0 => .object "BellowsWords$House"
  | 1 => .array .int
  | _ => .array .int
abbrev wsX20 : List Cond := u_ws RX2 TX2 3
theorem nmX2 : ∀ a, a < 3 → ∀ b, b < 3 → a ≠ b → (TX2 a).2.1 ≠ (TX2 b).2.1 := by decide +kernel
theorem tyX2_ok : ∀ k, k < 3 → parseFieldDescriptor (TX2 k).2.2.1 = some (tyX2 k) := by decide +kernel
abbrev cX2_init : ByteArray := prog_4_method_1_code
def yX2_init : MethodName := ⟨RX2, "<init>", "()V"⟩
abbrev cX2_behind : ByteArray := prog_4_method_2_code
def yX2_behind : MethodName := ⟨RX2, "behind", "(LBellowsWords$House;I)LBellowsWords$House;"⟩
abbrev cX2_firstEmpty : ByteArray := prog_4_method_3_code
def yX2_firstEmpty : MethodName := ⟨RX2, "firstEmpty", "(LBellowsWords$House;I)I"⟩
abbrev cX2_firstCold : ByteArray := prog_4_method_4_code
def yX2_firstCold : MethodName := ⟨RX2, "firstCold", "(LBellowsWords$House;I)I"⟩
abbrev cX2_bestDay : ByteArray := prog_4_method_5_code
def yX2_bestDay : MethodName := ⟨RX2, "bestDay", "(LBellowsWords$House;III)I"⟩
abbrev cX2_fewestDrawn : ByteArray := prog_4_method_6_code
def yX2_fewestDrawn : MethodName := ⟨RX2, "fewestDrawn", "(LBellowsWords$House;I)I"⟩
abbrev cX2_weighWaits : ByteArray := prog_4_method_7_code
def yX2_weighWaits : MethodName := ⟨RX2, "weighWaits", "(LBellowsWords$House;III)V"⟩
abbrev cX2_restingWaits : ByteArray := prog_4_method_8_code
def yX2_restingWaits : MethodName := ⟨RX2, "restingWaits", "(I)I"⟩
abbrev cX2_fitting : ByteArray := prog_4_method_9_code
def yX2_fitting : MethodName := ⟨RX2, "fitting", "(LBellowsWords$House;I[IIII)I"⟩
abbrev cX2_keptOf : ByteArray := prog_4_method_10_code
def yX2_keptOf : MethodName := ⟨RX2, "keptOf", "(LBellowsWords$House;III)I"⟩
abbrev cX2_behindSummer : ByteArray := prog_4_method_11_code
def yX2_behindSummer : MethodName := ⟨RX2, "behindSummer", "(LBellowsWords$House;II)LBellowsWords$House;"⟩
abbrev cX2_passDays : ByteArray := prog_4_method_12_code
def yX2_passDays : MethodName := ⟨RX2, "passDays", "(I)V"⟩
abbrev cX2_passWaiting : ByteArray := prog_4_method_13_code
def yX2_passWaiting : MethodName := ⟨RX2, "passWaiting", "(IIIII)V"⟩
abbrev cX2_lightsAll : ByteArray := prog_4_method_14_code
def yX2_lightsAll : MethodName := ⟨RX2, "lightsAll", "(LBellowsWords$House;II)Z"⟩
abbrev cX2_isRest : ByteArray := prog_4_method_15_code
def yX2_isRest : MethodName := ⟨RX2, "isRest", "(II)Z"⟩
abbrev cX2_suppose : ByteArray := prog_4_method_16_code
def yX2_suppose : MethodName := ⟨RX2, "suppose", "(III)V"⟩
abbrev cX2_isTold : ByteArray := prog_4_method_17_code
def yX2_isTold : MethodName := ⟨RX2, "isTold", "(I[III)Z"⟩
abbrev cX2_isKept : ByteArray := prog_4_method_18_code
def yX2_isKept : MethodName := ⟨RX2, "isKept", "(LBellowsWords$House;III)Z"⟩
def RX3 : String := "BellowsWords$House"
def TX3 : u_T := fun k => match k with
  | 0 => ("BellowsWords$House", "day", "I", false)
  | 1 => ("BellowsWords$House", "warm", "I", false)
  | 2 => ("BellowsWords$House", "takes", "I", false)
  | 3 => ("BellowsWords$House", "hearths", "I", false)
  | 4 => ("BellowsWords$House", "pairs", "I", false)
  | 5 => ("BellowsWords$House", "fire", "[I", true)
  | 6 => ("BellowsWords$House", "kinds", "[I", true)
  | 7 => ("BellowsWords$House", "breath", "[I", true)
  | 8 => ("BellowsWords$House", "place", "[I", true)
  | 9 => ("BellowsWords$House", "pegIn", "[I", true)
  | _ => ("BellowsWords$House", "blown", "[I", true)
def tyX3 : Nat → FieldType := fun k => match k with
  | 0 => .int
  | 1 => .int
  | 2 => .int
  | 3 => .int
  | 4 => .int
  | 5 => .array .int
  | 6 => .array .int
  | 7 => .array .int
  | 8 => .array .int
  | 9 => .array .int
  | _ => .array .int
abbrev wsX30 : List Cond := u_ws RX3 TX3 11
theorem nmX3 : ∀ a, a < 11 → ∀ b, b < 11 → a ≠ b → (TX3 a).2.1 ≠ (TX3 b).2.1 := by decide +kernel
theorem tyX3_ok : ∀ k, k < 11 → parseFieldDescriptor (TX3 k).2.2.1 = some (tyX3 k) := by decide +kernel
abbrev cX3_init : ByteArray := prog_5_method_1_code
def yX3_init : MethodName := ⟨RX3, "<init>", "()V"⟩
abbrev cX3_stands : ByteArray := prog_5_method_2_code
def yX3_stands : MethodName := ⟨RX3, "stands", "()Z"⟩
abbrev cX3_become : ByteArray := prog_5_method_3_code
def yX3_become : MethodName := ⟨RX3, "become", "(LBellowsWords$House;)V"⟩
abbrev cX3_isLit : ByteArray := prog_5_method_4_code
def yX3_isLit : MethodName := ⟨RX3, "isLit", "(I)Z"⟩
abbrev cX3_litBits : ByteArray := prog_5_method_5_code
def yX3_litBits : MethodName := ⟨RX3, "litBits", "()I"⟩
abbrev cX3_isAllLit : ByteArray := prog_5_method_6_code
def yX3_isAllLit : MethodName := ⟨RX3, "isAllLit", "()Z"⟩
abbrev cX3_pegBits : ByteArray := prog_5_method_7_code
def yX3_pegBits : MethodName := ⟨RX3, "pegBits", "()I"⟩
abbrev cX3_pairBitsAt : ByteArray := prog_5_method_8_code
def yX3_pairBitsAt : MethodName := ⟨RX3, "pairBitsAt", "(I)I"⟩
abbrev cX3_fireInAll : ByteArray := prog_5_method_9_code
def yX3_fireInAll : MethodName := ⟨RX3, "fireInAll", "()I"⟩
abbrev cX3_breathInAll : ByteArray := prog_5_method_10_code
def yX3_breathInAll : MethodName := ⟨RX3, "breathInAll", "()I"⟩
abbrev cX3_firstWithoutBreath : ByteArray := prog_5_method_11_code
def yX3_firstWithoutBreath : MethodName := ⟨RX3, "firstWithoutBreath", "()I"⟩
abbrev cX3_blownInto : ByteArray := prog_5_method_12_code
def yX3_blownInto : MethodName := ⟨RX3, "blownInto", "(I)I"⟩
abbrev cX3_changeOf : ByteArray := prog_5_method_13_code
def yX3_changeOf : MethodName := ⟨RX3, "changeOf", "(I)I"⟩
abbrev cX3_passDay : ByteArray := prog_5_method_14_code
def yX3_passDay : MethodName := ⟨RX3, "passDay", "()V"⟩
abbrev cX3_isWarmDay : ByteArray := prog_5_method_15_code
def yX3_isWarmDay : MethodName := ⟨RX3, "isWarmDay", "()Z"⟩
abbrev cX3_blownBy : ByteArray := prog_5_method_16_code
def yX3_blownBy : MethodName := ⟨RX3, "blownBy", "(I)I"⟩
abbrev cX3_gatherBlown : ByteArray := prog_5_method_17_code
def yX3_gatherBlown : MethodName := ⟨RX3, "gatherBlown", "()V"⟩
abbrev cX3_burnAll : ByteArray := prog_5_method_18_code
def yX3_burnAll : MethodName := ⟨RX3, "burnAll", "()V"⟩
abbrev cX3_burnt : ByteArray := prog_5_method_19_code
def yX3_burnt : MethodName := ⟨RX3, "burnt", "(III)I"⟩
def RX4 : String := "BellowsWords$Rows"
def TX4 : u_T := fun k => match k with
  | 0 => ("BellowsWords$Rows", "lanes", "[I", true)
  | 1 => ("BellowsWords$Rows", "lengths", "[I", true)
  | _ => ("BellowsWords$Rows", "items", "[I", true)
def tyX4 : Nat → FieldType := fun k => match k with
  | 0 => .array .int
  | 1 => .array .int
  | _ => .array .int
abbrev wsX40 : List Cond := u_ws RX4 TX4 3
theorem nmX4 : ∀ a, a < 3 → ∀ b, b < 3 → a ≠ b → (TX4 a).2.1 ≠ (TX4 b).2.1 := by decide +kernel
theorem tyX4_ok : ∀ k, k < 3 → parseFieldDescriptor (TX4 k).2.2.1 = some (tyX4 k) := by decide +kernel
abbrev cX4_init : ByteArray := prog_6_method_1_code
def yX4_init : MethodName := ⟨RX4, "<init>", "()V"⟩
abbrev cX4_start : ByteArray := prog_6_method_2_code
def yX4_start : MethodName := ⟨RX4, "start", "(I)I"⟩
abbrev cX4_isMissing : ByteArray := prog_6_method_3_code
def yX4_isMissing : MethodName := ⟨RX4, "isMissing", "(I)Z"⟩
abbrev cX4_hasPlaces : ByteArray := prog_6_method_4_code
def yX4_hasPlaces : MethodName := ⟨RX4, "hasPlaces", "(III)Z"⟩
abbrev cX4_make : ByteArray := prog_6_method_5_code
def yX4_make : MethodName := ⟨RX4, "make", "(III)V"⟩
abbrev cX4_put : ByteArray := prog_6_method_6_code
def yX4_put : MethodName := ⟨RX4, "put", "(III)I"⟩
abbrev cX4_forget : ByteArray := prog_6_method_7_code
def yX4_forget : MethodName := ⟨RX4, "forget", "(I)I"⟩
abbrev cX4_present : ByteArray := prog_6_method_8_code
def yX4_present : MethodName := ⟨RX4, "present", "()I"⟩
abbrev cX4_cutToLane : ByteArray := prog_6_method_9_code
def yX4_cutToLane : MethodName := ⟨RX4, "cutToLane", "(II)I"⟩
def RX5 : String := "BellowsWords$Tape"
def TX5 : u_T := fun k => match k with
  | 0 => ("BellowsWords$Tape", "draft", "LBellowsWords$House;", true)
  | 1 => ("BellowsWords$Tape", "bytes", "[I", true)
  | 2 => ("BellowsWords$Tape", "length", "I", false)
  | 3 => ("BellowsWords$Tape", "at", "I", false)
  | _ => ("BellowsWords$Tape", "latestFault", "I", false)
def tyX5 : Nat → FieldType := fun k => match k with
  | 0 => .object "BellowsWords$House"
  | 1 => .array .int
  | 2 => .int
  | 3 => .int
  | _ => .int
abbrev wsX50 : List Cond := u_ws RX5 TX5 5
theorem nmX5 : ∀ a, a < 5 → ∀ b, b < 5 → a ≠ b → (TX5 a).2.1 ≠ (TX5 b).2.1 := by decide +kernel
theorem tyX5_ok : ∀ k, k < 5 → parseFieldDescriptor (TX5 k).2.2.1 = some (tyX5 k) := by decide +kernel
abbrev cX5_init : ByteArray := prog_7_method_1_code
def yX5_init : MethodName := ⟨RX5, "<init>", "()V"⟩
abbrev cX5_isFull : ByteArray := prog_7_method_2_code
def yX5_isFull : MethodName := ⟨RX5, "isFull", "()Z"⟩
abbrev cX5_put : ByteArray := prog_7_method_3_code
def yX5_put : MethodName := ⟨RX5, "put", "(I)I"⟩
abbrev cX5_readWhole : ByteArray := prog_7_method_4_code
def yX5_readWhole : MethodName := ⟨RX5, "readWhole", "()Z"⟩
abbrev cX5_readLaw : ByteArray := prog_7_method_5_code
def yX5_readLaw : MethodName := ⟨RX5, "readLaw", "()Z"⟩
abbrev cX5_readHearths : ByteArray := prog_7_method_6_code
def yX5_readHearths : MethodName := ⟨RX5, "readHearths", "()Z"⟩
abbrev cX5_readHearth : ByteArray := prog_7_method_7_code
def yX5_readHearth : MethodName := ⟨RX5, "readHearth", "(I)Z"⟩
abbrev cX5_readPairs : ByteArray := prog_7_method_8_code
def yX5_readPairs : MethodName := ⟨RX5, "readPairs", "()Z"⟩
abbrev cX5_readPair : ByteArray := prog_7_method_9_code
def yX5_readPair : MethodName := ⟨RX5, "readPair", "(I)Z"⟩
abbrev cX5_standsHere : ByteArray := prog_7_method_10_code
def yX5_standsHere : MethodName := ⟨RX5, "standsHere", "(I)Z"⟩
abbrev cX5_takeByte : ByteArray := prog_7_method_11_code
def yX5_takeByte : MethodName := ⟨RX5, "takeByte", "(I)Z"⟩
abbrev cX5_takeNumber : ByteArray := prog_7_method_12_code
def yX5_takeNumber : MethodName := ⟨RX5, "takeNumber", "(II)I"⟩
abbrev cX5_refuse : ByteArray := prog_7_method_13_code
def yX5_refuse : MethodName := ⟨RX5, "refuse", "(I)Z"⟩
abbrev cX5_isFigure : ByteArray := prog_7_method_14_code
def yX5_isFigure : MethodName := ⟨RX5, "isFigure", "(I)Z"⟩
abbrev cX5_kindOfLetter : ByteArray := prog_7_method_15_code
def yX5_kindOfLetter : MethodName := ⟨RX5, "kindOfLetter", "(I)I"⟩
def RX6 : String := "BellowsWords"
def TX6 : u_T := fun k => match k with
  | 0 => ("BellowsWords", "rows", "LBellowsWords$Rows;", true)
  | 1 => ("BellowsWords", "tape", "LBellowsWords$Tape;", true)
  | 2 => ("BellowsWords", "now", "LBellowsWords$House;", true)
  | 3 => ("BellowsWords", "acts", "LBellowsWords$Acts;", true)
  | 4 => ("BellowsWords", "images", "[LBellowsWords$House;", true)
  | 5 => ("BellowsWords", "foreteller", "LBellowsWords$Foreteller;", true)
  | 6 => ("BellowsWords", "asker", "LBellowsWords$Asker;", true)
  | _ => ("BellowsWords", "finding", "I", false)
def tyX6 : Nat → FieldType := fun k => match k with
  | 0 => .object "BellowsWords$Rows"
  | 1 => .object "BellowsWords$Tape"
  | 2 => .object "BellowsWords$House"
  | 3 => .object "BellowsWords$Acts"
  | 4 => .array (.object "BellowsWords$House")
  | 5 => .object "BellowsWords$Foreteller"
  | 6 => .object "BellowsWords$Asker"
  | _ => .int
abbrev wsX60 : List Cond := u_ws RX6 TX6 8
theorem nmX6 : ∀ a, a < 8 → ∀ b, b < 8 → a ≠ b → (TX6 a).2.1 ≠ (TX6 b).2.1 := by decide +kernel
theorem tyX6_ok : ∀ k, k < 8 → parseFieldDescriptor (TX6 k).2.2.1 = some (tyX6 k) := by decide +kernel
abbrev cX6_init : ByteArray := prog_1_method_1_code
def yX6_init : MethodName := ⟨RX6, "<init>", "()V"⟩
abbrev cX6_row : ByteArray := prog_1_method_2_code
def yX6_row : MethodName := ⟨RX6, "row", "(III)I"⟩
abbrev cX6_set : ByteArray := prog_1_method_3_code
def yX6_set : MethodName := ⟨RX6, "set", "(III)I"⟩
abbrev cX6_copy : ByteArray := prog_1_method_4_code
def yX6_copy : MethodName := ⟨RX6, "copy", "(IIIII)I"⟩
abbrev cX6_drop : ByteArray := prog_1_method_5_code
def yX6_drop : MethodName := ⟨RX6, "drop", "(I)I"⟩
abbrev cX6_feed : ByteArray := prog_1_method_6_code
def yX6_feed : MethodName := ⟨RX6, "feed", "(I)I"⟩
abbrev cX6_house : ByteArray := prog_1_method_7_code
def yX6_house : MethodName := ⟨RX6, "house", "()I"⟩
abbrev cX6_fault : ByteArray := prog_1_method_8_code
def yX6_fault : MethodName := ⟨RX6, "fault", "()I"⟩
abbrev cX6_days : ByteArray := prog_1_method_9_code
def yX6_days : MethodName := ⟨RX6, "days", "(I)I"⟩
abbrev cX6_peg : ByteArray := prog_1_method_10_code
def yX6_peg : MethodName := ⟨RX6, "peg", "(II)I"⟩
abbrev cX6_move : ByteArray := prog_1_method_11_code
def yX6_move : MethodName := ⟨RX6, "move", "(II)I"⟩
abbrev cX6_light : ByteArray := prog_1_method_12_code
def yX6_light : MethodName := ⟨RX6, "light", "(II)I"⟩
abbrev cX6_weather : ByteArray := prog_1_method_13_code
def yX6_weather : MethodName := ⟨RX6, "weather", "(I)I"⟩
abbrev cX6_undo : ByteArray := prog_1_method_14_code
def yX6_undo : MethodName := ⟨RX6, "undo", "()I"⟩
abbrev cX6_pair : ByteArray := prog_1_method_15_code
def yX6_pair : MethodName := ⟨RX6, "pair", "(II)I"⟩
abbrev cX6_hearth : ByteArray := prog_1_method_16_code
def yX6_hearth : MethodName := ⟨RX6, "hearth", "(II)I"⟩
abbrev cX6_breath : ByteArray := prog_1_method_17_code
def yX6_breath : MethodName := ⟨RX6, "breath", "(II)I"⟩
abbrev cX6_fire : ByteArray := prog_1_method_18_code
def yX6_fire : MethodName := ⟨RX6, "fire", "(II)I"⟩
abbrev cX6_lit : ByteArray := prog_1_method_19_code
def yX6_lit : MethodName := ⟨RX6, "lit", "(I)I"⟩
abbrev cX6_empty : ByteArray := prog_1_method_20_code
def yX6_empty : MethodName := ⟨RX6, "empty", "(I)I"⟩
abbrev cX6_cold : ByteArray := prog_1_method_21_code
def yX6_cold : MethodName := ⟨RX6, "cold", "(I)I"⟩
abbrev cX6_best : ByteArray := prog_1_method_22_code
def yX6_best : MethodName := ⟨RX6, "best", "(III)I"⟩
abbrev cX6_draw : ByteArray := prog_1_method_23_code
def yX6_draw : MethodName := ⟨RX6, "draw", "(II)I"⟩
abbrev cX6_rests : ByteArray := prog_1_method_24_code
def yX6_rests : MethodName := ⟨RX6, "rests", "(IIII)I"⟩
abbrev cX6_fits : ByteArray := prog_1_method_25_code
def yX6_fits : MethodName := ⟨RX6, "fits", "(IIIII)I"⟩
abbrev cX6_chance : ByteArray := prog_1_method_26_code
def yX6_chance : MethodName := ⟨RX6, "chance", "(IIII)I"⟩
abbrev cX6_drawn : ByteArray := prog_1_method_27_code
def yX6_drawn : MethodName := ⟨RX6, "drawn", "(III)I"⟩
abbrev cX6_image : ByteArray := prog_1_method_28_code
def yX6_image : MethodName := ⟨RX6, "image", "(I)I"⟩
abbrev cX6_restore : ByteArray := prog_1_method_29_code
def yX6_restore : MethodName := ⟨RX6, "restore", "(I)I"⟩
abbrev cX6_kind : ByteArray := prog_1_method_30_code
def yX6_kind : MethodName := ⟨RX6, "kind", "(I)I"⟩
abbrev cX6_as : ByteArray := prog_1_method_31_code
def yX6_as : MethodName := ⟨RX6, "as", "(II)I"⟩
abbrev cX6_ask : ByteArray := prog_1_method_32_code
def yX6_ask : MethodName := ⟨RX6, "ask", "(II)I"⟩
abbrev cX6_trace : ByteArray := prog_1_method_33_code
def yX6_trace : MethodName := ⟨RX6, "trace", "(I)I"⟩
abbrev cX6_count : ByteArray := prog_1_method_34_code
def yX6_count : MethodName := ⟨RX6, "count", "(I)I"⟩
abbrev cX6_status : ByteArray := prog_1_method_35_code
def yX6_status : MethodName := ⟨RX6, "status", "()I"⟩
abbrev cX6_found : ByteArray := prog_1_method_36_code
def yX6_found : MethodName := ⟨RX6, "found", "(I)I"⟩
abbrev cX6_unfound : ByteArray := prog_1_method_37_code
def yX6_unfound : MethodName := ⟨RX6, "unfound", "(I)I"⟩
abbrev cX6_isPair : ByteArray := prog_1_method_38_code
def yX6_isPair : MethodName := ⟨RX6, "isPair", "(I)Z"⟩
abbrev cX6_isHearth : ByteArray := prog_1_method_39_code
def yX6_isHearth : MethodName := ⟨RX6, "isHearth", "(I)Z"⟩
abbrev cX6_isRow : ByteArray := prog_1_method_40_code
def yX6_isRow : MethodName := ⟨RX6, "isRow", "(I)Z"⟩
abbrev cX6_isWithin : ByteArray := prog_1_method_41_code
def yX6_isWithin : MethodName := ⟨RX6, "isWithin", "(III)Z"⟩
abbrev cX6_isOneOf : ByteArray := prog_1_method_42_code
def yX6_isOneOf : MethodName := ⟨RX6, "isOneOf", "(II)Z"⟩
abbrev cX6_power : ByteArray := prog_1_method_43_code
def yX6_power : MethodName := ⟨RX6, "power", "(II)I"⟩
abbrev cX6_greatestShared : ByteArray := prog_1_method_44_code
def yX6_greatestShared : MethodName := ⟨RX6, "greatestShared", "(II)I"⟩
def RX7 : String := "BellowsWordsModel"
def TX7 : u_T := fun k => match k with
  | 0 => ("BellowsWordsModel", "lane", "[I", true)
  | 1 => ("BellowsWordsModel", "many", "[I", true)
  | 2 => ("BellowsWordsModel", "items", "[I", true)
  | 3 => ("BellowsWordsModel", "spare", "[I", true)
  | 4 => ("BellowsWordsModel", "status", "I", false)
  | 5 => ("BellowsWordsModel", "tape", "[I", true)
  | 6 => ("BellowsWordsModel", "taped", "I", false)
  | 7 => ("BellowsWordsModel", "faultKind", "I", false)
  | 8 => ("BellowsWordsModel", "faultPlace", "I", false)
  | 9 => ("BellowsWordsModel", "at", "I", false)
  | 10 => ("BellowsWordsModel", "start", "I", false)
  | 11 => ("BellowsWordsModel", "token", "I", false)
  | 12 => ("BellowsWordsModel", "value", "I", false)
  | 13 => ("BellowsWordsModel", "now", "[I", true)
  | 14 => ("BellowsWordsModel", "draft", "[I", true)
  | 15 => ("BellowsWordsModel", "tried", "[I", true)
  | 16 => ("BellowsWordsModel", "past", "[I", true)
  | 17 => ("BellowsWordsModel", "acts", "I", false)
  | 18 => ("BellowsWordsModel", "images", "[I", true)
  | 19 => ("BellowsWordsModel", "kept", "[Z", true)
  | 20 => ("BellowsWordsModel", "fires", "[I", true)
  | 21 => ("BellowsWordsModel", "blown", "[I", true)
  | 22 => ("BellowsWordsModel", "ones", "[I", true)
  | 23 => ("BellowsWordsModel", "others", "[I", true)
  | 24 => ("BellowsWordsModel", "trace", "[I", true)
  | _ => ("BellowsWordsModel", "traced", "I", false)
def tyX7 : Nat → FieldType := fun k => match k with
  | 0 => .array .int
  | 1 => .array .int
  | 2 => .array .int
  | 3 => .array .int
  | 4 => .int
  | 5 => .array .int
  | 6 => .int
  | 7 => .int
  | 8 => .int
  | 9 => .int
  | 10 => .int
  | 11 => .int
  | 12 => .int
  | 13 => .array .int
  | 14 => .array .int
  | 15 => .array .int
  | 16 => .array .int
  | 17 => .int
  | 18 => .array .int
  | 19 => .array .boolean
  | 20 => .array .int
  | 21 => .array .int
  | 22 => .array .int
  | 23 => .array .int
  | 24 => .array .int
  | _ => .int
abbrev wsX70 : List Cond := u_ws RX7 TX7 26
theorem nmX7 : ∀ a, a < 26 → ∀ b, b < 26 → a ≠ b → (TX7 a).2.1 ≠ (TX7 b).2.1 := by decide +kernel
theorem tyX7_ok : ∀ k, k < 26 → parseFieldDescriptor (TX7 k).2.2.1 = some (tyX7 k) := by decide +kernel
abbrev cX7_init : ByteArray := prog_9_method_1_code
def yX7_init : MethodName := ⟨RX7, "<init>", "()V"⟩
abbrev cX7_in : ByteArray := prog_9_method_3_code
def yX7_in : MethodName := ⟨RX7, "in", "(III)Z"⟩
abbrev cX7_has : ByteArray := prog_9_method_4_code
def yX7_has : MethodName := ⟨RX7, "has", "(II)Z"⟩
abbrev cX7_bits : ByteArray := prog_9_method_5_code
def yX7_bits : MethodName := ⟨RX7, "bits", "(I)I"⟩
abbrev cX7_lesser : ByteArray := prog_9_method_6_code
def yX7_lesser : MethodName := ⟨RX7, "lesser", "(II)I"⟩
abbrev cX7_found : ByteArray := prog_9_method_7_code
def yX7_found : MethodName := ⟨RX7, "found", "(I)I"⟩
abbrev cX7_well : ByteArray := prog_9_method_8_code
def yX7_well : MethodName := ⟨RX7, "well", "(I)I"⟩
abbrev cX7_copies : ByteArray := prog_9_method_9_code
def yX7_copies : MethodName := ⟨RX7, "copies", "([II[II)V"⟩
abbrev cX7_isRow : ByteArray := prog_9_method_10_code
def yX7_isRow : MethodName := ⟨RX7, "isRow", "(I)Z"⟩
abbrev cX7_isMissing : ByteArray := prog_9_method_11_code
def yX7_isMissing : MethodName := ⟨RX7, "isMissing", "(I)Z"⟩
abbrev cX7_cut : ByteArray := prog_9_method_12_code
def yX7_cut : MethodName := ⟨RX7, "cut", "(II)I"⟩
abbrev cX7_row : ByteArray := prog_9_method_13_code
def yX7_row : MethodName := ⟨RX7, "row", "(III)I"⟩
abbrev cX7_set : ByteArray := prog_9_method_14_code
def yX7_set : MethodName := ⟨RX7, "set", "(III)I"⟩
abbrev cX7_isPart : ByteArray := prog_9_method_15_code
def yX7_isPart : MethodName := ⟨RX7, "isPart", "(III)Z"⟩
abbrev cX7_copy : ByteArray := prog_9_method_16_code
def yX7_copy : MethodName := ⟨RX7, "copy", "(IIIII)I"⟩
abbrev cX7_drop : ByteArray := prog_9_method_17_code
def yX7_drop : MethodName := ⟨RX7, "drop", "(I)I"⟩
abbrev cX7_feed : ByteArray := prog_9_method_18_code
def yX7_feed : MethodName := ⟨RX7, "feed", "(I)I"⟩
abbrev cX7_byteAt : ByteArray := prog_9_method_19_code
def yX7_byteAt : MethodName := ⟨RX7, "byteAt", "(I)I"⟩
abbrev cX7_advances : ByteArray := prog_9_method_20_code
def yX7_advances : MethodName := ⟨RX7, "advances", "()V"⟩
abbrev cX7_isWell : ByteArray := prog_9_method_21_code
def yX7_isWell : MethodName := ⟨RX7, "isWell", "()Z"⟩
abbrev cX7_takes : ByteArray := prog_9_method_22_code
def yX7_takes : MethodName := ⟨RX7, "takes", "(ZI)I"⟩
abbrev cX7_figure : ByteArray := prog_9_method_23_code
def yX7_figure : MethodName := ⟨RX7, "figure", "(II)I"⟩
abbrev cX7_kindOf : ByteArray := prog_9_method_24_code
def yX7_kindOf : MethodName := ⟨RX7, "kindOf", "(I)I"⟩
abbrev cX7_follows : ByteArray := prog_9_method_25_code
def yX7_follows : MethodName := ⟨RX7, "follows", "(II)I"⟩
abbrev cX7_readsHearth : ByteArray := prog_9_method_26_code
def yX7_readsHearth : MethodName := ⟨RX7, "readsHearth", "()V"⟩
abbrev cX7_readsPair : ByteArray := prog_9_method_27_code
def yX7_readsPair : MethodName := ⟨RX7, "readsPair", "()V"⟩
abbrev cX7_must : ByteArray := prog_9_method_28_code
def yX7_must : MethodName := ⟨RX7, "must", "(Z)V"⟩
abbrev cX7_house : ByteArray := prog_9_method_29_code
def yX7_house : MethodName := ⟨RX7, "house", "()I"⟩
abbrev cX7_fault : ByteArray := prog_9_method_30_code
def yX7_fault : MethodName := ⟨RX7, "fault", "()I"⟩
abbrev cX7_isHouse : ByteArray := prog_9_method_31_code
def yX7_isHouse : MethodName := ⟨RX7, "isHouse", "()Z"⟩
abbrev cX7_isPair : ByteArray := prog_9_method_32_code
def yX7_isPair : MethodName := ⟨RX7, "isPair", "(I)Z"⟩
abbrev cX7_isHearth : ByteArray := prog_9_method_33_code
def yX7_isHearth : MethodName := ⟨RX7, "isHearth", "(I)Z"⟩
abbrev cX7_isWarm : ByteArray := prog_9_method_34_code
def yX7_isWarm : MethodName := ⟨RX7, "isWarm", "([I)Z"⟩
abbrev cX7_blows : ByteArray := prog_9_method_35_code
def yX7_blows : MethodName := ⟨RX7, "blows", "([II)I"⟩
abbrev cX7_keeps : ByteArray := prog_9_method_36_code
def yX7_keeps : MethodName := ⟨RX7, "keeps", "([II)I"⟩
abbrev cX7_litOf : ByteArray := prog_9_method_37_code
def yX7_litOf : MethodName := ⟨RX7, "litOf", "([I)I"⟩
abbrev cX7_pegsOf : ByteArray := prog_9_method_38_code
def yX7_pegsOf : MethodName := ⟨RX7, "pegsOf", "([I)I"⟩
abbrev cX7_isHot : ByteArray := prog_9_method_39_code
def yX7_isHot : MethodName := ⟨RX7, "isHot", "([II)Z"⟩
abbrev cX7_burns : ByteArray := prog_9_method_40_code
def yX7_burns : MethodName := ⟨RX7, "burns", "([II)V"⟩
abbrev cX7_passes : ByteArray := prog_9_method_41_code
def yX7_passes : MethodName := ⟨RX7, "passes", "([I)V"⟩
abbrev cX7_notes : ByteArray := prog_9_method_42_code
def yX7_notes : MethodName := ⟨RX7, "notes", "()V"⟩
abbrev cX7_days : ByteArray := prog_9_method_43_code
def yX7_days : MethodName := ⟨RX7, "days", "(I)I"⟩
abbrev cX7_peg : ByteArray := prog_9_method_44_code
def yX7_peg : MethodName := ⟨RX7, "peg", "(II)I"⟩
abbrev cX7_move : ByteArray := prog_9_method_45_code
def yX7_move : MethodName := ⟨RX7, "move", "(II)I"⟩
abbrev cX7_light : ByteArray := prog_9_method_46_code
def yX7_light : MethodName := ⟨RX7, "light", "(II)I"⟩
abbrev cX7_weather : ByteArray := prog_9_method_47_code
def yX7_weather : MethodName := ⟨RX7, "weather", "(I)I"⟩
abbrev cX7_undo : ByteArray := prog_9_method_48_code
def yX7_undo : MethodName := ⟨RX7, "undo", "()I"⟩
abbrev cX7_pair : ByteArray := prog_9_method_49_code
def yX7_pair : MethodName := ⟨RX7, "pair", "(II)I"⟩
abbrev cX7_pairsAt : ByteArray := prog_9_method_50_code
def yX7_pairsAt : MethodName := ⟨RX7, "pairsAt", "(I)I"⟩
abbrev cX7_blownInto : ByteArray := prog_9_method_51_code
def yX7_blownInto : MethodName := ⟨RX7, "blownInto", "(I)I"⟩
abbrev cX7_hearth : ByteArray := prog_9_method_52_code
def yX7_hearth : MethodName := ⟨RX7, "hearth", "(II)I"⟩
abbrev cX7_goesOn : ByteArray := prog_9_method_53_code
def yX7_goesOn : MethodName := ⟨RX7, "goesOn", "(I)V"⟩
abbrev cX7_breath : ByteArray := prog_9_method_54_code
def yX7_breath : MethodName := ⟨RX7, "breath", "(II)I"⟩
abbrev cX7_fire : ByteArray := prog_9_method_55_code
def yX7_fire : MethodName := ⟨RX7, "fire", "(II)I"⟩
abbrev cX7_lit : ByteArray := prog_9_method_56_code
def yX7_lit : MethodName := ⟨RX7, "lit", "(I)I"⟩
abbrev cX7_empty : ByteArray := prog_9_method_57_code
def yX7_empty : MethodName := ⟨RX7, "empty", "(I)I"⟩
abbrev cX7_cold : ByteArray := prog_9_method_58_code
def yX7_cold : MethodName := ⟨RX7, "cold", "(I)I"⟩
abbrev cX7_isNear : ByteArray := prog_9_method_59_code
def yX7_isNear : MethodName := ⟨RX7, "isNear", "(I)Z"⟩
abbrev cX7_best : ByteArray := prog_9_method_60_code
def yX7_best : MethodName := ⟨RX7, "best", "(III)I"⟩
abbrev cX7_draw : ByteArray := prog_9_method_61_code
def yX7_draw : MethodName := ⟨RX7, "draw", "(II)I"⟩
abbrev cX7_waits : ByteArray := prog_9_method_62_code
def yX7_waits : MethodName := ⟨RX7, "waits", "(IIIII)V"⟩
abbrev cX7_isRest : ByteArray := prog_9_method_63_code
def yX7_isRest : MethodName := ⟨RX7, "isRest", "(II)Z"⟩
abbrev cX7_rests : ByteArray := prog_9_method_64_code
def yX7_rests : MethodName := ⟨RX7, "rests", "(IIII)I"⟩
abbrev cX7_keepsSo : ByteArray := prog_9_method_65_code
def yX7_keepsSo : MethodName := ⟨RX7, "keepsSo", "(IIIII)Z"⟩
abbrev cX7_fits : ByteArray := prog_9_method_66_code
def yX7_fits : MethodName := ⟨RX7, "fits", "(IIIII)I"⟩
abbrev cX7_chance : ByteArray := prog_9_method_67_code
def yX7_chance : MethodName := ⟨RX7, "chance", "(IIII)I"⟩
abbrev cX7_drawn : ByteArray := prog_9_method_68_code
def yX7_drawn : MethodName := ⟨RX7, "drawn", "(III)I"⟩
abbrev cX7_image : ByteArray := prog_9_method_69_code
def yX7_image : MethodName := ⟨RX7, "image", "(I)I"⟩
abbrev cX7_restore : ByteArray := prog_9_method_70_code
def yX7_restore : MethodName := ⟨RX7, "restore", "(I)I"⟩
abbrev cX7_kindIn : ByteArray := prog_9_method_71_code
def yX7_kindIn : MethodName := ⟨RX7, "kindIn", "(I)I"⟩
abbrev cX7_kind : ByteArray := prog_9_method_72_code
def yX7_kind : MethodName := ⟨RX7, "kind", "(I)I"⟩
abbrev cX7_as : ByteArray := prog_9_method_73_code
def yX7_as : MethodName := ⟨RX7, "as", "(II)I"⟩
abbrev cX7_begins : ByteArray := prog_9_method_74_code
def yX7_begins : MethodName := ⟨RX7, "begins", "(I)V"⟩
abbrev cX7_leatherMark : ByteArray := prog_9_method_75_code
def yX7_leatherMark : MethodName := ⟨RX7, "leatherMark", "(I)I"⟩
abbrev cX7_tinSize : ByteArray := prog_9_method_76_code
def yX7_tinSize : MethodName := ⟨RX7, "tinSize", "(I)I"⟩
abbrev cX7_leatherSize : ByteArray := prog_9_method_77_code
def yX7_leatherSize : MethodName := ⟨RX7, "leatherSize", "(I)I"⟩
abbrev cX7_tinMark : ByteArray := prog_9_method_78_code
def yX7_tinMark : MethodName := ⟨RX7, "tinMark", "(I)I"⟩
abbrev cX7_ask : ByteArray := prog_9_method_79_code
def yX7_ask : MethodName := ⟨RX7, "ask", "(II)I"⟩
abbrev cX7_trace : ByteArray := prog_9_method_80_code
def yX7_trace : MethodName := ⟨RX7, "trace", "(I)I"⟩
abbrev cX7_count : ByteArray := prog_9_method_81_code
def yX7_count : MethodName := ⟨RX7, "count", "(I)I"⟩
abbrev cX7_status : ByteArray := prog_9_method_82_code
def yX7_status : MethodName := ⟨RX7, "status", "()I"⟩
def RJ6 : String := "java/lang/Integer"
def TJ6 : u_T := fun k => match k with
  | _ => ("", "", "", false)
def tyJ6 : Nat → FieldType := fun k => match k with
  | _ => .int
abbrev wsJ60 : List Cond := u_ws RJ6 TJ6 0
theorem nmJ6 : ∀ a, a < 0 → ∀ b, b < 0 → a ≠ b → (TJ6 a).2.1 ≠ (TJ6 b).2.1 := by decide +kernel
theorem tyJ6_ok : ∀ k, k < 0 → parseFieldDescriptor (TJ6 k).2.2.1 = some (tyJ6 k) := by decide +kernel
abbrev cJ6_bitCount_0f7a4 : ByteArray := prog_10_method_49_code
def yJ6_bitCount_0f7a4 : MethodName := ⟨RJ6, "bitCount", "(I)I"⟩
def RJ9 : String := "java/lang/Math"
def TJ9 : u_T := fun k => match k with
  | _ => ("", "", "", false)
def tyJ9 : Nat → FieldType := fun k => match k with
  | _ => .int
abbrev wsJ90 : List Cond := u_ws RJ9 TJ9 0
theorem nmJ9 : ∀ a, a < 0 → ∀ b, b < 0 → a ≠ b → (TJ9 a).2.1 ≠ (TJ9 b).2.1 := by decide +kernel
theorem tyJ9_ok : ∀ k, k < 0 → parseFieldDescriptor (TJ9 k).2.2.1 = some (tyJ9 k) := by decide +kernel
abbrev cJ9_max_7cf53 : ByteArray := prog_11_method_65_code
def yJ9_max_7cf53 : MethodName := ⟨RJ9, "max", "(II)I"⟩
abbrev cJ9_min_7cf53 : ByteArray := prog_11_method_69_code
def yJ9_min_7cf53 : MethodName := ⟨RJ9, "min", "(II)I"⟩
def RJ10 : String := "java/lang/System"
def TJ10 : u_T := fun k => match k with
  | _ => ("", "", "", false)
def tyJ10 : Nat → FieldType := fun k => match k with
  | _ => .int
abbrev wsJ100 : List Cond := u_ws RJ10 TJ10 0
theorem nmJ10 : ∀ a, a < 0 → ∀ b, b < 0 → a ≠ b → (TJ10 a).2.1 ≠ (TJ10 b).2.1 := by decide +kernel
theorem tyJ10_ok : ∀ k, k < 0 → parseFieldDescriptor (TJ10 k).2.2.1 = some (tyJ10 k) := by decide +kernel
def RL : String := "BellowsWordsLaw"
abbrev cL_law : ByteArray := code
def yL_law : MethodName := ⟨RL, "law", "([I)Z"⟩
abbrev vwCl : List vw_C := [(RX0, TX0, 3), (RX1, TX1, 2), (RX2, TX2, 3), (RX3, TX3, 11), (RX4, TX4, 3), (RX5, TX5, 5), (RX6, TX6, 8), (RX7, TX7, 26)]
end
section
/-! The judgement jV: a frame of one of the system's methods over an abstract heap (a list of cells, references are places in it). -/
abbrev jC : Type := (Nat × (Nat → Int32)) ⊕ ((Nat × (Nat → Int32)) ⊕ ((Nat × (Nat → Option Nat)) ⊕ (Nat × List Value)))
abbrev jH : Type := List jC
abbrev jI (n : Nat) (f : Nat → Int32) : jC := .inl (n, f)
abbrev jZ (n : Nat) (f : Nat → Int32) : jC := .inr (.inl (n, f))
abbrev jR (n : Nat) (f : Nat → Option Nat) : jC := .inr (.inr (.inl (n, f)))
abbrev jO (k : Nat) (fs : List Value) : jC := .inr (.inr (.inr (k, fs)))
/-- the tables' words that a callee may take over -/
def jT : List Cond := lw_tbl.filter goodWord
theorem jT_good {w : Cond} (h : w ∈ jT) : goodWord w = true := (List.mem_filter.mp h).2
theorem jT_in {ws : List Cond} (h : ∀ w ∈ ws, w ∈ jT) : GoodIn jT ws := fun w hw => ⟨h w hw, good_of_word (jT_good (h w hw))⟩
theorem jT_at {w : Cond} (k : Nat) (h : lw_tbl[k]? = some w) (hg : goodWord w = true) : w ∈ jT := List.mem_filter.mpr ⟨List.mem_of_getElem? h, hg⟩
/-- base address, addresses of what lies below, classes' numbers and slots, array classes -/
abbrev jG : Type := Nat × (Nat → Nat) × va_G × ClassId × ClassId × ClassId
def jad (g : jG) (i : Nat) : Nat := if i < 1000 then g.1 + i else g.2.1 i
def jval (g : jG) (v : Value) : Value := match v with
  | .ref i => .ref (jad g i)
  | v => v
def jcell (g : jG) (c : jC) : va_E := match c with
  | .inl q => .inl (g.2.2.2.1, q.1, .inl q.2)
  | .inr (.inl q) => .inl (g.2.2.2.2.1, q.1, .inl q.2)
  | .inr (.inr (.inl q)) => .inl (g.2.2.2.2.2, q.1, .inr (.inr (.inr (.inr (fun k => (q.2 k).map (jad g))))))
  | .inr (.inr (.inr q)) => .inr (q.1, q.2.map (jval g))
def jws (g : jG) (h : jH) : va_W := h.mapIdx (fun i c => (jad g i, jcell g c))
def jA (g : jG) : Nat → Prop := fun q => g.1 ≤ q
def jtys (g : jG) : List (ClassId × FieldType) := [(g.2.2.2.1, .int), (g.2.2.2.2.1, .boolean), (g.2.2.2.2.2, .object "BellowsWords$House")]
def jRep (g : jG) (h : jH) (H : Heap) : Prop := h.length ≤ 1000 ∧ va_P g.2.2.1 vwCl (jws g h) H
/-- the five static tables -/
def jtabs : List (String × String × Nat × List Int32) := [("BellowsWords$Foreteller", "LEAST_SUPPOSED", 5, [1, 0, 0, 0, 0]), ("BellowsWords$Foreteller", "MOST_SUPPOSED", 5, [5, 15, 1, 40, 40]), ("BellowsWords", "PARENT", 6, [-1, 0, 1, 1, 0, 4]), ("BellowsWords$Asker", "SIZE_BODY", 6, [10, 11, 12, 11, 13, 14]), ("BellowsWords$Asker", "MARK_BODY", 6, [20, 21, 24, 22, 23, 23])]
def jTab (g : jG) (U : State) (H : Heap) : Prop := ∀ (j : Nat) (q : String × String × Nat × List Int32), jtabs[j]? = some q → va_Z q.1 q.2.1 "[I" (.ref (g.2.1 (1000 + j))) (jA g) U H ∧ va_T .int (g.2.1 (1000 + j)) q.2.2.1 (fun k => .int (q.2.2.2.getD k 0)) (jA g) U H
def jK (g : jG) (U : State) (H : Heap) : Prop := va_K g.2.2.1 vwCl (jtys g) U ∧ jTab g U H ∧ va_Nw (.methodLinkNest RX5 99 yX6_isWithin RX6) U ∧ va_Nw (.methodLinkNest RX2 91 yX6_power RX6) U ∧ va_AO "BellowsWords$House" U ∧ g.1 ≤ H.size
theorem jK_moved {g : jG} {u U : State} {H H1 : Heap} (hW : u.WarmedH U.vm) (h : jK g u H) (hz : H.size ≤ H1.size) (hq : ∀ q : Nat, q < H.size → ¬ jA g q → H1[q]? = H[q]?) : jK g U H1 :=
  ⟨va_K.moved hW.alike h.1, fun j q hj => ⟨va_Z.moved hW.alike ((h.2.1 j q hj).1.kept hq), va_T.moved hW.alike ((h.2.1 j q hj).2.kept hq)⟩, va_Nw.warmM hW h.2.2.1, va_Nw.warmM hW h.2.2.2.1, va_AO.moved hW.alike h.2.2.2.2.1, Nat.le_trans h.2.2.2.2.2 hz⟩
theorem jws_at {g : jG} {h : jH} {i : Nat} {c : jC} (hc : h[i]? = some c) : (jws g h)[i]? = some (jad g i, jcell g c) := by
  simp [jws, List.getElem?_mapIdx, hc]
theorem jws_of {g : jG} {h : jH} {i : Nat} {q : Nat × va_E} (hq : (jws g h)[i]? = some q) : ∃ c, h[i]? = some c ∧ q = (jad g i, jcell g c) := by
  simp only [jws, List.getElem?_mapIdx] at hq
  cases hc : h[i]? with
  | none => rw [hc] at hq; cases hq
  | some c => rw [hc] at hq; cases hq; exact ⟨c, rfl, rfl⟩
theorem jws_set {g : jG} {h : jH} {i : Nat} {c : jC} : (jws g h).set i (jad g i, jcell g c) = jws g (h.set i c) := by
  apply List.ext_getElem?
  intro k
  by_cases hk : i = k
  · subst hk
    by_cases hl : i < h.length
    · rw [List.getElem?_set_self (by simp [jws]; exact hl), jws_at (c := c) (by rw [List.getElem?_set_self hl])]
    · rw [List.getElem?_eq_none (by simp [jws]; omega), List.getElem?_eq_none (by simp [jws]; omega)]
  · rw [List.getElem?_set_ne hk]
    simp only [jws, List.getElem?_mapIdx, List.getElem?_set_ne hk]
theorem jws_push {g : jG} {h : jH} {c : jC} : jws g (h ++ [c]) = jws g h ++ [(jad g h.length, jcell g c)] := by
  simp [jws, List.mapIdx_append]
theorem jws_D {g : jG} {h : jH} (hl : h.length ≤ 1000) : va_D (jA g) (jws g h) := by
  refine ⟨fun i j p q hi hj hpq => ?_, fun k q hk => ?_⟩
  · obtain ⟨c, hc, rfl⟩ := jws_of hi
    obtain ⟨c2, hc2, rfl⟩ := jws_of hj
    have l1 := (List.getElem?_eq_some_iff.mp hc).1
    have l2 := (List.getElem?_eq_some_iff.mp hc2).1
    simp only [jad] at hpq
    rw [if_pos (by omega), if_pos (by omega)] at hpq
    omega
  · obtain ⟨c, hc, rfl⟩ := jws_of hk
    have l1 := (List.getElem?_eq_some_iff.mp hc).1
    show g.1 ≤ jad g k
    simp only [jad]
    rw [if_pos (by omega)]
    omega
theorem jRep_set {g : jG} {h : jH} {H H1 : Heap} {i : Nat} {c0 c : jC} (hR : jRep g h H) (hc : h[i]? = some c0) (he : va_at g.2.2.1 vwCl (jad g i, jcell g c) H1) (oq : ∀ q : Nat, q ≠ jad g i → H1[q]? = H[q]?) : jRep g (h.set i c) H1 := by
  refine ⟨by simp; exact hR.1, ?_⟩
  rw [← jws_set]
  exact hR.2.set (jws_D hR.1) (jws_at hc) he oq
theorem jRep_push {g : jG} {h : jH} {H H1 : Heap} {c : jC} (hR : jRep g h H) (hl : h.length < 1000) (hz : H.size = g.1 + h.length) (he : va_at g.2.2.1 vwCl (H.size, jcell g c) H1) (oq : ∀ q : Nat, q < H.size → H1[q]? = H[q]?) : jRep g (h ++ [c]) H1 := by
  refine ⟨by simp; omega, ?_⟩
  rw [jws_push]
  have e : jad g h.length = H.size := by simp only [jad]; rw [if_pos hl, hz]
  rw [e]
  refine (hR.2.kept fun k q hk => oq q.1 ((hR.2 k q hk).lt)).app (fun k q hk => ?_)
  have hz : k < 1 := (List.getElem?_eq_some_iff.mp hk).1
  rw [show k = 0 by omega] at hk
  cases hk
  exact he
/-- locals: by place; none: not known -/
def jal (g : jG) (ls : List (Option Value)) : List (Nat × Value) := ls.zipIdx.filterMap (fun q => q.1.map (fun v => (q.2, jval g v)))
theorem jal_mem {g : jG} {ls : List (Option Value)} {i : Nat} {v : Value} (h : ls[i]? = some (some v)) : (i, jval g v) ∈ jal g ls := by
  refine List.mem_filterMap.mpr ⟨(some v, i), ?_, rfl⟩
  rw [List.mem_zipIdx_iff_getElem?]
  exact h
theorem jal_of {g : jG} {ls : List (Option Value)} {q : Nat × Value} (h : q ∈ jal g ls) : ∃ v, ls[q.1]? = some (some v) ∧ q.2 = jval g v := by
  obtain ⟨x, hx, he⟩ := List.mem_filterMap.mp h
  obtain ⟨o, i⟩ := x
  rw [List.mem_zipIdx_iff_getElem?] at hx
  cases o with
  | none => cases he
  | some v => cases he; exact ⟨v, hx, rfl⟩
def jL (g : jG) (c : Code) (ls : List (Option Value)) (a : Array Slot) : Prop := ls.length = c.maxLocals ∧ lv_has a c.maxLocals (jal g ls)
theorem jL_at {g : jG} {c : Code} {ls : List (Option Value)} {a : Array Slot} (h : jL g c ls a) {i : Nat} {v : Value} (hi : ls[i]? = some (some v)) : a[i]? = some (.val (jval g v)) := h.2.2.2 _ (jal_mem hi)
def jnl : Option Value → Bool
  | some (.long _) => false
  | some (.double _) => false
  | _ => true
theorem jval_cat (g : jG) (v : Value) : (jval g v).category = v.category := by cases v <;> rfl
theorem jnl_cat {v : Value} (h : jnl (some v) = true) : v.category = 1 := by cases v <;> first | rfl | cases h
/-- the locals behind a store of one slot -/
theorem jL_set1 {g : jG} {c : Code} {ls : List (Option Value)} {a a' : Array Slot} {i : Nat} {v : Value} (h : jL g c ls a) (hi : i < ls.length) (hn : ∀ j : Nat, j + 1 = i → ∀ w : Value, ls[j]? = some (some w) → w.category = 1)
    (h' : lv_has a' c.maxLocals ((i, jval g v) :: (jal g ls).filter (fun q => !(q.1 == i) && !(q.1 + 1 == i && q.2.category == 2)))) : jL g c (ls.set i (some v)) a' := by
  refine ⟨by simp; exact h.1, h'.1, h'.2.1, fun q hq => ?_⟩
  obtain ⟨w, hw, e⟩ := jal_of hq
  refine h'.2.2 q ?_
  by_cases hk : i = q.1
  · subst hk
    rw [List.getElem?_set_self hi] at hw
    cases hw
    exact List.mem_cons.mpr (Or.inl (Prod.ext rfl e))
  · rw [List.getElem?_set_ne hk] at hw
    refine List.mem_cons_of_mem _ (List.mem_filter.mpr ⟨?_, ?_⟩)
    · have := jal_mem (g := g) hw
      rw [← e] at this
      exact this
    · have hc : q.1 + 1 = i → (q.2).category = 1 := fun z => by rw [e, jval_cat]; exact hn q.1 z w hw
      simp only [Bool.and_eq_true, Bool.not_eq_true', beq_eq_false_iff_ne, ne_eq, Bool.and_eq_false_iff]
      refine ⟨fun z => hk z.symm, ?_⟩
      by_cases z : q.1 + 1 = i
      · exact Or.inr (by rw [hc z]; decide)
      · exact Or.inl z
/-- what may still be made: none: nothing, and the heap's size isn't followed -/
abbrev jB : Type := Option (Nat × Nat)
def jbk (b : jB) : Nat := (b.map (fun q => q.1)).getD 0
def jbn (b : jB) : Nat := (b.map (fun q => q.2)).getD 0
abbrev jX : Type := Launch × jG × Program × Env × Room × State × MethodId × Array Value × List Frame × Method × Code × (State → Prop)
def jOK (cc : ByteArray) (own : String) (d : Nat) (g : jG) (p : Program) (R : Room) (s : State) (m : MethodId) (args : Array Value) (meth : Method) (c : Code) : Prop :=
  p.tables.exec = Jvm.exec ∧ c.code = cc ∧ s.vm.findClass own = some m.cls ∧ (∀ w ∈ jT, w.before args s = true) ∧ meth.locks = false ∧ d ≤ R.frames ∧ 64 * d ≤ R.locals ∧ jK g s s.heap
def jV (cc : ByteArray) (own : String) (d : Nat) (X : jX) (b : jB) (pc : Nat) (ls : List (Option Value)) (st : List Value) (h : jH) : Prop := match X with
  | (l, g, p, e, R, s, m, args, below, meth, c, Q) => jOK cc own d g p R s m args meth c → ∀ (H : Heap) (locs : List Loc) (a : Array Slot) (k n : Nat), k + jbk b ≤ R.cells → n + jbn b ≤ R.slots → jRep g h H → (b.isSome = true → H.size = g.1 + h.length) → va_S (jA g) s.heap H locs → jL g c ls a → W p l e R s m args below meth c H locs k n Q (F0 m pc a (st.map (jval g)))
def jroom (d : Nat) (b : jB) : Room := { frames := d, cells := jbk b, slots := jbn b, locals := 64 * d }
def jQc (g : jG) (b : jB) (post : Option Value → jH → Prop) : Array Value → State → Outcome → State → Prop := fun _ st oc t => (∃ (v : Option Value) (h : jH), oc = .returned (v.map (jval g)) ∧ post v h ∧ jRep g h t.heap ∧ (b.isSome = true → t.heap.size = g.1 + h.length)) ∧ va_F (jA g) st t
/-- a method's contract -/
def jM (y : MethodName) (cc : ByteArray) (maxL : Nat) (ret : Option FieldType) (d : Nat) (b : jB) (av : List Value) (h : jH) (post : Option Value → jH → Prop) : Prop :=
  ∀ (l : Launch) (g : jG), Met l y (Cond.code y cc maxL ret :: jT) (jroom d b) (va_Pc (av.map (jval g)) (fun U => jRep g h U.heap ∧ (b.isSome = true → U.heap.size = g.1 + h.length) ∧ jK g U U.heap)) (jQc g b post) (jbk b) (jbn b) (jA g)
def jRet (X : jX) (ret : Option FieldType) (b : jB) (post : Option Value → jH → Prop) : Prop := match X with
  | (_, g, _, _, R, s, _, args, below, meth, _, Q) => meth.sig.returnType = ret ∧ R.cells = jbk b ∧ R.slots = jbn b ∧ Q = MQ below (jQc g b post) args s (jbk b) (jbn b) (jA g)
def jInit (X : jX) : Prop := match X with
  | (_, _, _, _, _, _, _, _, _, meth, _, _) => meth.name = "<init>"
/-- a contract out of a walk -/
theorem jM.of {y : MethodName} {cc : ByteArray} {maxL : Nat} {ret : Option FieldType} {d : Nat} {b : jB} {av : List Value} {h : jH} {post : Option Value → jH → Prop} (hy : plainName y.cls = true) (hav : av.all (fun v => v.category == 1) = true) (hl : av.length ≤ maxL)
    (body : ∀ X : jX, jRet X ret b post → (y.name = "<init>" → jInit X) → jV cc y.cls d X b 0 (av.map some ++ List.replicate (maxL - av.length) none) [] h) : jM y cc maxL ret d b av h post := by
  intro l g
  refine Met.ofW (cc := cc) (maxL := maxL) (ret := ret) hy rfl ?_
  intro p e s m args below meth c s₁ B hml hv
  obtain ⟨rfl, hR, hz, hK⟩ := hv
  have hcat : ∀ v ∈ av, v.category = 1 := fun v hv => by simpa using List.all_eq_true.mp hav v hv
  have e1 : ∀ vs : List Value, (∀ v ∈ vs, v.category = 1) → lg_sl (vs.map (jval g)) = vs.map (fun v => Slot.val (jval g v)) := by
    intro vs
    induction vs with
    | nil => intro _; rfl
    | cons v vs ih =>
      intro hc
      have h1 : ¬ (jval g v).category = 2 := by rw [jval_cat, hc v List.mem_cons_self]; decide
      have h2 := ih (fun w hw => hc w (List.mem_cons_of_mem _ hw))
      simp only [lg_sl, List.map_cons, List.flatMap_cons, h1, if_false] at h2 ⊢
      rw [h2]; rfl
  have e2 : ∀ (vs : List Value) (k : Nat), (∀ v ∈ vs, v.category = 1) → ∀ (i : Nat) (v : Value), vs[i]? = some v → (k + i, jval g v) ∈ lv_args k (vs.map (jval g)) := by
    intro vs
    induction vs with
    | nil => intro k _ i v h; simp at h
    | cons w vs ih =>
      intro k hc i v h
      have h1 : ¬ (jval g w).category = 2 := by rw [jval_cat, hc w List.mem_cons_self]; decide
      simp only [List.map_cons, lv_args, h1, if_false]
      cases i with
      | zero => simp at h; subst h; exact List.mem_cons_self
      | succ i =>
        have := ih (k + 1) (fun w hw => hc w (List.mem_cons_of_mem _ hw)) i v (by simpa using h)
        rw [show k + (i + 1) = k + 1 + i by omega]
        exact List.mem_cons_of_mem _ this
  have hlen : (lg_sl (av.map (jval g))).length = av.length := by rw [e1 av hcat]; simp
  have hent := lv_entry (av.map (jval g)) (n := maxL) (by rw [hlen]; exact hl)
  rw [lg_entry_eq]
  refine body (l, g, p, e, jroom d b, s, m, (av.map (jval g)).toArray, below, meth, c, MQ below (jQc g b post) (av.map (jval g)).toArray s (jbk b) (jbn b) (jA g)) ⟨B.returns, rfl, rfl, rfl⟩ (fun hi => (name_of_methodNamed B.named B.method).1.trans hi)
    ⟨B.exec, B.bytes, findClass_of_methodNamed B.named, fun w hw => atoms_spec (ws := Cond.code y cc maxL ret :: jT) B.pre w (List.mem_cons_of_mem _ hw), B.notSynchronized, Nat.le_refl _, Nat.le_refl _, hK⟩ s.heap [] _ 0 0 (by simp [jroom]) (by simp [jroom]) hR hz va_S.rf ⟨by simp; omega, ?_⟩
  rw [hml]
  refine ⟨hent.1, hent.2.1, fun q hq => hent.2.2 q ?_⟩
  obtain ⟨v, h1, h2⟩ := jal_of hq
  have h3 : av[q.1]? = some v := by
    by_cases hi : q.1 < av.length
    · rw [List.getElem?_append_left (by simp; exact hi), List.getElem?_map] at h1
      cases h4 : av[q.1]? with
      | none => rw [h4] at h1; cases h1
      | some w => rw [h4] at h1; cases h1; rfl
    · rw [List.getElem?_append_right (by simp; omega)] at h1
      have := List.eq_of_mem_replicate (List.mem_of_getElem? h1)
      cases this
  have h5 := e2 av 0 hcat q.1 v h3
  rw [Nat.zero_add, ← h2] at h5
  exact h5
/-- a contract may promise less -/
theorem jM.weak {y : MethodName} {cc : ByteArray} {maxL : Nat} {ret : Option FieldType} {d : Nat} {b : jB} {av : List Value} {h : jH} {post post' : Option Value → jH → Prop} (hM : jM y cc maxL ret d b av h post) (hp : ∀ v h', post v h' → post' v h') : jM y cc maxL ret d b av h post' := by
  intro l g p e ha hc hk s m args below hf hap hP hK
  obtain ⟨k, o, h1, h2, h3, ⟨⟨v, h', q1, q2, q3⟩, q4⟩, q5⟩ := hM l g p e ha hc hk s m args below hf hap hP hK
  exact ⟨k, o, h1, h2, h3, ⟨⟨v, h', q1, hp v h' q2, q3⟩, q4⟩, q5⟩
section JV
variable {cc : ByteArray} {own : String} {d : Nat} {X : jX} {b : jB} {pc : Nat} {ls : List (Option Value)} {st : List Value} {h : jH}
/-- nothing more is made -/
theorem e_none (k : jV cc own d X none pc ls st h) : jV cc own d X b pc ls st h := by
  obtain ⟨l, g, p, e, R, s, m, args, below, meth, c, Q⟩ := X
  intro ok H locs a k' n' h1 h2 hR hz hS hL
  exact k ok H locs a k' n' (by simp [jbk]; omega) (by simp [jbn]; omega) hR (fun z => by cases z) hS hL
end JV
end
section
section JR
variable {cc : ByteArray} {own : String} {d : Nat} {X : jX} {b : jB} {pc : Nat} {ls : List (Option Value)} {st : List Value} {h : jH}
theorem e_iadd {x y : Int32} (hd : decode cc pc = .ok (.iadd, 1)) (k : jV cc own d X b (pc + 1) ls (.int (x + y) :: st) h) : jV cc own d X b (pc) ls (.int y :: .int x :: st) h := by
  obtain ⟨l, g, p, e, R, s, m, args, below, meth, c, Q⟩ := X
  intro ok H locs a k' n' h1 h2 hR hz hS hL
  exact lv_iadd ok.1 ok.2.1 hd (k ok H locs a k' n' h1 h2 hR hz hS hL)
theorem e_isub {x y : Int32} (hd : decode cc pc = .ok (.isub, 1)) (k : jV cc own d X b (pc + 1) ls (.int (x - y) :: st) h) : jV cc own d X b (pc) ls (.int y :: .int x :: st) h := by
  obtain ⟨l, g, p, e, R, s, m, args, below, meth, c, Q⟩ := X
  intro ok H locs a k' n' h1 h2 hR hz hS hL
  exact lv_isub ok.1 ok.2.1 hd (k ok H locs a k' n' h1 h2 hR hz hS hL)
theorem e_imul {x y : Int32} (hd : decode cc pc = .ok (.imul, 1)) (k : jV cc own d X b (pc + 1) ls (.int (x * y) :: st) h) : jV cc own d X b (pc) ls (.int y :: .int x :: st) h := by
  obtain ⟨l, g, p, e, R, s, m, args, below, meth, c, Q⟩ := X
  intro ok H locs a k' n' h1 h2 hR hz hS hL
  exact lv_imul ok.1 ok.2.1 hd (k ok H locs a k' n' h1 h2 hR hz hS hL)
theorem e_iand {x y : Int32} (hd : decode cc pc = .ok (.iand, 1)) (k : jV cc own d X b (pc + 1) ls (.int (x &&& y) :: st) h) : jV cc own d X b (pc) ls (.int y :: .int x :: st) h := by
  obtain ⟨l, g, p, e, R, s, m, args, below, meth, c, Q⟩ := X
  intro ok H locs a k' n' h1 h2 hR hz hS hL
  exact lv_iand ok.1 ok.2.1 hd (k ok H locs a k' n' h1 h2 hR hz hS hL)
theorem e_ior {x y : Int32} (hd : decode cc pc = .ok (.ior, 1)) (k : jV cc own d X b (pc + 1) ls (.int (x ||| y) :: st) h) : jV cc own d X b (pc) ls (.int y :: .int x :: st) h := by
  obtain ⟨l, g, p, e, R, s, m, args, below, meth, c, Q⟩ := X
  intro ok H locs a k' n' h1 h2 hR hz hS hL
  exact lv_ior ok.1 ok.2.1 hd (k ok H locs a k' n' h1 h2 hR hz hS hL)
theorem e_ishl {x y : Int32} (hd : decode cc pc = .ok (.ishl, 1)) (k : jV cc own d X b (pc + 1) ls (.int (x <<< (y &&& 31)) :: st) h) : jV cc own d X b (pc) ls (.int y :: .int x :: st) h := by
  obtain ⟨l, g, p, e, R, s, m, args, below, meth, c, Q⟩ := X
  intro ok H locs a k' n' h1 h2 hR hz hS hL
  exact lv_ishl ok.1 ok.2.1 hd (k ok H locs a k' n' h1 h2 hR hz hS hL)
theorem e_ishr {x y : Int32} (hd : decode cc pc = .ok (.ishr, 1)) (k : jV cc own d X b (pc + 1) ls (.int (x >>> (y &&& 31)) :: st) h) : jV cc own d X b (pc) ls (.int y :: .int x :: st) h := by
  obtain ⟨l, g, p, e, R, s, m, args, below, meth, c, Q⟩ := X
  intro ok H locs a k' n' h1 h2 hR hz hS hL
  exact lv_ishr ok.1 ok.2.1 hd (k ok H locs a k' n' h1 h2 hR hz hS hL)
theorem e_iushr {x y : Int32} (hd : decode cc pc = .ok (.iushr, 1)) (k : jV cc own d X b (pc + 1) ls (.int (x.toUInt32 >>> (y.toUInt32 &&& Int32.toUInt32 31)).toInt32 :: st) h) : jV cc own d X b (pc) ls (.int y :: .int x :: st) h := by
  obtain ⟨l, g, p, e, R, s, m, args, below, meth, c, Q⟩ := X
  intro ok H locs a k' n' h1 h2 hR hz hS hL
  exact lv_iushr ok.1 ok.2.1 hd rfl (k ok H locs a k' n' h1 h2 hR hz hS hL)
theorem e_idiv {x y : Int32} (hd : decode cc pc = .ok (.idiv, 1)) (hne : ¬ y = 0) (k : jV cc own d X b (pc + 1) ls (.int (x / y) :: st) h) : jV cc own d X b (pc) ls (.int y :: .int x :: st) h := by
  obtain ⟨l, g, p, e, R, s, m, args, below, meth, c, Q⟩ := X
  intro ok H locs a k' n' h1 h2 hR hz hS hL
  exact lv_idiv ok.1 ok.2.1 hd hne (k ok H locs a k' n' h1 h2 hR hz hS hL)
theorem e_irem {x y : Int32} (hd : decode cc pc = .ok (.irem, 1)) (hne : ¬ y = 0) (k : jV cc own d X b (pc + 1) ls (.int (x - x / y * y) :: st) h) : jV cc own d X b (pc) ls (.int y :: .int x :: st) h := by
  obtain ⟨l, g, p, e, R, s, m, args, below, meth, c, Q⟩ := X
  intro ok H locs a k' n' h1 h2 hR hz hS hL
  exact lv_irem ok.1 ok.2.1 hd hne (k ok H locs a k' n' h1 h2 hR hz hS hL)
theorem e_ineg {x : Int32} (hd : decode cc pc = .ok (.ineg, 1)) (k : jV cc own d X b (pc + 1) ls (.int (-x) :: st) h) : jV cc own d X b (pc) ls (.int x :: st) h := by
  obtain ⟨l, g, p, e, R, s, m, args, below, meth, c, Q⟩ := X
  intro ok H locs a k' n' h1 h2 hR hz hS hL
  exact lv_ineg ok.1 ok.2.1 hd (k ok H locs a k' n' h1 h2 hR hz hS hL)
theorem e_i2b {x : Int32} (hd : decode cc pc = .ok (.i2b, 1)) (k : jV cc own d X b (pc + 1) ls (.int x.toInt8.toInt32 :: st) h) : jV cc own d X b (pc) ls (.int x :: st) h := by
  obtain ⟨l, g, p, e, R, s, m, args, below, meth, c, Q⟩ := X
  intro ok H locs a k' n' h1 h2 hR hz hS hL
  exact lv_i2b ok.1 ok.2.1 hd rfl (k ok H locs a k' n' h1 h2 hR hz hS hL)
theorem e_i2s {x : Int32} (hd : decode cc pc = .ok (.i2s, 1)) (k : jV cc own d X b (pc + 1) ls (.int x.toInt16.toInt32 :: st) h) : jV cc own d X b (pc) ls (.int x :: st) h := by
  obtain ⟨l, g, p, e, R, s, m, args, below, meth, c, Q⟩ := X
  intro ok H locs a k' n' h1 h2 hR hz hS hL
  exact lv_i2s ok.1 ok.2.1 hd rfl (k ok H locs a k' n' h1 h2 hR hz hS hL)
theorem e_i2l {x : Int32} (hd : decode cc pc = .ok (.i2l, 1)) (k : jV cc own d X b (pc + 1) ls (.long x.toInt64 :: st) h) : jV cc own d X b (pc) ls (.int x :: st) h := by
  obtain ⟨l, g, p, e, R, s, m, args, below, meth, c, Q⟩ := X
  intro ok H locs a k' n' h1 h2 hR hz hS hL
  exact lv_i2l ok.1 ok.2.1 hd rfl (k ok H locs a k' n' h1 h2 hR hz hS hL)
theorem e_l2i {x : Int64} (hd : decode cc pc = .ok (.l2i, 1)) (k : jV cc own d X b (pc + 1) ls (.int x.toInt32 :: st) h) : jV cc own d X b (pc) ls (.long x :: st) h := by
  obtain ⟨l, g, p, e, R, s, m, args, below, meth, c, Q⟩ := X
  intro ok H locs a k' n' h1 h2 hR hz hS hL
  exact lv_l2i ok.1 ok.2.1 hd rfl (k ok H locs a k' n' h1 h2 hR hz hS hL)
theorem e_lmul {x y : Int64} (hd : decode cc pc = .ok (.lmul, 1)) (k : jV cc own d X b (pc + 1) ls (.long (x * y) :: st) h) : jV cc own d X b (pc) ls (.long y :: .long x :: st) h := by
  obtain ⟨l, g, p, e, R, s, m, args, below, meth, c, Q⟩ := X
  intro ok H locs a k' n' h1 h2 hR hz hS hL
  exact lv_lmul ok.1 ok.2.1 hd (k ok H locs a k' n' h1 h2 hR hz hS hL)
theorem e_lrem {x y : Int64} (hd : decode cc pc = .ok (.lrem, 1)) (hne : ¬ y = 0) (k : jV cc own d X b (pc + 1) ls (.long (x - x / y * y) :: st) h) : jV cc own d X b (pc) ls (.long y :: .long x :: st) h := by
  obtain ⟨l, g, p, e, R, s, m, args, below, meth, c, Q⟩ := X
  intro ok H locs a k' n' h1 h2 hR hz hS hL
  exact lv_lrem ok.1 ok.2.1 hd hne (k ok H locs a k' n' h1 h2 hR hz hS hL)
theorem e_lcmp {x y : Int64} (hd : decode cc pc = .ok (.lcmp, 1)) (k : jV cc own d X b (pc + 1) ls (.int (lg_cmp x y) :: st) h) : jV cc own d X b (pc) ls (.long y :: .long x :: st) h := by
  obtain ⟨l, g, p, e, R, s, m, args, below, meth, c, Q⟩ := X
  intro ok H locs a k' n' h1 h2 hR hz hS hL
  exact W.lcmp ok.1 ok.2.1 hd (k ok H locs a k' n' h1 h2 hR hz hS hL)
theorem e_iconst {n : Int} (v : Int32) (hd : decode cc pc = .ok (.iconst n, 1)) (hv : Int32.ofInt n = v) (k : jV cc own d X b (pc + 1) ls (.int v :: st) h) : jV cc own d X b (pc) ls (st) h := by
  obtain ⟨l, g, p, e, R, s, m, args, below, meth, c, Q⟩ := X
  intro ok H locs a k' n' h1 h2 hR hz hS hL
  exact lv_iconst ok.1 ok.2.1 hd hv (k ok H locs a k' n' h1 h2 hR hz hS hL)
theorem e_bipush {n : Int} (v : Int32) (hd : decode cc pc = .ok (.bipush n, 2)) (hv : (Int8.ofInt n).toInt32 = v) (k : jV cc own d X b (pc + 2) ls (.int v :: st) h) : jV cc own d X b (pc) ls (st) h := by
  obtain ⟨l, g, p, e, R, s, m, args, below, meth, c, Q⟩ := X
  intro ok H locs a k' n' h1 h2 hR hz hS hL
  exact lv_bipush ok.1 ok.2.1 hd hv (k ok H locs a k' n' h1 h2 hR hz hS hL)
theorem e_sipush {n : Int} (v : Int32) (hd : decode cc pc = .ok (.sipush n, 3)) (hv : (Int16.ofInt n).toInt32 = v) (k : jV cc own d X b (pc + 3) ls (.int v :: st) h) : jV cc own d X b (pc) ls (st) h := by
  obtain ⟨l, g, p, e, R, s, m, args, below, meth, c, Q⟩ := X
  intro ok H locs a k' n' h1 h2 hR hz hS hL
  exact lv_sipush ok.1 ok.2.1 hd hv (k ok H locs a k' n' h1 h2 hR hz hS hL)
theorem e_lconst {n : Fin 2} (v : Int64) (hd : decode cc pc = .ok (.lconst n, 1)) (hv : Int64.ofNat (n : Nat) = v) (k : jV cc own d X b (pc + 1) ls (.long v :: st) h) : jV cc own d X b (pc) ls (st) h := by
  obtain ⟨l, g, p, e, R, s, m, args, below, meth, c, Q⟩ := X
  intro ok H locs a k' n' h1 h2 hR hz hS hL
  exact lv_lconst ok.1 ok.2.1 hd hv (k ok H locs a k' n' h1 h2 hR hz hS hL)
theorem e_ldc {i : Nat} {v : Int32} (hd : decode cc pc = .ok (.ldc i, 2)) (hc : Cond.constant own i v ∈ jT) (k : jV cc own d X b (pc + 2) ls (.int v :: st) h) : jV cc own d X b (pc) ls (st) h := by
  obtain ⟨l, g, p, e, R, s, m, args, below, meth, c, Q⟩ := X
  intro ok H locs a k' n' h1 h2 hR hz hS hL
  exact lv_ldc ok.1 ok.2.1 ok.2.2.1 (ok.2.2.2.1 _ hc) hd (k ok H locs a k' n' h1 h2 hR hz hS hL)
theorem e_ldcw {i : Nat} {v : Int32} (hd : decode cc pc = .ok (.ldc_w i, 3)) (hc : Cond.constant own i v ∈ jT) (k : jV cc own d X b (pc + 3) ls (.int v :: st) h) : jV cc own d X b (pc) ls (st) h := by
  obtain ⟨l, g, p, e, R, s, m, args, below, meth, c, Q⟩ := X
  intro ok H locs a k' n' h1 h2 hR hz hS hL
  exact lv_ldcw ok.1 ok.2.1 ok.2.2.1 (ok.2.2.2.1 _ hc) hd (k ok H locs a k' n' h1 h2 hR hz hS hL)
theorem e_ldc2 {i : Nat} {v : Int64} (hd : decode cc pc = .ok (.ldc2_w i, 3)) (hc : Cond.constantLong own i v ∈ jT) (k : jV cc own d X b (pc + 3) ls (.long v :: st) h) : jV cc own d X b (pc) ls (st) h := by
  obtain ⟨l, g, p, e, R, s, m, args, below, meth, c, Q⟩ := X
  intro ok H locs a k' n' h1 h2 hR hz hS hL
  exact lv_ldc2 ok.1 ok.2.1 ok.2.2.1 (ok.2.2.2.1 _ hc) hd (k ok H locs a k' n' h1 h2 hR hz hS hL)
theorem e_dup {v : Value} (hd : decode cc pc = .ok (.dup, 1)) (hv : v.category = 1) (k : jV cc own d X b (pc + 1) ls (v :: v :: st) h) : jV cc own d X b (pc) ls (v :: st) h := by
  obtain ⟨l, g, p, e, R, s, m, args, below, meth, c, Q⟩ := X
  intro ok H locs a k' n' h1 h2 hR hz hS hL
  exact lv_dup ok.1 ok.2.1 hd (by rw [jval_cat]; exact hv) (k ok H locs a k' n' h1 h2 hR hz hS hL)
theorem e_pop {v : Value} (hd : decode cc pc = .ok (.pop, 1)) (hv : v.category = 1) (k : jV cc own d X b (pc + 1) ls (st) h) : jV cc own d X b (pc) ls (v :: st) h := by
  obtain ⟨l, g, p, e, R, s, m, args, below, meth, c, Q⟩ := X
  intro ok H locs a k' n' h1 h2 hR hz hS hL
  exact lv_pop ok.1 ok.2.1 hd (by rw [jval_cat]; exact hv) (k ok H locs a k' n' h1 h2 hR hz hS hL)
theorem e_dup2 {v w : Value} (hd : decode cc pc = .ok (.dup2, 1)) (hv : v.category = 1) (hw : w.category = 1) (k : jV cc own d X b (pc + 1) ls (v :: w :: v :: w :: st) h) : jV cc own d X b (pc) ls (v :: w :: st) h := by
  obtain ⟨l, g, p, e, R, s, m, args, below, meth, c, Q⟩ := X
  intro ok H locs a k' n' h1 h2 hR hz hS hL
  exact lv_dup2_11 ok.1 ok.2.1 hd (by rw [jval_cat]; exact hv) (by rw [jval_cat]; exact hw) (k ok H locs a k' n' h1 h2 hR hz hS hL)
theorem e_if_eq {x : Int32} {off : Int} (tgt : Nat) (hd : decode cc pc = .ok (.ifCond .eq off, 3)) (ht : (pc : Int) + off = (tgt : Int)) (kt : x = 0 → jV cc own d X b (tgt) ls (st) h) (kf : ¬ x = 0 → jV cc own d X b (pc + 3) ls (st) h) : jV cc own d X b (pc) ls (.int x :: st) h := by
  obtain ⟨l, g, p, e, R, s, m, args, below, meth, c, Q⟩ := X
  intro ok H locs a k' n' h1 h2 hR hz hS hL
  exact lv_if_eq ok.1 ok.2.1 hd ht (fun z => kt z ok H locs a k' n' h1 h2 hR hz hS hL) (fun z => kf z ok H locs a k' n' h1 h2 hR hz hS hL)
theorem e_ic_eq {x y : Int32} {off : Int} (tgt : Nat) (hd : decode cc pc = .ok (.if_icmp .eq off, 3)) (ht : (pc : Int) + off = (tgt : Int)) (kt : x = y → jV cc own d X b (tgt) ls (st) h) (kf : ¬ x = y → jV cc own d X b (pc + 3) ls (st) h) : jV cc own d X b (pc) ls (.int y :: .int x :: st) h := by
  obtain ⟨l, g, p, e, R, s, m, args, below, meth, c, Q⟩ := X
  intro ok H locs a k' n' h1 h2 hR hz hS hL
  exact lv_icmp_eq ok.1 ok.2.1 hd ht (fun z => kt z ok H locs a k' n' h1 h2 hR hz hS hL) (fun z => kf z ok H locs a k' n' h1 h2 hR hz hS hL)
theorem e_if_ne {x : Int32} {off : Int} (tgt : Nat) (hd : decode cc pc = .ok (.ifCond .ne off, 3)) (ht : (pc : Int) + off = (tgt : Int)) (kt : ¬ x = 0 → jV cc own d X b (tgt) ls (st) h) (kf : x = 0 → jV cc own d X b (pc + 3) ls (st) h) : jV cc own d X b (pc) ls (.int x :: st) h := by
  obtain ⟨l, g, p, e, R, s, m, args, below, meth, c, Q⟩ := X
  intro ok H locs a k' n' h1 h2 hR hz hS hL
  exact lv_if_ne ok.1 ok.2.1 hd ht (fun z => kt z ok H locs a k' n' h1 h2 hR hz hS hL) (fun z => kf z ok H locs a k' n' h1 h2 hR hz hS hL)
theorem e_ic_ne {x y : Int32} {off : Int} (tgt : Nat) (hd : decode cc pc = .ok (.if_icmp .ne off, 3)) (ht : (pc : Int) + off = (tgt : Int)) (kt : ¬ x = y → jV cc own d X b (tgt) ls (st) h) (kf : x = y → jV cc own d X b (pc + 3) ls (st) h) : jV cc own d X b (pc) ls (.int y :: .int x :: st) h := by
  obtain ⟨l, g, p, e, R, s, m, args, below, meth, c, Q⟩ := X
  intro ok H locs a k' n' h1 h2 hR hz hS hL
  exact lv_icmp_ne ok.1 ok.2.1 hd ht (fun z => kt z ok H locs a k' n' h1 h2 hR hz hS hL) (fun z => kf z ok H locs a k' n' h1 h2 hR hz hS hL)
theorem e_if_lt {x : Int32} {off : Int} (tgt : Nat) (hd : decode cc pc = .ok (.ifCond .lt off, 3)) (ht : (pc : Int) + off = (tgt : Int)) (kt : x < 0 → jV cc own d X b (tgt) ls (st) h) (kf : ¬ x < 0 → jV cc own d X b (pc + 3) ls (st) h) : jV cc own d X b (pc) ls (.int x :: st) h := by
  obtain ⟨l, g, p, e, R, s, m, args, below, meth, c, Q⟩ := X
  intro ok H locs a k' n' h1 h2 hR hz hS hL
  exact lv_if_lt ok.1 ok.2.1 hd ht (fun z => kt z ok H locs a k' n' h1 h2 hR hz hS hL) (fun z => kf z ok H locs a k' n' h1 h2 hR hz hS hL)
theorem e_ic_lt {x y : Int32} {off : Int} (tgt : Nat) (hd : decode cc pc = .ok (.if_icmp .lt off, 3)) (ht : (pc : Int) + off = (tgt : Int)) (kt : x < y → jV cc own d X b (tgt) ls (st) h) (kf : ¬ x < y → jV cc own d X b (pc + 3) ls (st) h) : jV cc own d X b (pc) ls (.int y :: .int x :: st) h := by
  obtain ⟨l, g, p, e, R, s, m, args, below, meth, c, Q⟩ := X
  intro ok H locs a k' n' h1 h2 hR hz hS hL
  exact lv_icmp_lt ok.1 ok.2.1 hd ht (fun z => kt z ok H locs a k' n' h1 h2 hR hz hS hL) (fun z => kf z ok H locs a k' n' h1 h2 hR hz hS hL)
theorem e_if_ge {x : Int32} {off : Int} (tgt : Nat) (hd : decode cc pc = .ok (.ifCond .ge off, 3)) (ht : (pc : Int) + off = (tgt : Int)) (kt : 0 ≤ x → jV cc own d X b (tgt) ls (st) h) (kf : ¬ 0 ≤ x → jV cc own d X b (pc + 3) ls (st) h) : jV cc own d X b (pc) ls (.int x :: st) h := by
  obtain ⟨l, g, p, e, R, s, m, args, below, meth, c, Q⟩ := X
  intro ok H locs a k' n' h1 h2 hR hz hS hL
  exact lv_if_ge ok.1 ok.2.1 hd ht (fun z => kt z ok H locs a k' n' h1 h2 hR hz hS hL) (fun z => kf z ok H locs a k' n' h1 h2 hR hz hS hL)
theorem e_ic_ge {x y : Int32} {off : Int} (tgt : Nat) (hd : decode cc pc = .ok (.if_icmp .ge off, 3)) (ht : (pc : Int) + off = (tgt : Int)) (kt : y ≤ x → jV cc own d X b (tgt) ls (st) h) (kf : ¬ y ≤ x → jV cc own d X b (pc + 3) ls (st) h) : jV cc own d X b (pc) ls (.int y :: .int x :: st) h := by
  obtain ⟨l, g, p, e, R, s, m, args, below, meth, c, Q⟩ := X
  intro ok H locs a k' n' h1 h2 hR hz hS hL
  exact lv_icmp_ge ok.1 ok.2.1 hd ht (fun z => kt z ok H locs a k' n' h1 h2 hR hz hS hL) (fun z => kf z ok H locs a k' n' h1 h2 hR hz hS hL)
theorem e_if_gt {x : Int32} {off : Int} (tgt : Nat) (hd : decode cc pc = .ok (.ifCond .gt off, 3)) (ht : (pc : Int) + off = (tgt : Int)) (kt : 0 < x → jV cc own d X b (tgt) ls (st) h) (kf : ¬ 0 < x → jV cc own d X b (pc + 3) ls (st) h) : jV cc own d X b (pc) ls (.int x :: st) h := by
  obtain ⟨l, g, p, e, R, s, m, args, below, meth, c, Q⟩ := X
  intro ok H locs a k' n' h1 h2 hR hz hS hL
  exact lv_if_gt ok.1 ok.2.1 hd ht (fun z => kt z ok H locs a k' n' h1 h2 hR hz hS hL) (fun z => kf z ok H locs a k' n' h1 h2 hR hz hS hL)
theorem e_ic_gt {x y : Int32} {off : Int} (tgt : Nat) (hd : decode cc pc = .ok (.if_icmp .gt off, 3)) (ht : (pc : Int) + off = (tgt : Int)) (kt : y < x → jV cc own d X b (tgt) ls (st) h) (kf : ¬ y < x → jV cc own d X b (pc + 3) ls (st) h) : jV cc own d X b (pc) ls (.int y :: .int x :: st) h := by
  obtain ⟨l, g, p, e, R, s, m, args, below, meth, c, Q⟩ := X
  intro ok H locs a k' n' h1 h2 hR hz hS hL
  exact lv_icmp_gt ok.1 ok.2.1 hd ht (fun z => kt z ok H locs a k' n' h1 h2 hR hz hS hL) (fun z => kf z ok H locs a k' n' h1 h2 hR hz hS hL)
theorem e_if_le {x : Int32} {off : Int} (tgt : Nat) (hd : decode cc pc = .ok (.ifCond .le off, 3)) (ht : (pc : Int) + off = (tgt : Int)) (kt : x ≤ 0 → jV cc own d X b (tgt) ls (st) h) (kf : ¬ x ≤ 0 → jV cc own d X b (pc + 3) ls (st) h) : jV cc own d X b (pc) ls (.int x :: st) h := by
  obtain ⟨l, g, p, e, R, s, m, args, below, meth, c, Q⟩ := X
  intro ok H locs a k' n' h1 h2 hR hz hS hL
  exact lv_if_le ok.1 ok.2.1 hd ht (fun z => kt z ok H locs a k' n' h1 h2 hR hz hS hL) (fun z => kf z ok H locs a k' n' h1 h2 hR hz hS hL)
theorem e_ic_le {x y : Int32} {off : Int} (tgt : Nat) (hd : decode cc pc = .ok (.if_icmp .le off, 3)) (ht : (pc : Int) + off = (tgt : Int)) (kt : x ≤ y → jV cc own d X b (tgt) ls (st) h) (kf : ¬ x ≤ y → jV cc own d X b (pc + 3) ls (st) h) : jV cc own d X b (pc) ls (.int y :: .int x :: st) h := by
  obtain ⟨l, g, p, e, R, s, m, args, below, meth, c, Q⟩ := X
  intro ok H locs a k' n' h1 h2 hR hz hS hL
  exact lv_icmp_le ok.1 ok.2.1 hd ht (fun z => kt z ok H locs a k' n' h1 h2 hR hz hS hL) (fun z => kf z ok H locs a k' n' h1 h2 hR hz hS hL)
theorem e_goto {off : Int} (tgt : Nat) (hd : decode cc pc = .ok (.goto off, 3)) (ht : (pc : Int) + off = (tgt : Int)) (k : jV cc own d X b (tgt) ls (st) h) : jV cc own d X b (pc) ls (st) h := by
  obtain ⟨l, g, p, e, R, s, m, args, below, meth, c, Q⟩ := X
  intro ok H locs a k' n' h1 h2 hR hz hS hL
  exact lv_goto ok.1 ok.2.1 hd ht (k ok H locs a k' n' h1 h2 hR hz hS hL)
theorem e_tin {dflt lo hi : Int} {offs : Array Int} {len : Nat} {x : Int32} {off : Int} (tgt : Nat) (hd : decode cc pc = .ok (.tableswitch dflt lo hi offs, len)) (q1 : ¬ x.toInt < lo) (q2 : ¬ hi < x.toInt) (ho : offs[(x.toInt - lo).toNat]? = some off) (ht : (pc : Int) + off = (tgt : Int)) (k : jV cc own d X b (tgt) ls (st) h) : jV cc own d X b (pc) ls (.int x :: st) h := by
  obtain ⟨l, g, p, e, R, s, m, args, below, meth, c, Q⟩ := X
  intro ok H locs a k' n' h1 h2 hR hz hS hL
  exact lv_tableIn ok.1 ok.2.1 hd q1 q2 ho ht (k ok H locs a k' n' h1 h2 hR hz hS hL)
theorem e_tout {dflt lo hi : Int} {offs : Array Int} {len : Nat} {x : Int32} (tgt : Nat) (hd : decode cc pc = .ok (.tableswitch dflt lo hi offs, len)) (q : x.toInt < lo ∨ hi < x.toInt) (ht : (pc : Int) + dflt = (tgt : Int)) (k : jV cc own d X b (tgt) ls (st) h) : jV cc own d X b (pc) ls (.int x :: st) h := by
  obtain ⟨l, g, p, e, R, s, m, args, below, meth, c, Q⟩ := X
  intro ok H locs a k' n' h1 h2 hR hz hS hL
  exact lv_tableOut ok.1 ok.2.1 hd q ht (k ok H locs a k' n' h1 h2 hR hz hS hL)
theorem e_look {dflt : Int} {ps : Array (Int × Int)} {len : Nat} {x : Int32} {off : Int} (tgt : Nat) (hd : decode cc pc = .ok (.lookupswitch dflt ps, len)) (hp : (ps.toList.zip (ps.toList.drop 1)).all (fun (a, next) => a.1 < next.1) = true) (ho : Op.lookupswitch.offset ps.toList dflt x.toInt = off) (ht : (pc : Int) + off = (tgt : Int)) (k : jV cc own d X b (tgt) ls (st) h) : jV cc own d X b (pc) ls (.int x :: st) h := by
  obtain ⟨l, g, p, e, R, s, m, args, below, meth, c, Q⟩ := X
  intro ok H locs a k' n' h1 h2 hR hz hS hL
  exact lv_lookup ok.1 ok.2.1 hd hp ho ht (k ok H locs a k' n' h1 h2 hR hz hS hL)
theorem eg_iload_n {q : Fin 4} {x : Int32} (hd : decode cc pc = .ok (.iload_n q, 1)) (hl : ls[(q : Nat)]? = some (some (.int x))) (k : jV cc own d X b (pc + 1) ls (.int x :: st) h) : jV cc own d X b (pc) ls (st) h := by
  obtain ⟨l, g, p, e, R, s, m, args, below, meth, c, Q⟩ := X
  intro ok H locs a k' n' h1 h2 hR hz hS hL
  exact lv_iload_n ok.1 ok.2.1 hd rfl (jL_at hL hl) (k ok H locs a k' n' h1 h2 hR hz hS hL)
theorem eg_aload_n {q : Fin 4} {x : Nat} (hd : decode cc pc = .ok (.aload_n q, 1)) (hl : ls[(q : Nat)]? = some (some (.ref x))) (k : jV cc own d X b (pc + 1) ls (.ref x :: st) h) : jV cc own d X b (pc) ls (st) h := by
  obtain ⟨l, g, p, e, R, s, m, args, below, meth, c, Q⟩ := X
  intro ok H locs a k' n' h1 h2 hR hz hS hL
  exact lv_aload_n ok.1 ok.2.1 hd rfl (jL_at hL hl) (k ok H locs a k' n' h1 h2 hR hz hS hL)
theorem eg_iload {q : Nat} {x : Int32} (hd : decode cc pc = .ok (.iload q, 2)) (hl : ls[q]? = some (some (.int x))) (k : jV cc own d X b (pc + 2) ls (.int x :: st) h) : jV cc own d X b (pc) ls (st) h := by
  obtain ⟨l, g, p, e, R, s, m, args, below, meth, c, Q⟩ := X
  intro ok H locs a k' n' h1 h2 hR hz hS hL
  exact lv_iload ok.1 ok.2.1 hd (jL_at hL hl) (k ok H locs a k' n' h1 h2 hR hz hS hL)
theorem eg_aload {q : Nat} {x : Nat} (hd : decode cc pc = .ok (.aload q, 2)) (hl : ls[q]? = some (some (.ref x))) (k : jV cc own d X b (pc + 2) ls (.ref x :: st) h) : jV cc own d X b (pc) ls (st) h := by
  obtain ⟨l, g, p, e, R, s, m, args, below, meth, c, Q⟩ := X
  intro ok H locs a k' n' h1 h2 hR hz hS hL
  exact lv_aload ok.1 ok.2.1 hd (jL_at hL hl) (k ok H locs a k' n' h1 h2 hR hz hS hL)
theorem eg_lload {q : Nat} {x : Int64} (hd : decode cc pc = .ok (.lload q, 2)) (hl : ls[q]? = some (some (.long x))) (k : jV cc own d X b (pc + 2) ls (.long x :: st) h) : jV cc own d X b (pc) ls (st) h := by
  obtain ⟨l, g, p, e, R, s, m, args, below, meth, c, Q⟩ := X
  intro ok H locs a k' n' h1 h2 hR hz hS hL
  exact lv_lload ok.1 ok.2.1 hd (jL_at hL hl) (k ok H locs a k' n' h1 h2 hR hz hS hL)
theorem eg_istore_n {q : Fin 4} {x : Int32} (hd : decode cc pc = .ok (.istore_n q, 1)) (hi : (q : Nat) < ls.length) (hn : ∀ j : Nat, j + 1 = (q : Nat) → ∀ w : Value, ls[j]? = some (some w) → w.category = 1) (k : jV cc own d X b (pc + 1) (ls.set (q : Nat) (some (.int x))) (st) h) : jV cc own d X b (pc) ls (.int x :: st) h := by
  obtain ⟨l, g, p, e, R, s, m, args, below, meth, c, Q⟩ := X
  intro ok H locs a k' n' h1 h2 hR hz hS hL
  exact lv_istore_n ok.1 ok.2.1 hd rfl hL.2 (by rw [← hL.1]; exact hi) rfl (fun a' h' => k ok H locs a' k' n' h1 h2 hR hz hS (jL_set1 (v := .int x) hL hi hn h'))
theorem eg_istore {q : Nat} {x : Int32} (hd : decode cc pc = .ok (.istore q, 2)) (hi : q < ls.length) (hn : ∀ j : Nat, j + 1 = (q : Nat) → ∀ w : Value, ls[j]? = some (some w) → w.category = 1) (k : jV cc own d X b (pc + 2) (ls.set q (some (.int x))) (st) h) : jV cc own d X b (pc) ls (.int x :: st) h := by
  obtain ⟨l, g, p, e, R, s, m, args, below, meth, c, Q⟩ := X
  intro ok H locs a k' n' h1 h2 hR hz hS hL
  exact lv_istore ok.1 ok.2.1 hd hL.2 (by rw [← hL.1]; exact hi) rfl (fun a' h' => k ok H locs a' k' n' h1 h2 hR hz hS (jL_set1 (v := .int x) hL hi hn h'))
theorem eg_astore_n {q : Fin 4} {x : Nat} (hd : decode cc pc = .ok (.astore_n q, 1)) (hi : (q : Nat) < ls.length) (hn : ∀ j : Nat, j + 1 = (q : Nat) → ∀ w : Value, ls[j]? = some (some w) → w.category = 1) (k : jV cc own d X b (pc + 1) (ls.set (q : Nat) (some (.ref x))) (st) h) : jV cc own d X b (pc) ls (.ref x :: st) h := by
  obtain ⟨l, g, p, e, R, s, m, args, below, meth, c, Q⟩ := X
  intro ok H locs a k' n' h1 h2 hR hz hS hL
  exact lv_astore_n ok.1 ok.2.1 hd rfl hL.2 (by rw [← hL.1]; exact hi) rfl (fun a' h' => k ok H locs a' k' n' h1 h2 hR hz hS (jL_set1 (v := .ref x) hL hi hn h'))
theorem eg_astore {q : Nat} {x : Nat} (hd : decode cc pc = .ok (.astore q, 2)) (hi : q < ls.length) (hn : ∀ j : Nat, j + 1 = (q : Nat) → ∀ w : Value, ls[j]? = some (some w) → w.category = 1) (k : jV cc own d X b (pc + 2) (ls.set q (some (.ref x))) (st) h) : jV cc own d X b (pc) ls (.ref x :: st) h := by
  obtain ⟨l, g, p, e, R, s, m, args, below, meth, c, Q⟩ := X
  intro ok H locs a k' n' h1 h2 hR hz hS hL
  exact lv_astore ok.1 ok.2.1 hd hL.2 (by rw [← hL.1]; exact hi) rfl (fun a' h' => k ok H locs a' k' n' h1 h2 hR hz hS (jL_set1 (v := .ref x) hL hi hn h'))
theorem jL_set2 {g : jG} {c : Code} {ls : List (Option Value)} {a a' : Array Slot} {i : Nat} {x : Int64} (h : jL g c ls a) (hi : i + 1 < ls.length) (hn : ∀ j : Nat, j + 1 = i → ∀ w : Value, ls[j]? = some (some w) → w.category = 1)
    (h' : lv_has a' c.maxLocals ((i, Value.long x) :: (jal g ls).filter (fun q => !(q.1 == i) && (!(q.1 == i + 1) && !(q.1 + 1 == i && q.2.category == 2))))) : jL g c ((ls.set i (some (.long x))).set (i + 1) none) a' := by
  refine ⟨by simp; exact h.1, h'.1, h'.2.1, fun q hq => ?_⟩
  obtain ⟨w, hw, e⟩ := jal_of hq
  refine h'.2.2 q ?_
  have n1 : ¬ i + 1 = q.1 := fun z => by
    rw [← z, List.getElem?_set_self (by simp; omega)] at hw
    cases hw
  rw [List.getElem?_set_ne n1] at hw
  by_cases hk : i = q.1
  · rw [← hk, List.getElem?_set_self (by omega)] at hw
    cases hw
    exact List.mem_cons.mpr (Or.inl (Prod.ext hk.symm e))
  · rw [List.getElem?_set_ne hk] at hw
    refine List.mem_cons_of_mem _ (List.mem_filter.mpr ⟨?_, ?_⟩)
    · have := jal_mem (g := g) hw
      rw [← e] at this
      exact this
    · have hc : q.1 + 1 = i → (q.2).category = 1 := fun z => by rw [e, jval_cat]; exact hn q.1 z w hw
      simp only [Bool.and_eq_true, Bool.not_eq_true', beq_eq_false_iff_ne, ne_eq, Bool.and_eq_false_iff]
      refine ⟨fun z => hk z.symm, fun z => n1 z.symm, ?_⟩
      by_cases z : q.1 + 1 = i
      · exact Or.inr (by rw [hc z]; decide)
      · exact Or.inl z
theorem eg_lstore {q : Nat} {x : Int64} (hd : decode cc pc = .ok (.lstore q, 2)) (hi : q + 1 < ls.length) (hn : ∀ j : Nat, j + 1 = (q : Nat) → ∀ w : Value, ls[j]? = some (some w) → w.category = 1) (k : jV cc own d X b (pc + 2) ((ls.set q (some (.long x))).set (q + 1) none) (st) h) : jV cc own d X b (pc) ls (.long x :: st) h := by
  obtain ⟨l, g, p, e, R, s, m, args, below, meth, c, Q⟩ := X
  intro ok H locs a k' n' h1 h2 hR hz hS hL
  exact lv_lstore ok.1 ok.2.1 hd hL.2 (by rw [← hL.1]; exact hi) rfl (fun a' h' => k ok H locs a' k' n' h1 h2 hR hz hS (jL_set2 hL hi hn h'))
theorem eg_iinc {q : Nat} {n : Int} {x v : Int32} (hd : decode cc pc = .ok (.iinc q n, 3)) (hl : ls[q]? = some (some (.int x))) (hv : x + Int32.ofInt n = v) (hn : ∀ j : Nat, j + 1 = (q : Nat) → ∀ w : Value, ls[j]? = some (some w) → w.category = 1) (k : jV cc own d X b (pc + 3) (ls.set q (some (.int v))) (st) h) : jV cc own d X b (pc) ls (st) h := by
  obtain ⟨l, g, p, e, R, s, m, args, below, meth, c, Q⟩ := X
  intro ok H locs a k' n' h1 h2 hR hz hS hL
  obtain ⟨j, hj⟩ := List.getElem?_of_mem (jal_mem (g := g) hl)
  have hi : q < ls.length := (List.getElem?_eq_some_iff.mp hl).1
  exact lv_iinc (k := j) ok.1 ok.2.1 hd hL.2 hj hv (by rw [← hL.1]; exact hi) rfl (fun a' h' => k ok H locs a' k' n' h1 h2 hR hz hS (jL_set1 (v := .int v) hL hi hn h'))
end JR
theorem jn_at {ls : List (Option Value)} {i : Nat} {l : Option Value} (hi : ls[i]? = some l) (hn : jnl l = true) : ∀ j : Nat, j + 1 = i + 1 → ∀ w : Value, ls[j]? = some (some w) → w.category = 1 := by
  intro j hj w hw
  have z : j = i := by omega
  subst z
  have e : some l = some (some w) := hi.symm.trans hw
  cases e
  exact jnl_cat hn
theorem jn_0 {ls : List (Option Value)} : ∀ j : Nat, j + 1 = 0 → ∀ w : Value, ls[j]? = some (some w) → w.category = 1 := fun j hj => by omega
section JP
variable {cc : ByteArray} {own : String} {d : Nat} {X : jX} {b : jB} {pc : Nat} {r : List (Option Value)} {st : List Value} {h : jH}
theorem e_il0 {x : Int32} (hd : decode cc pc = .ok (.iload_n 0, 1)) (k : jV cc own d X b (pc + 1) (some (.int x) :: r) (.int x :: st) h) : jV cc own d X b pc (some (.int x) :: r) st h := eg_iload_n hd rfl k
theorem e_al0 {x : Nat} (hd : decode cc pc = .ok (.aload_n 0, 1)) (k : jV cc own d X b (pc + 1) (some (.ref x) :: r) (.ref x :: st) h) : jV cc own d X b pc (some (.ref x) :: r) st h := eg_aload_n hd rfl k
theorem e_is0 {z : Option Value} {x : Int32} (hd : decode cc pc = .ok (.istore_n 0, 1)) (k : jV cc own d X b (pc + 1) (some (.int x) :: r) st h) : jV cc own d X b pc (z :: r) (.int x :: st) h := eg_istore_n hd (by show 0 < List.length _; simp only [List.length_cons]; omega) (jn_0) k
theorem e_as0 {z : Option Value} {x : Nat} (hd : decode cc pc = .ok (.astore_n 0, 1)) (k : jV cc own d X b (pc + 1) (some (.ref x) :: r) st h) : jV cc own d X b pc (z :: r) (.ref x :: st) h := eg_astore_n hd (by show 0 < List.length _; simp only [List.length_cons]; omega) (jn_0) k
theorem e_inc0 {n : Int} {x : Int32} (c : Int32) (hd : decode cc pc = .ok (.iinc 0 n, 3)) (hc : Int32.ofInt n = c) (k : jV cc own d X b (pc + 3) (some (.int (x + c)) :: r) st h) : jV cc own d X b pc (some (.int x) :: r) st h := eg_iinc (v := x + c) hd rfl (by rw [hc]) (jn_0) k
theorem e_il1 {l0 : Option Value} {x : Int32} (hd : decode cc pc = .ok (.iload_n 1, 1)) (k : jV cc own d X b (pc + 1) (l0 :: some (.int x) :: r) (.int x :: st) h) : jV cc own d X b pc (l0 :: some (.int x) :: r) st h := eg_iload_n hd rfl k
theorem e_al1 {l0 : Option Value} {x : Nat} (hd : decode cc pc = .ok (.aload_n 1, 1)) (k : jV cc own d X b (pc + 1) (l0 :: some (.ref x) :: r) (.ref x :: st) h) : jV cc own d X b pc (l0 :: some (.ref x) :: r) st h := eg_aload_n hd rfl k
theorem e_is1 {l0 : Option Value} {z : Option Value} {x : Int32} (hd : decode cc pc = .ok (.istore_n 1, 1)) (hn : jnl l0 = true) (k : jV cc own d X b (pc + 1) (l0 :: some (.int x) :: r) st h) : jV cc own d X b pc (l0 :: z :: r) (.int x :: st) h := eg_istore_n hd (by show 1 < List.length _; simp only [List.length_cons]; omega) (jn_at (i := 0) rfl hn) k
theorem e_as1 {l0 : Option Value} {z : Option Value} {x : Nat} (hd : decode cc pc = .ok (.astore_n 1, 1)) (hn : jnl l0 = true) (k : jV cc own d X b (pc + 1) (l0 :: some (.ref x) :: r) st h) : jV cc own d X b pc (l0 :: z :: r) (.ref x :: st) h := eg_astore_n hd (by show 1 < List.length _; simp only [List.length_cons]; omega) (jn_at (i := 0) rfl hn) k
theorem e_inc1 {l0 : Option Value} {n : Int} {x : Int32} (c : Int32) (hd : decode cc pc = .ok (.iinc 1 n, 3)) (hc : Int32.ofInt n = c) (hn : jnl l0 = true) (k : jV cc own d X b (pc + 3) (l0 :: some (.int (x + c)) :: r) st h) : jV cc own d X b pc (l0 :: some (.int x) :: r) st h := eg_iinc (v := x + c) hd rfl (by rw [hc]) (jn_at (i := 0) rfl hn) k
theorem e_il2 {l0 l1 : Option Value} {x : Int32} (hd : decode cc pc = .ok (.iload_n 2, 1)) (k : jV cc own d X b (pc + 1) (l0 :: l1 :: some (.int x) :: r) (.int x :: st) h) : jV cc own d X b pc (l0 :: l1 :: some (.int x) :: r) st h := eg_iload_n hd rfl k
theorem e_al2 {l0 l1 : Option Value} {x : Nat} (hd : decode cc pc = .ok (.aload_n 2, 1)) (k : jV cc own d X b (pc + 1) (l0 :: l1 :: some (.ref x) :: r) (.ref x :: st) h) : jV cc own d X b pc (l0 :: l1 :: some (.ref x) :: r) st h := eg_aload_n hd rfl k
theorem e_is2 {l0 l1 : Option Value} {z : Option Value} {x : Int32} (hd : decode cc pc = .ok (.istore_n 2, 1)) (hn : jnl l1 = true) (k : jV cc own d X b (pc + 1) (l0 :: l1 :: some (.int x) :: r) st h) : jV cc own d X b pc (l0 :: l1 :: z :: r) (.int x :: st) h := eg_istore_n hd (by show 2 < List.length _; simp only [List.length_cons]; omega) (jn_at (i := 1) rfl hn) k
theorem e_as2 {l0 l1 : Option Value} {z : Option Value} {x : Nat} (hd : decode cc pc = .ok (.astore_n 2, 1)) (hn : jnl l1 = true) (k : jV cc own d X b (pc + 1) (l0 :: l1 :: some (.ref x) :: r) st h) : jV cc own d X b pc (l0 :: l1 :: z :: r) (.ref x :: st) h := eg_astore_n hd (by show 2 < List.length _; simp only [List.length_cons]; omega) (jn_at (i := 1) rfl hn) k
theorem e_inc2 {l0 l1 : Option Value} {n : Int} {x : Int32} (c : Int32) (hd : decode cc pc = .ok (.iinc 2 n, 3)) (hc : Int32.ofInt n = c) (hn : jnl l1 = true) (k : jV cc own d X b (pc + 3) (l0 :: l1 :: some (.int (x + c)) :: r) st h) : jV cc own d X b pc (l0 :: l1 :: some (.int x) :: r) st h := eg_iinc (v := x + c) hd rfl (by rw [hc]) (jn_at (i := 1) rfl hn) k
theorem e_il3 {l0 l1 l2 : Option Value} {x : Int32} (hd : decode cc pc = .ok (.iload_n 3, 1)) (k : jV cc own d X b (pc + 1) (l0 :: l1 :: l2 :: some (.int x) :: r) (.int x :: st) h) : jV cc own d X b pc (l0 :: l1 :: l2 :: some (.int x) :: r) st h := eg_iload_n hd rfl k
theorem e_al3 {l0 l1 l2 : Option Value} {x : Nat} (hd : decode cc pc = .ok (.aload_n 3, 1)) (k : jV cc own d X b (pc + 1) (l0 :: l1 :: l2 :: some (.ref x) :: r) (.ref x :: st) h) : jV cc own d X b pc (l0 :: l1 :: l2 :: some (.ref x) :: r) st h := eg_aload_n hd rfl k
theorem e_is3 {l0 l1 l2 : Option Value} {z : Option Value} {x : Int32} (hd : decode cc pc = .ok (.istore_n 3, 1)) (hn : jnl l2 = true) (k : jV cc own d X b (pc + 1) (l0 :: l1 :: l2 :: some (.int x) :: r) st h) : jV cc own d X b pc (l0 :: l1 :: l2 :: z :: r) (.int x :: st) h := eg_istore_n hd (by show 3 < List.length _; simp only [List.length_cons]; omega) (jn_at (i := 2) rfl hn) k
theorem e_as3 {l0 l1 l2 : Option Value} {z : Option Value} {x : Nat} (hd : decode cc pc = .ok (.astore_n 3, 1)) (hn : jnl l2 = true) (k : jV cc own d X b (pc + 1) (l0 :: l1 :: l2 :: some (.ref x) :: r) st h) : jV cc own d X b pc (l0 :: l1 :: l2 :: z :: r) (.ref x :: st) h := eg_astore_n hd (by show 3 < List.length _; simp only [List.length_cons]; omega) (jn_at (i := 2) rfl hn) k
theorem e_inc3 {l0 l1 l2 : Option Value} {n : Int} {x : Int32} (c : Int32) (hd : decode cc pc = .ok (.iinc 3 n, 3)) (hc : Int32.ofInt n = c) (hn : jnl l2 = true) (k : jV cc own d X b (pc + 3) (l0 :: l1 :: l2 :: some (.int (x + c)) :: r) st h) : jV cc own d X b pc (l0 :: l1 :: l2 :: some (.int x) :: r) st h := eg_iinc (v := x + c) hd rfl (by rw [hc]) (jn_at (i := 2) rfl hn) k
theorem e_il4 {l0 l1 l2 l3 : Option Value} {x : Int32} (hd : decode cc pc = .ok (.iload 4, 2)) (k : jV cc own d X b (pc + 2) (l0 :: l1 :: l2 :: l3 :: some (.int x) :: r) (.int x :: st) h) : jV cc own d X b pc (l0 :: l1 :: l2 :: l3 :: some (.int x) :: r) st h := eg_iload hd rfl k
theorem e_al4 {l0 l1 l2 l3 : Option Value} {x : Nat} (hd : decode cc pc = .ok (.aload 4, 2)) (k : jV cc own d X b (pc + 2) (l0 :: l1 :: l2 :: l3 :: some (.ref x) :: r) (.ref x :: st) h) : jV cc own d X b pc (l0 :: l1 :: l2 :: l3 :: some (.ref x) :: r) st h := eg_aload hd rfl k
theorem e_is4 {l0 l1 l2 l3 : Option Value} {z : Option Value} {x : Int32} (hd : decode cc pc = .ok (.istore 4, 2)) (hn : jnl l3 = true) (k : jV cc own d X b (pc + 2) (l0 :: l1 :: l2 :: l3 :: some (.int x) :: r) st h) : jV cc own d X b pc (l0 :: l1 :: l2 :: l3 :: z :: r) (.int x :: st) h := eg_istore hd (by show 4 < List.length _; simp only [List.length_cons]; omega) (jn_at (i := 3) rfl hn) k
theorem e_as4 {l0 l1 l2 l3 : Option Value} {z : Option Value} {x : Nat} (hd : decode cc pc = .ok (.astore 4, 2)) (hn : jnl l3 = true) (k : jV cc own d X b (pc + 2) (l0 :: l1 :: l2 :: l3 :: some (.ref x) :: r) st h) : jV cc own d X b pc (l0 :: l1 :: l2 :: l3 :: z :: r) (.ref x :: st) h := eg_astore hd (by show 4 < List.length _; simp only [List.length_cons]; omega) (jn_at (i := 3) rfl hn) k
theorem e_inc4 {l0 l1 l2 l3 : Option Value} {n : Int} {x : Int32} (c : Int32) (hd : decode cc pc = .ok (.iinc 4 n, 3)) (hc : Int32.ofInt n = c) (hn : jnl l3 = true) (k : jV cc own d X b (pc + 3) (l0 :: l1 :: l2 :: l3 :: some (.int (x + c)) :: r) st h) : jV cc own d X b pc (l0 :: l1 :: l2 :: l3 :: some (.int x) :: r) st h := eg_iinc (v := x + c) hd rfl (by rw [hc]) (jn_at (i := 3) rfl hn) k
theorem e_ll4 {l0 l1 l2 l3 : Option Value} {x : Int64} (hd : decode cc pc = .ok (.lload 4, 2)) (k : jV cc own d X b (pc + 2) (l0 :: l1 :: l2 :: l3 :: some (.long x) :: r) (.long x :: st) h) : jV cc own d X b pc (l0 :: l1 :: l2 :: l3 :: some (.long x) :: r) st h := eg_lload hd rfl k
theorem e_ls4 {l0 l1 l2 l3 : Option Value} {z z2 : Option Value} {x : Int64} (hd : decode cc pc = .ok (.lstore 4, 2)) (hn : jnl l3 = true) (k : jV cc own d X b (pc + 2) (l0 :: l1 :: l2 :: l3 :: some (.long x) :: none :: r) st h) : jV cc own d X b pc (l0 :: l1 :: l2 :: l3 :: z :: z2 :: r) (.long x :: st) h := eg_lstore hd (by show 4 + 1 < List.length _; simp only [List.length_cons]; omega) (jn_at (i := 3) rfl hn) k
theorem e_il5 {l0 l1 l2 l3 l4 : Option Value} {x : Int32} (hd : decode cc pc = .ok (.iload 5, 2)) (k : jV cc own d X b (pc + 2) (l0 :: l1 :: l2 :: l3 :: l4 :: some (.int x) :: r) (.int x :: st) h) : jV cc own d X b pc (l0 :: l1 :: l2 :: l3 :: l4 :: some (.int x) :: r) st h := eg_iload hd rfl k
theorem e_al5 {l0 l1 l2 l3 l4 : Option Value} {x : Nat} (hd : decode cc pc = .ok (.aload 5, 2)) (k : jV cc own d X b (pc + 2) (l0 :: l1 :: l2 :: l3 :: l4 :: some (.ref x) :: r) (.ref x :: st) h) : jV cc own d X b pc (l0 :: l1 :: l2 :: l3 :: l4 :: some (.ref x) :: r) st h := eg_aload hd rfl k
theorem e_is5 {l0 l1 l2 l3 l4 : Option Value} {z : Option Value} {x : Int32} (hd : decode cc pc = .ok (.istore 5, 2)) (hn : jnl l4 = true) (k : jV cc own d X b (pc + 2) (l0 :: l1 :: l2 :: l3 :: l4 :: some (.int x) :: r) st h) : jV cc own d X b pc (l0 :: l1 :: l2 :: l3 :: l4 :: z :: r) (.int x :: st) h := eg_istore hd (by show 5 < List.length _; simp only [List.length_cons]; omega) (jn_at (i := 4) rfl hn) k
theorem e_as5 {l0 l1 l2 l3 l4 : Option Value} {z : Option Value} {x : Nat} (hd : decode cc pc = .ok (.astore 5, 2)) (hn : jnl l4 = true) (k : jV cc own d X b (pc + 2) (l0 :: l1 :: l2 :: l3 :: l4 :: some (.ref x) :: r) st h) : jV cc own d X b pc (l0 :: l1 :: l2 :: l3 :: l4 :: z :: r) (.ref x :: st) h := eg_astore hd (by show 5 < List.length _; simp only [List.length_cons]; omega) (jn_at (i := 4) rfl hn) k
theorem e_inc5 {l0 l1 l2 l3 l4 : Option Value} {n : Int} {x : Int32} (c : Int32) (hd : decode cc pc = .ok (.iinc 5 n, 3)) (hc : Int32.ofInt n = c) (hn : jnl l4 = true) (k : jV cc own d X b (pc + 3) (l0 :: l1 :: l2 :: l3 :: l4 :: some (.int (x + c)) :: r) st h) : jV cc own d X b pc (l0 :: l1 :: l2 :: l3 :: l4 :: some (.int x) :: r) st h := eg_iinc (v := x + c) hd rfl (by rw [hc]) (jn_at (i := 4) rfl hn) k
theorem e_ll5 {l0 l1 l2 l3 l4 : Option Value} {x : Int64} (hd : decode cc pc = .ok (.lload 5, 2)) (k : jV cc own d X b (pc + 2) (l0 :: l1 :: l2 :: l3 :: l4 :: some (.long x) :: r) (.long x :: st) h) : jV cc own d X b pc (l0 :: l1 :: l2 :: l3 :: l4 :: some (.long x) :: r) st h := eg_lload hd rfl k
theorem e_ls5 {l0 l1 l2 l3 l4 : Option Value} {z z2 : Option Value} {x : Int64} (hd : decode cc pc = .ok (.lstore 5, 2)) (hn : jnl l4 = true) (k : jV cc own d X b (pc + 2) (l0 :: l1 :: l2 :: l3 :: l4 :: some (.long x) :: none :: r) st h) : jV cc own d X b pc (l0 :: l1 :: l2 :: l3 :: l4 :: z :: z2 :: r) (.long x :: st) h := eg_lstore hd (by show 5 + 1 < List.length _; simp only [List.length_cons]; omega) (jn_at (i := 4) rfl hn) k
theorem e_il6 {l0 l1 l2 l3 l4 l5 : Option Value} {x : Int32} (hd : decode cc pc = .ok (.iload 6, 2)) (k : jV cc own d X b (pc + 2) (l0 :: l1 :: l2 :: l3 :: l4 :: l5 :: some (.int x) :: r) (.int x :: st) h) : jV cc own d X b pc (l0 :: l1 :: l2 :: l3 :: l4 :: l5 :: some (.int x) :: r) st h := eg_iload hd rfl k
theorem e_al6 {l0 l1 l2 l3 l4 l5 : Option Value} {x : Nat} (hd : decode cc pc = .ok (.aload 6, 2)) (k : jV cc own d X b (pc + 2) (l0 :: l1 :: l2 :: l3 :: l4 :: l5 :: some (.ref x) :: r) (.ref x :: st) h) : jV cc own d X b pc (l0 :: l1 :: l2 :: l3 :: l4 :: l5 :: some (.ref x) :: r) st h := eg_aload hd rfl k
theorem e_is6 {l0 l1 l2 l3 l4 l5 : Option Value} {z : Option Value} {x : Int32} (hd : decode cc pc = .ok (.istore 6, 2)) (hn : jnl l5 = true) (k : jV cc own d X b (pc + 2) (l0 :: l1 :: l2 :: l3 :: l4 :: l5 :: some (.int x) :: r) st h) : jV cc own d X b pc (l0 :: l1 :: l2 :: l3 :: l4 :: l5 :: z :: r) (.int x :: st) h := eg_istore hd (by show 6 < List.length _; simp only [List.length_cons]; omega) (jn_at (i := 5) rfl hn) k
theorem e_as6 {l0 l1 l2 l3 l4 l5 : Option Value} {z : Option Value} {x : Nat} (hd : decode cc pc = .ok (.astore 6, 2)) (hn : jnl l5 = true) (k : jV cc own d X b (pc + 2) (l0 :: l1 :: l2 :: l3 :: l4 :: l5 :: some (.ref x) :: r) st h) : jV cc own d X b pc (l0 :: l1 :: l2 :: l3 :: l4 :: l5 :: z :: r) (.ref x :: st) h := eg_astore hd (by show 6 < List.length _; simp only [List.length_cons]; omega) (jn_at (i := 5) rfl hn) k
theorem e_inc6 {l0 l1 l2 l3 l4 l5 : Option Value} {n : Int} {x : Int32} (c : Int32) (hd : decode cc pc = .ok (.iinc 6 n, 3)) (hc : Int32.ofInt n = c) (hn : jnl l5 = true) (k : jV cc own d X b (pc + 3) (l0 :: l1 :: l2 :: l3 :: l4 :: l5 :: some (.int (x + c)) :: r) st h) : jV cc own d X b pc (l0 :: l1 :: l2 :: l3 :: l4 :: l5 :: some (.int x) :: r) st h := eg_iinc (v := x + c) hd rfl (by rw [hc]) (jn_at (i := 5) rfl hn) k
theorem e_ll6 {l0 l1 l2 l3 l4 l5 : Option Value} {x : Int64} (hd : decode cc pc = .ok (.lload 6, 2)) (k : jV cc own d X b (pc + 2) (l0 :: l1 :: l2 :: l3 :: l4 :: l5 :: some (.long x) :: r) (.long x :: st) h) : jV cc own d X b pc (l0 :: l1 :: l2 :: l3 :: l4 :: l5 :: some (.long x) :: r) st h := eg_lload hd rfl k
theorem e_ls6 {l0 l1 l2 l3 l4 l5 : Option Value} {z z2 : Option Value} {x : Int64} (hd : decode cc pc = .ok (.lstore 6, 2)) (hn : jnl l5 = true) (k : jV cc own d X b (pc + 2) (l0 :: l1 :: l2 :: l3 :: l4 :: l5 :: some (.long x) :: none :: r) st h) : jV cc own d X b pc (l0 :: l1 :: l2 :: l3 :: l4 :: l5 :: z :: z2 :: r) (.long x :: st) h := eg_lstore hd (by show 6 + 1 < List.length _; simp only [List.length_cons]; omega) (jn_at (i := 5) rfl hn) k
theorem e_il7 {l0 l1 l2 l3 l4 l5 l6 : Option Value} {x : Int32} (hd : decode cc pc = .ok (.iload 7, 2)) (k : jV cc own d X b (pc + 2) (l0 :: l1 :: l2 :: l3 :: l4 :: l5 :: l6 :: some (.int x) :: r) (.int x :: st) h) : jV cc own d X b pc (l0 :: l1 :: l2 :: l3 :: l4 :: l5 :: l6 :: some (.int x) :: r) st h := eg_iload hd rfl k
theorem e_al7 {l0 l1 l2 l3 l4 l5 l6 : Option Value} {x : Nat} (hd : decode cc pc = .ok (.aload 7, 2)) (k : jV cc own d X b (pc + 2) (l0 :: l1 :: l2 :: l3 :: l4 :: l5 :: l6 :: some (.ref x) :: r) (.ref x :: st) h) : jV cc own d X b pc (l0 :: l1 :: l2 :: l3 :: l4 :: l5 :: l6 :: some (.ref x) :: r) st h := eg_aload hd rfl k
theorem e_is7 {l0 l1 l2 l3 l4 l5 l6 : Option Value} {z : Option Value} {x : Int32} (hd : decode cc pc = .ok (.istore 7, 2)) (hn : jnl l6 = true) (k : jV cc own d X b (pc + 2) (l0 :: l1 :: l2 :: l3 :: l4 :: l5 :: l6 :: some (.int x) :: r) st h) : jV cc own d X b pc (l0 :: l1 :: l2 :: l3 :: l4 :: l5 :: l6 :: z :: r) (.int x :: st) h := eg_istore hd (by show 7 < List.length _; simp only [List.length_cons]; omega) (jn_at (i := 6) rfl hn) k
theorem e_as7 {l0 l1 l2 l3 l4 l5 l6 : Option Value} {z : Option Value} {x : Nat} (hd : decode cc pc = .ok (.astore 7, 2)) (hn : jnl l6 = true) (k : jV cc own d X b (pc + 2) (l0 :: l1 :: l2 :: l3 :: l4 :: l5 :: l6 :: some (.ref x) :: r) st h) : jV cc own d X b pc (l0 :: l1 :: l2 :: l3 :: l4 :: l5 :: l6 :: z :: r) (.ref x :: st) h := eg_astore hd (by show 7 < List.length _; simp only [List.length_cons]; omega) (jn_at (i := 6) rfl hn) k
theorem e_inc7 {l0 l1 l2 l3 l4 l5 l6 : Option Value} {n : Int} {x : Int32} (c : Int32) (hd : decode cc pc = .ok (.iinc 7 n, 3)) (hc : Int32.ofInt n = c) (hn : jnl l6 = true) (k : jV cc own d X b (pc + 3) (l0 :: l1 :: l2 :: l3 :: l4 :: l5 :: l6 :: some (.int (x + c)) :: r) st h) : jV cc own d X b pc (l0 :: l1 :: l2 :: l3 :: l4 :: l5 :: l6 :: some (.int x) :: r) st h := eg_iinc (v := x + c) hd rfl (by rw [hc]) (jn_at (i := 6) rfl hn) k
theorem e_ll7 {l0 l1 l2 l3 l4 l5 l6 : Option Value} {x : Int64} (hd : decode cc pc = .ok (.lload 7, 2)) (k : jV cc own d X b (pc + 2) (l0 :: l1 :: l2 :: l3 :: l4 :: l5 :: l6 :: some (.long x) :: r) (.long x :: st) h) : jV cc own d X b pc (l0 :: l1 :: l2 :: l3 :: l4 :: l5 :: l6 :: some (.long x) :: r) st h := eg_lload hd rfl k
theorem e_ls7 {l0 l1 l2 l3 l4 l5 l6 : Option Value} {z z2 : Option Value} {x : Int64} (hd : decode cc pc = .ok (.lstore 7, 2)) (hn : jnl l6 = true) (k : jV cc own d X b (pc + 2) (l0 :: l1 :: l2 :: l3 :: l4 :: l5 :: l6 :: some (.long x) :: none :: r) st h) : jV cc own d X b pc (l0 :: l1 :: l2 :: l3 :: l4 :: l5 :: l6 :: z :: z2 :: r) (.long x :: st) h := eg_lstore hd (by show 7 + 1 < List.length _; simp only [List.length_cons]; omega) (jn_at (i := 6) rfl hn) k
theorem e_il8 {l0 l1 l2 l3 l4 l5 l6 l7 : Option Value} {x : Int32} (hd : decode cc pc = .ok (.iload 8, 2)) (k : jV cc own d X b (pc + 2) (l0 :: l1 :: l2 :: l3 :: l4 :: l5 :: l6 :: l7 :: some (.int x) :: r) (.int x :: st) h) : jV cc own d X b pc (l0 :: l1 :: l2 :: l3 :: l4 :: l5 :: l6 :: l7 :: some (.int x) :: r) st h := eg_iload hd rfl k
theorem e_al8 {l0 l1 l2 l3 l4 l5 l6 l7 : Option Value} {x : Nat} (hd : decode cc pc = .ok (.aload 8, 2)) (k : jV cc own d X b (pc + 2) (l0 :: l1 :: l2 :: l3 :: l4 :: l5 :: l6 :: l7 :: some (.ref x) :: r) (.ref x :: st) h) : jV cc own d X b pc (l0 :: l1 :: l2 :: l3 :: l4 :: l5 :: l6 :: l7 :: some (.ref x) :: r) st h := eg_aload hd rfl k
theorem e_is8 {l0 l1 l2 l3 l4 l5 l6 l7 : Option Value} {z : Option Value} {x : Int32} (hd : decode cc pc = .ok (.istore 8, 2)) (hn : jnl l7 = true) (k : jV cc own d X b (pc + 2) (l0 :: l1 :: l2 :: l3 :: l4 :: l5 :: l6 :: l7 :: some (.int x) :: r) st h) : jV cc own d X b pc (l0 :: l1 :: l2 :: l3 :: l4 :: l5 :: l6 :: l7 :: z :: r) (.int x :: st) h := eg_istore hd (by show 8 < List.length _; simp only [List.length_cons]; omega) (jn_at (i := 7) rfl hn) k
theorem e_as8 {l0 l1 l2 l3 l4 l5 l6 l7 : Option Value} {z : Option Value} {x : Nat} (hd : decode cc pc = .ok (.astore 8, 2)) (hn : jnl l7 = true) (k : jV cc own d X b (pc + 2) (l0 :: l1 :: l2 :: l3 :: l4 :: l5 :: l6 :: l7 :: some (.ref x) :: r) st h) : jV cc own d X b pc (l0 :: l1 :: l2 :: l3 :: l4 :: l5 :: l6 :: l7 :: z :: r) (.ref x :: st) h := eg_astore hd (by show 8 < List.length _; simp only [List.length_cons]; omega) (jn_at (i := 7) rfl hn) k
theorem e_inc8 {l0 l1 l2 l3 l4 l5 l6 l7 : Option Value} {n : Int} {x : Int32} (c : Int32) (hd : decode cc pc = .ok (.iinc 8 n, 3)) (hc : Int32.ofInt n = c) (hn : jnl l7 = true) (k : jV cc own d X b (pc + 3) (l0 :: l1 :: l2 :: l3 :: l4 :: l5 :: l6 :: l7 :: some (.int (x + c)) :: r) st h) : jV cc own d X b pc (l0 :: l1 :: l2 :: l3 :: l4 :: l5 :: l6 :: l7 :: some (.int x) :: r) st h := eg_iinc (v := x + c) hd rfl (by rw [hc]) (jn_at (i := 7) rfl hn) k
theorem e_ll8 {l0 l1 l2 l3 l4 l5 l6 l7 : Option Value} {x : Int64} (hd : decode cc pc = .ok (.lload 8, 2)) (k : jV cc own d X b (pc + 2) (l0 :: l1 :: l2 :: l3 :: l4 :: l5 :: l6 :: l7 :: some (.long x) :: r) (.long x :: st) h) : jV cc own d X b pc (l0 :: l1 :: l2 :: l3 :: l4 :: l5 :: l6 :: l7 :: some (.long x) :: r) st h := eg_lload hd rfl k
theorem e_ls8 {l0 l1 l2 l3 l4 l5 l6 l7 : Option Value} {z z2 : Option Value} {x : Int64} (hd : decode cc pc = .ok (.lstore 8, 2)) (hn : jnl l7 = true) (k : jV cc own d X b (pc + 2) (l0 :: l1 :: l2 :: l3 :: l4 :: l5 :: l6 :: l7 :: some (.long x) :: none :: r) st h) : jV cc own d X b pc (l0 :: l1 :: l2 :: l3 :: l4 :: l5 :: l6 :: l7 :: z :: z2 :: r) (.long x :: st) h := eg_lstore hd (by show 8 + 1 < List.length _; simp only [List.length_cons]; omega) (jn_at (i := 7) rfl hn) k
theorem e_il9 {l0 l1 l2 l3 l4 l5 l6 l7 l8 : Option Value} {x : Int32} (hd : decode cc pc = .ok (.iload 9, 2)) (k : jV cc own d X b (pc + 2) (l0 :: l1 :: l2 :: l3 :: l4 :: l5 :: l6 :: l7 :: l8 :: some (.int x) :: r) (.int x :: st) h) : jV cc own d X b pc (l0 :: l1 :: l2 :: l3 :: l4 :: l5 :: l6 :: l7 :: l8 :: some (.int x) :: r) st h := eg_iload hd rfl k
theorem e_al9 {l0 l1 l2 l3 l4 l5 l6 l7 l8 : Option Value} {x : Nat} (hd : decode cc pc = .ok (.aload 9, 2)) (k : jV cc own d X b (pc + 2) (l0 :: l1 :: l2 :: l3 :: l4 :: l5 :: l6 :: l7 :: l8 :: some (.ref x) :: r) (.ref x :: st) h) : jV cc own d X b pc (l0 :: l1 :: l2 :: l3 :: l4 :: l5 :: l6 :: l7 :: l8 :: some (.ref x) :: r) st h := eg_aload hd rfl k
theorem e_is9 {l0 l1 l2 l3 l4 l5 l6 l7 l8 : Option Value} {z : Option Value} {x : Int32} (hd : decode cc pc = .ok (.istore 9, 2)) (hn : jnl l8 = true) (k : jV cc own d X b (pc + 2) (l0 :: l1 :: l2 :: l3 :: l4 :: l5 :: l6 :: l7 :: l8 :: some (.int x) :: r) st h) : jV cc own d X b pc (l0 :: l1 :: l2 :: l3 :: l4 :: l5 :: l6 :: l7 :: l8 :: z :: r) (.int x :: st) h := eg_istore hd (by show 9 < List.length _; simp only [List.length_cons]; omega) (jn_at (i := 8) rfl hn) k
theorem e_as9 {l0 l1 l2 l3 l4 l5 l6 l7 l8 : Option Value} {z : Option Value} {x : Nat} (hd : decode cc pc = .ok (.astore 9, 2)) (hn : jnl l8 = true) (k : jV cc own d X b (pc + 2) (l0 :: l1 :: l2 :: l3 :: l4 :: l5 :: l6 :: l7 :: l8 :: some (.ref x) :: r) st h) : jV cc own d X b pc (l0 :: l1 :: l2 :: l3 :: l4 :: l5 :: l6 :: l7 :: l8 :: z :: r) (.ref x :: st) h := eg_astore hd (by show 9 < List.length _; simp only [List.length_cons]; omega) (jn_at (i := 8) rfl hn) k
theorem e_inc9 {l0 l1 l2 l3 l4 l5 l6 l7 l8 : Option Value} {n : Int} {x : Int32} (c : Int32) (hd : decode cc pc = .ok (.iinc 9 n, 3)) (hc : Int32.ofInt n = c) (hn : jnl l8 = true) (k : jV cc own d X b (pc + 3) (l0 :: l1 :: l2 :: l3 :: l4 :: l5 :: l6 :: l7 :: l8 :: some (.int (x + c)) :: r) st h) : jV cc own d X b pc (l0 :: l1 :: l2 :: l3 :: l4 :: l5 :: l6 :: l7 :: l8 :: some (.int x) :: r) st h := eg_iinc (v := x + c) hd rfl (by rw [hc]) (jn_at (i := 8) rfl hn) k
theorem e_ll9 {l0 l1 l2 l3 l4 l5 l6 l7 l8 : Option Value} {x : Int64} (hd : decode cc pc = .ok (.lload 9, 2)) (k : jV cc own d X b (pc + 2) (l0 :: l1 :: l2 :: l3 :: l4 :: l5 :: l6 :: l7 :: l8 :: some (.long x) :: r) (.long x :: st) h) : jV cc own d X b pc (l0 :: l1 :: l2 :: l3 :: l4 :: l5 :: l6 :: l7 :: l8 :: some (.long x) :: r) st h := eg_lload hd rfl k
theorem e_ls9 {l0 l1 l2 l3 l4 l5 l6 l7 l8 : Option Value} {z z2 : Option Value} {x : Int64} (hd : decode cc pc = .ok (.lstore 9, 2)) (hn : jnl l8 = true) (k : jV cc own d X b (pc + 2) (l0 :: l1 :: l2 :: l3 :: l4 :: l5 :: l6 :: l7 :: l8 :: some (.long x) :: none :: r) st h) : jV cc own d X b pc (l0 :: l1 :: l2 :: l3 :: l4 :: l5 :: l6 :: l7 :: l8 :: z :: z2 :: r) (.long x :: st) h := eg_lstore hd (by show 9 + 1 < List.length _; simp only [List.length_cons]; omega) (jn_at (i := 8) rfl hn) k
theorem e_il10 {l0 l1 l2 l3 l4 l5 l6 l7 l8 l9 : Option Value} {x : Int32} (hd : decode cc pc = .ok (.iload 10, 2)) (k : jV cc own d X b (pc + 2) (l0 :: l1 :: l2 :: l3 :: l4 :: l5 :: l6 :: l7 :: l8 :: l9 :: some (.int x) :: r) (.int x :: st) h) : jV cc own d X b pc (l0 :: l1 :: l2 :: l3 :: l4 :: l5 :: l6 :: l7 :: l8 :: l9 :: some (.int x) :: r) st h := eg_iload hd rfl k
theorem e_al10 {l0 l1 l2 l3 l4 l5 l6 l7 l8 l9 : Option Value} {x : Nat} (hd : decode cc pc = .ok (.aload 10, 2)) (k : jV cc own d X b (pc + 2) (l0 :: l1 :: l2 :: l3 :: l4 :: l5 :: l6 :: l7 :: l8 :: l9 :: some (.ref x) :: r) (.ref x :: st) h) : jV cc own d X b pc (l0 :: l1 :: l2 :: l3 :: l4 :: l5 :: l6 :: l7 :: l8 :: l9 :: some (.ref x) :: r) st h := eg_aload hd rfl k
theorem e_is10 {l0 l1 l2 l3 l4 l5 l6 l7 l8 l9 : Option Value} {z : Option Value} {x : Int32} (hd : decode cc pc = .ok (.istore 10, 2)) (hn : jnl l9 = true) (k : jV cc own d X b (pc + 2) (l0 :: l1 :: l2 :: l3 :: l4 :: l5 :: l6 :: l7 :: l8 :: l9 :: some (.int x) :: r) st h) : jV cc own d X b pc (l0 :: l1 :: l2 :: l3 :: l4 :: l5 :: l6 :: l7 :: l8 :: l9 :: z :: r) (.int x :: st) h := eg_istore hd (by show 10 < List.length _; simp only [List.length_cons]; omega) (jn_at (i := 9) rfl hn) k
theorem e_as10 {l0 l1 l2 l3 l4 l5 l6 l7 l8 l9 : Option Value} {z : Option Value} {x : Nat} (hd : decode cc pc = .ok (.astore 10, 2)) (hn : jnl l9 = true) (k : jV cc own d X b (pc + 2) (l0 :: l1 :: l2 :: l3 :: l4 :: l5 :: l6 :: l7 :: l8 :: l9 :: some (.ref x) :: r) st h) : jV cc own d X b pc (l0 :: l1 :: l2 :: l3 :: l4 :: l5 :: l6 :: l7 :: l8 :: l9 :: z :: r) (.ref x :: st) h := eg_astore hd (by show 10 < List.length _; simp only [List.length_cons]; omega) (jn_at (i := 9) rfl hn) k
theorem e_inc10 {l0 l1 l2 l3 l4 l5 l6 l7 l8 l9 : Option Value} {n : Int} {x : Int32} (c : Int32) (hd : decode cc pc = .ok (.iinc 10 n, 3)) (hc : Int32.ofInt n = c) (hn : jnl l9 = true) (k : jV cc own d X b (pc + 3) (l0 :: l1 :: l2 :: l3 :: l4 :: l5 :: l6 :: l7 :: l8 :: l9 :: some (.int (x + c)) :: r) st h) : jV cc own d X b pc (l0 :: l1 :: l2 :: l3 :: l4 :: l5 :: l6 :: l7 :: l8 :: l9 :: some (.int x) :: r) st h := eg_iinc (v := x + c) hd rfl (by rw [hc]) (jn_at (i := 9) rfl hn) k
theorem e_ll10 {l0 l1 l2 l3 l4 l5 l6 l7 l8 l9 : Option Value} {x : Int64} (hd : decode cc pc = .ok (.lload 10, 2)) (k : jV cc own d X b (pc + 2) (l0 :: l1 :: l2 :: l3 :: l4 :: l5 :: l6 :: l7 :: l8 :: l9 :: some (.long x) :: r) (.long x :: st) h) : jV cc own d X b pc (l0 :: l1 :: l2 :: l3 :: l4 :: l5 :: l6 :: l7 :: l8 :: l9 :: some (.long x) :: r) st h := eg_lload hd rfl k
theorem e_ls10 {l0 l1 l2 l3 l4 l5 l6 l7 l8 l9 : Option Value} {z z2 : Option Value} {x : Int64} (hd : decode cc pc = .ok (.lstore 10, 2)) (hn : jnl l9 = true) (k : jV cc own d X b (pc + 2) (l0 :: l1 :: l2 :: l3 :: l4 :: l5 :: l6 :: l7 :: l8 :: l9 :: some (.long x) :: none :: r) st h) : jV cc own d X b pc (l0 :: l1 :: l2 :: l3 :: l4 :: l5 :: l6 :: l7 :: l8 :: l9 :: z :: z2 :: r) (.long x :: st) h := eg_lstore hd (by show 10 + 1 < List.length _; simp only [List.length_cons]; omega) (jn_at (i := 9) rfl hn) k
theorem e_il11 {l0 l1 l2 l3 l4 l5 l6 l7 l8 l9 l10 : Option Value} {x : Int32} (hd : decode cc pc = .ok (.iload 11, 2)) (k : jV cc own d X b (pc + 2) (l0 :: l1 :: l2 :: l3 :: l4 :: l5 :: l6 :: l7 :: l8 :: l9 :: l10 :: some (.int x) :: r) (.int x :: st) h) : jV cc own d X b pc (l0 :: l1 :: l2 :: l3 :: l4 :: l5 :: l6 :: l7 :: l8 :: l9 :: l10 :: some (.int x) :: r) st h := eg_iload hd rfl k
theorem e_al11 {l0 l1 l2 l3 l4 l5 l6 l7 l8 l9 l10 : Option Value} {x : Nat} (hd : decode cc pc = .ok (.aload 11, 2)) (k : jV cc own d X b (pc + 2) (l0 :: l1 :: l2 :: l3 :: l4 :: l5 :: l6 :: l7 :: l8 :: l9 :: l10 :: some (.ref x) :: r) (.ref x :: st) h) : jV cc own d X b pc (l0 :: l1 :: l2 :: l3 :: l4 :: l5 :: l6 :: l7 :: l8 :: l9 :: l10 :: some (.ref x) :: r) st h := eg_aload hd rfl k
theorem e_is11 {l0 l1 l2 l3 l4 l5 l6 l7 l8 l9 l10 : Option Value} {z : Option Value} {x : Int32} (hd : decode cc pc = .ok (.istore 11, 2)) (hn : jnl l10 = true) (k : jV cc own d X b (pc + 2) (l0 :: l1 :: l2 :: l3 :: l4 :: l5 :: l6 :: l7 :: l8 :: l9 :: l10 :: some (.int x) :: r) st h) : jV cc own d X b pc (l0 :: l1 :: l2 :: l3 :: l4 :: l5 :: l6 :: l7 :: l8 :: l9 :: l10 :: z :: r) (.int x :: st) h := eg_istore hd (by show 11 < List.length _; simp only [List.length_cons]; omega) (jn_at (i := 10) rfl hn) k
theorem e_as11 {l0 l1 l2 l3 l4 l5 l6 l7 l8 l9 l10 : Option Value} {z : Option Value} {x : Nat} (hd : decode cc pc = .ok (.astore 11, 2)) (hn : jnl l10 = true) (k : jV cc own d X b (pc + 2) (l0 :: l1 :: l2 :: l3 :: l4 :: l5 :: l6 :: l7 :: l8 :: l9 :: l10 :: some (.ref x) :: r) st h) : jV cc own d X b pc (l0 :: l1 :: l2 :: l3 :: l4 :: l5 :: l6 :: l7 :: l8 :: l9 :: l10 :: z :: r) (.ref x :: st) h := eg_astore hd (by show 11 < List.length _; simp only [List.length_cons]; omega) (jn_at (i := 10) rfl hn) k
theorem e_inc11 {l0 l1 l2 l3 l4 l5 l6 l7 l8 l9 l10 : Option Value} {n : Int} {x : Int32} (c : Int32) (hd : decode cc pc = .ok (.iinc 11 n, 3)) (hc : Int32.ofInt n = c) (hn : jnl l10 = true) (k : jV cc own d X b (pc + 3) (l0 :: l1 :: l2 :: l3 :: l4 :: l5 :: l6 :: l7 :: l8 :: l9 :: l10 :: some (.int (x + c)) :: r) st h) : jV cc own d X b pc (l0 :: l1 :: l2 :: l3 :: l4 :: l5 :: l6 :: l7 :: l8 :: l9 :: l10 :: some (.int x) :: r) st h := eg_iinc (v := x + c) hd rfl (by rw [hc]) (jn_at (i := 10) rfl hn) k
theorem e_ll11 {l0 l1 l2 l3 l4 l5 l6 l7 l8 l9 l10 : Option Value} {x : Int64} (hd : decode cc pc = .ok (.lload 11, 2)) (k : jV cc own d X b (pc + 2) (l0 :: l1 :: l2 :: l3 :: l4 :: l5 :: l6 :: l7 :: l8 :: l9 :: l10 :: some (.long x) :: r) (.long x :: st) h) : jV cc own d X b pc (l0 :: l1 :: l2 :: l3 :: l4 :: l5 :: l6 :: l7 :: l8 :: l9 :: l10 :: some (.long x) :: r) st h := eg_lload hd rfl k
theorem e_ls11 {l0 l1 l2 l3 l4 l5 l6 l7 l8 l9 l10 : Option Value} {z z2 : Option Value} {x : Int64} (hd : decode cc pc = .ok (.lstore 11, 2)) (hn : jnl l10 = true) (k : jV cc own d X b (pc + 2) (l0 :: l1 :: l2 :: l3 :: l4 :: l5 :: l6 :: l7 :: l8 :: l9 :: l10 :: some (.long x) :: none :: r) st h) : jV cc own d X b pc (l0 :: l1 :: l2 :: l3 :: l4 :: l5 :: l6 :: l7 :: l8 :: l9 :: l10 :: z :: z2 :: r) (.long x :: st) h := eg_lstore hd (by show 11 + 1 < List.length _; simp only [List.length_cons]; omega) (jn_at (i := 10) rfl hn) k
theorem e_il12 {l0 l1 l2 l3 l4 l5 l6 l7 l8 l9 l10 l11 : Option Value} {x : Int32} (hd : decode cc pc = .ok (.iload 12, 2)) (k : jV cc own d X b (pc + 2) (l0 :: l1 :: l2 :: l3 :: l4 :: l5 :: l6 :: l7 :: l8 :: l9 :: l10 :: l11 :: some (.int x) :: r) (.int x :: st) h) : jV cc own d X b pc (l0 :: l1 :: l2 :: l3 :: l4 :: l5 :: l6 :: l7 :: l8 :: l9 :: l10 :: l11 :: some (.int x) :: r) st h := eg_iload hd rfl k
theorem e_al12 {l0 l1 l2 l3 l4 l5 l6 l7 l8 l9 l10 l11 : Option Value} {x : Nat} (hd : decode cc pc = .ok (.aload 12, 2)) (k : jV cc own d X b (pc + 2) (l0 :: l1 :: l2 :: l3 :: l4 :: l5 :: l6 :: l7 :: l8 :: l9 :: l10 :: l11 :: some (.ref x) :: r) (.ref x :: st) h) : jV cc own d X b pc (l0 :: l1 :: l2 :: l3 :: l4 :: l5 :: l6 :: l7 :: l8 :: l9 :: l10 :: l11 :: some (.ref x) :: r) st h := eg_aload hd rfl k
theorem e_is12 {l0 l1 l2 l3 l4 l5 l6 l7 l8 l9 l10 l11 : Option Value} {z : Option Value} {x : Int32} (hd : decode cc pc = .ok (.istore 12, 2)) (hn : jnl l11 = true) (k : jV cc own d X b (pc + 2) (l0 :: l1 :: l2 :: l3 :: l4 :: l5 :: l6 :: l7 :: l8 :: l9 :: l10 :: l11 :: some (.int x) :: r) st h) : jV cc own d X b pc (l0 :: l1 :: l2 :: l3 :: l4 :: l5 :: l6 :: l7 :: l8 :: l9 :: l10 :: l11 :: z :: r) (.int x :: st) h := eg_istore hd (by show 12 < List.length _; simp only [List.length_cons]; omega) (jn_at (i := 11) rfl hn) k
theorem e_as12 {l0 l1 l2 l3 l4 l5 l6 l7 l8 l9 l10 l11 : Option Value} {z : Option Value} {x : Nat} (hd : decode cc pc = .ok (.astore 12, 2)) (hn : jnl l11 = true) (k : jV cc own d X b (pc + 2) (l0 :: l1 :: l2 :: l3 :: l4 :: l5 :: l6 :: l7 :: l8 :: l9 :: l10 :: l11 :: some (.ref x) :: r) st h) : jV cc own d X b pc (l0 :: l1 :: l2 :: l3 :: l4 :: l5 :: l6 :: l7 :: l8 :: l9 :: l10 :: l11 :: z :: r) (.ref x :: st) h := eg_astore hd (by show 12 < List.length _; simp only [List.length_cons]; omega) (jn_at (i := 11) rfl hn) k
theorem e_inc12 {l0 l1 l2 l3 l4 l5 l6 l7 l8 l9 l10 l11 : Option Value} {n : Int} {x : Int32} (c : Int32) (hd : decode cc pc = .ok (.iinc 12 n, 3)) (hc : Int32.ofInt n = c) (hn : jnl l11 = true) (k : jV cc own d X b (pc + 3) (l0 :: l1 :: l2 :: l3 :: l4 :: l5 :: l6 :: l7 :: l8 :: l9 :: l10 :: l11 :: some (.int (x + c)) :: r) st h) : jV cc own d X b pc (l0 :: l1 :: l2 :: l3 :: l4 :: l5 :: l6 :: l7 :: l8 :: l9 :: l10 :: l11 :: some (.int x) :: r) st h := eg_iinc (v := x + c) hd rfl (by rw [hc]) (jn_at (i := 11) rfl hn) k
theorem e_ll12 {l0 l1 l2 l3 l4 l5 l6 l7 l8 l9 l10 l11 : Option Value} {x : Int64} (hd : decode cc pc = .ok (.lload 12, 2)) (k : jV cc own d X b (pc + 2) (l0 :: l1 :: l2 :: l3 :: l4 :: l5 :: l6 :: l7 :: l8 :: l9 :: l10 :: l11 :: some (.long x) :: r) (.long x :: st) h) : jV cc own d X b pc (l0 :: l1 :: l2 :: l3 :: l4 :: l5 :: l6 :: l7 :: l8 :: l9 :: l10 :: l11 :: some (.long x) :: r) st h := eg_lload hd rfl k
theorem e_ls12 {l0 l1 l2 l3 l4 l5 l6 l7 l8 l9 l10 l11 : Option Value} {z z2 : Option Value} {x : Int64} (hd : decode cc pc = .ok (.lstore 12, 2)) (hn : jnl l11 = true) (k : jV cc own d X b (pc + 2) (l0 :: l1 :: l2 :: l3 :: l4 :: l5 :: l6 :: l7 :: l8 :: l9 :: l10 :: l11 :: some (.long x) :: none :: r) st h) : jV cc own d X b pc (l0 :: l1 :: l2 :: l3 :: l4 :: l5 :: l6 :: l7 :: l8 :: l9 :: l10 :: l11 :: z :: z2 :: r) (.long x :: st) h := eg_lstore hd (by show 12 + 1 < List.length _; simp only [List.length_cons]; omega) (jn_at (i := 11) rfl hn) k
theorem e_il13 {l0 l1 l2 l3 l4 l5 l6 l7 l8 l9 l10 l11 l12 : Option Value} {x : Int32} (hd : decode cc pc = .ok (.iload 13, 2)) (k : jV cc own d X b (pc + 2) (l0 :: l1 :: l2 :: l3 :: l4 :: l5 :: l6 :: l7 :: l8 :: l9 :: l10 :: l11 :: l12 :: some (.int x) :: r) (.int x :: st) h) : jV cc own d X b pc (l0 :: l1 :: l2 :: l3 :: l4 :: l5 :: l6 :: l7 :: l8 :: l9 :: l10 :: l11 :: l12 :: some (.int x) :: r) st h := eg_iload hd rfl k
theorem e_al13 {l0 l1 l2 l3 l4 l5 l6 l7 l8 l9 l10 l11 l12 : Option Value} {x : Nat} (hd : decode cc pc = .ok (.aload 13, 2)) (k : jV cc own d X b (pc + 2) (l0 :: l1 :: l2 :: l3 :: l4 :: l5 :: l6 :: l7 :: l8 :: l9 :: l10 :: l11 :: l12 :: some (.ref x) :: r) (.ref x :: st) h) : jV cc own d X b pc (l0 :: l1 :: l2 :: l3 :: l4 :: l5 :: l6 :: l7 :: l8 :: l9 :: l10 :: l11 :: l12 :: some (.ref x) :: r) st h := eg_aload hd rfl k
theorem e_is13 {l0 l1 l2 l3 l4 l5 l6 l7 l8 l9 l10 l11 l12 : Option Value} {z : Option Value} {x : Int32} (hd : decode cc pc = .ok (.istore 13, 2)) (hn : jnl l12 = true) (k : jV cc own d X b (pc + 2) (l0 :: l1 :: l2 :: l3 :: l4 :: l5 :: l6 :: l7 :: l8 :: l9 :: l10 :: l11 :: l12 :: some (.int x) :: r) st h) : jV cc own d X b pc (l0 :: l1 :: l2 :: l3 :: l4 :: l5 :: l6 :: l7 :: l8 :: l9 :: l10 :: l11 :: l12 :: z :: r) (.int x :: st) h := eg_istore hd (by show 13 < List.length _; simp only [List.length_cons]; omega) (jn_at (i := 12) rfl hn) k
theorem e_as13 {l0 l1 l2 l3 l4 l5 l6 l7 l8 l9 l10 l11 l12 : Option Value} {z : Option Value} {x : Nat} (hd : decode cc pc = .ok (.astore 13, 2)) (hn : jnl l12 = true) (k : jV cc own d X b (pc + 2) (l0 :: l1 :: l2 :: l3 :: l4 :: l5 :: l6 :: l7 :: l8 :: l9 :: l10 :: l11 :: l12 :: some (.ref x) :: r) st h) : jV cc own d X b pc (l0 :: l1 :: l2 :: l3 :: l4 :: l5 :: l6 :: l7 :: l8 :: l9 :: l10 :: l11 :: l12 :: z :: r) (.ref x :: st) h := eg_astore hd (by show 13 < List.length _; simp only [List.length_cons]; omega) (jn_at (i := 12) rfl hn) k
theorem e_inc13 {l0 l1 l2 l3 l4 l5 l6 l7 l8 l9 l10 l11 l12 : Option Value} {n : Int} {x : Int32} (c : Int32) (hd : decode cc pc = .ok (.iinc 13 n, 3)) (hc : Int32.ofInt n = c) (hn : jnl l12 = true) (k : jV cc own d X b (pc + 3) (l0 :: l1 :: l2 :: l3 :: l4 :: l5 :: l6 :: l7 :: l8 :: l9 :: l10 :: l11 :: l12 :: some (.int (x + c)) :: r) st h) : jV cc own d X b pc (l0 :: l1 :: l2 :: l3 :: l4 :: l5 :: l6 :: l7 :: l8 :: l9 :: l10 :: l11 :: l12 :: some (.int x) :: r) st h := eg_iinc (v := x + c) hd rfl (by rw [hc]) (jn_at (i := 12) rfl hn) k
theorem e_ll13 {l0 l1 l2 l3 l4 l5 l6 l7 l8 l9 l10 l11 l12 : Option Value} {x : Int64} (hd : decode cc pc = .ok (.lload 13, 2)) (k : jV cc own d X b (pc + 2) (l0 :: l1 :: l2 :: l3 :: l4 :: l5 :: l6 :: l7 :: l8 :: l9 :: l10 :: l11 :: l12 :: some (.long x) :: r) (.long x :: st) h) : jV cc own d X b pc (l0 :: l1 :: l2 :: l3 :: l4 :: l5 :: l6 :: l7 :: l8 :: l9 :: l10 :: l11 :: l12 :: some (.long x) :: r) st h := eg_lload hd rfl k
theorem e_ls13 {l0 l1 l2 l3 l4 l5 l6 l7 l8 l9 l10 l11 l12 : Option Value} {z z2 : Option Value} {x : Int64} (hd : decode cc pc = .ok (.lstore 13, 2)) (hn : jnl l12 = true) (k : jV cc own d X b (pc + 2) (l0 :: l1 :: l2 :: l3 :: l4 :: l5 :: l6 :: l7 :: l8 :: l9 :: l10 :: l11 :: l12 :: some (.long x) :: none :: r) st h) : jV cc own d X b pc (l0 :: l1 :: l2 :: l3 :: l4 :: l5 :: l6 :: l7 :: l8 :: l9 :: l10 :: l11 :: l12 :: z :: z2 :: r) (.long x :: st) h := eg_lstore hd (by show 13 + 1 < List.length _; simp only [List.length_cons]; omega) (jn_at (i := 12) rfl hn) k
theorem e_il14 {l0 l1 l2 l3 l4 l5 l6 l7 l8 l9 l10 l11 l12 l13 : Option Value} {x : Int32} (hd : decode cc pc = .ok (.iload 14, 2)) (k : jV cc own d X b (pc + 2) (l0 :: l1 :: l2 :: l3 :: l4 :: l5 :: l6 :: l7 :: l8 :: l9 :: l10 :: l11 :: l12 :: l13 :: some (.int x) :: r) (.int x :: st) h) : jV cc own d X b pc (l0 :: l1 :: l2 :: l3 :: l4 :: l5 :: l6 :: l7 :: l8 :: l9 :: l10 :: l11 :: l12 :: l13 :: some (.int x) :: r) st h := eg_iload hd rfl k
theorem e_al14 {l0 l1 l2 l3 l4 l5 l6 l7 l8 l9 l10 l11 l12 l13 : Option Value} {x : Nat} (hd : decode cc pc = .ok (.aload 14, 2)) (k : jV cc own d X b (pc + 2) (l0 :: l1 :: l2 :: l3 :: l4 :: l5 :: l6 :: l7 :: l8 :: l9 :: l10 :: l11 :: l12 :: l13 :: some (.ref x) :: r) (.ref x :: st) h) : jV cc own d X b pc (l0 :: l1 :: l2 :: l3 :: l4 :: l5 :: l6 :: l7 :: l8 :: l9 :: l10 :: l11 :: l12 :: l13 :: some (.ref x) :: r) st h := eg_aload hd rfl k
theorem e_is14 {l0 l1 l2 l3 l4 l5 l6 l7 l8 l9 l10 l11 l12 l13 : Option Value} {z : Option Value} {x : Int32} (hd : decode cc pc = .ok (.istore 14, 2)) (hn : jnl l13 = true) (k : jV cc own d X b (pc + 2) (l0 :: l1 :: l2 :: l3 :: l4 :: l5 :: l6 :: l7 :: l8 :: l9 :: l10 :: l11 :: l12 :: l13 :: some (.int x) :: r) st h) : jV cc own d X b pc (l0 :: l1 :: l2 :: l3 :: l4 :: l5 :: l6 :: l7 :: l8 :: l9 :: l10 :: l11 :: l12 :: l13 :: z :: r) (.int x :: st) h := eg_istore hd (by show 14 < List.length _; simp only [List.length_cons]; omega) (jn_at (i := 13) rfl hn) k
theorem e_as14 {l0 l1 l2 l3 l4 l5 l6 l7 l8 l9 l10 l11 l12 l13 : Option Value} {z : Option Value} {x : Nat} (hd : decode cc pc = .ok (.astore 14, 2)) (hn : jnl l13 = true) (k : jV cc own d X b (pc + 2) (l0 :: l1 :: l2 :: l3 :: l4 :: l5 :: l6 :: l7 :: l8 :: l9 :: l10 :: l11 :: l12 :: l13 :: some (.ref x) :: r) st h) : jV cc own d X b pc (l0 :: l1 :: l2 :: l3 :: l4 :: l5 :: l6 :: l7 :: l8 :: l9 :: l10 :: l11 :: l12 :: l13 :: z :: r) (.ref x :: st) h := eg_astore hd (by show 14 < List.length _; simp only [List.length_cons]; omega) (jn_at (i := 13) rfl hn) k
theorem e_inc14 {l0 l1 l2 l3 l4 l5 l6 l7 l8 l9 l10 l11 l12 l13 : Option Value} {n : Int} {x : Int32} (c : Int32) (hd : decode cc pc = .ok (.iinc 14 n, 3)) (hc : Int32.ofInt n = c) (hn : jnl l13 = true) (k : jV cc own d X b (pc + 3) (l0 :: l1 :: l2 :: l3 :: l4 :: l5 :: l6 :: l7 :: l8 :: l9 :: l10 :: l11 :: l12 :: l13 :: some (.int (x + c)) :: r) st h) : jV cc own d X b pc (l0 :: l1 :: l2 :: l3 :: l4 :: l5 :: l6 :: l7 :: l8 :: l9 :: l10 :: l11 :: l12 :: l13 :: some (.int x) :: r) st h := eg_iinc (v := x + c) hd rfl (by rw [hc]) (jn_at (i := 13) rfl hn) k
theorem e_ll14 {l0 l1 l2 l3 l4 l5 l6 l7 l8 l9 l10 l11 l12 l13 : Option Value} {x : Int64} (hd : decode cc pc = .ok (.lload 14, 2)) (k : jV cc own d X b (pc + 2) (l0 :: l1 :: l2 :: l3 :: l4 :: l5 :: l6 :: l7 :: l8 :: l9 :: l10 :: l11 :: l12 :: l13 :: some (.long x) :: r) (.long x :: st) h) : jV cc own d X b pc (l0 :: l1 :: l2 :: l3 :: l4 :: l5 :: l6 :: l7 :: l8 :: l9 :: l10 :: l11 :: l12 :: l13 :: some (.long x) :: r) st h := eg_lload hd rfl k
theorem e_ls14 {l0 l1 l2 l3 l4 l5 l6 l7 l8 l9 l10 l11 l12 l13 : Option Value} {z z2 : Option Value} {x : Int64} (hd : decode cc pc = .ok (.lstore 14, 2)) (hn : jnl l13 = true) (k : jV cc own d X b (pc + 2) (l0 :: l1 :: l2 :: l3 :: l4 :: l5 :: l6 :: l7 :: l8 :: l9 :: l10 :: l11 :: l12 :: l13 :: some (.long x) :: none :: r) st h) : jV cc own d X b pc (l0 :: l1 :: l2 :: l3 :: l4 :: l5 :: l6 :: l7 :: l8 :: l9 :: l10 :: l11 :: l12 :: l13 :: z :: z2 :: r) (.long x :: st) h := eg_lstore hd (by show 14 + 1 < List.length _; simp only [List.length_cons]; omega) (jn_at (i := 13) rfl hn) k
theorem e_il15 {l0 l1 l2 l3 l4 l5 l6 l7 l8 l9 l10 l11 l12 l13 l14 : Option Value} {x : Int32} (hd : decode cc pc = .ok (.iload 15, 2)) (k : jV cc own d X b (pc + 2) (l0 :: l1 :: l2 :: l3 :: l4 :: l5 :: l6 :: l7 :: l8 :: l9 :: l10 :: l11 :: l12 :: l13 :: l14 :: some (.int x) :: r) (.int x :: st) h) : jV cc own d X b pc (l0 :: l1 :: l2 :: l3 :: l4 :: l5 :: l6 :: l7 :: l8 :: l9 :: l10 :: l11 :: l12 :: l13 :: l14 :: some (.int x) :: r) st h := eg_iload hd rfl k
theorem e_al15 {l0 l1 l2 l3 l4 l5 l6 l7 l8 l9 l10 l11 l12 l13 l14 : Option Value} {x : Nat} (hd : decode cc pc = .ok (.aload 15, 2)) (k : jV cc own d X b (pc + 2) (l0 :: l1 :: l2 :: l3 :: l4 :: l5 :: l6 :: l7 :: l8 :: l9 :: l10 :: l11 :: l12 :: l13 :: l14 :: some (.ref x) :: r) (.ref x :: st) h) : jV cc own d X b pc (l0 :: l1 :: l2 :: l3 :: l4 :: l5 :: l6 :: l7 :: l8 :: l9 :: l10 :: l11 :: l12 :: l13 :: l14 :: some (.ref x) :: r) st h := eg_aload hd rfl k
theorem e_is15 {l0 l1 l2 l3 l4 l5 l6 l7 l8 l9 l10 l11 l12 l13 l14 : Option Value} {z : Option Value} {x : Int32} (hd : decode cc pc = .ok (.istore 15, 2)) (hn : jnl l14 = true) (k : jV cc own d X b (pc + 2) (l0 :: l1 :: l2 :: l3 :: l4 :: l5 :: l6 :: l7 :: l8 :: l9 :: l10 :: l11 :: l12 :: l13 :: l14 :: some (.int x) :: r) st h) : jV cc own d X b pc (l0 :: l1 :: l2 :: l3 :: l4 :: l5 :: l6 :: l7 :: l8 :: l9 :: l10 :: l11 :: l12 :: l13 :: l14 :: z :: r) (.int x :: st) h := eg_istore hd (by show 15 < List.length _; simp only [List.length_cons]; omega) (jn_at (i := 14) rfl hn) k
theorem e_as15 {l0 l1 l2 l3 l4 l5 l6 l7 l8 l9 l10 l11 l12 l13 l14 : Option Value} {z : Option Value} {x : Nat} (hd : decode cc pc = .ok (.astore 15, 2)) (hn : jnl l14 = true) (k : jV cc own d X b (pc + 2) (l0 :: l1 :: l2 :: l3 :: l4 :: l5 :: l6 :: l7 :: l8 :: l9 :: l10 :: l11 :: l12 :: l13 :: l14 :: some (.ref x) :: r) st h) : jV cc own d X b pc (l0 :: l1 :: l2 :: l3 :: l4 :: l5 :: l6 :: l7 :: l8 :: l9 :: l10 :: l11 :: l12 :: l13 :: l14 :: z :: r) (.ref x :: st) h := eg_astore hd (by show 15 < List.length _; simp only [List.length_cons]; omega) (jn_at (i := 14) rfl hn) k
theorem e_inc15 {l0 l1 l2 l3 l4 l5 l6 l7 l8 l9 l10 l11 l12 l13 l14 : Option Value} {n : Int} {x : Int32} (c : Int32) (hd : decode cc pc = .ok (.iinc 15 n, 3)) (hc : Int32.ofInt n = c) (hn : jnl l14 = true) (k : jV cc own d X b (pc + 3) (l0 :: l1 :: l2 :: l3 :: l4 :: l5 :: l6 :: l7 :: l8 :: l9 :: l10 :: l11 :: l12 :: l13 :: l14 :: some (.int (x + c)) :: r) st h) : jV cc own d X b pc (l0 :: l1 :: l2 :: l3 :: l4 :: l5 :: l6 :: l7 :: l8 :: l9 :: l10 :: l11 :: l12 :: l13 :: l14 :: some (.int x) :: r) st h := eg_iinc (v := x + c) hd rfl (by rw [hc]) (jn_at (i := 14) rfl hn) k
theorem e_ll15 {l0 l1 l2 l3 l4 l5 l6 l7 l8 l9 l10 l11 l12 l13 l14 : Option Value} {x : Int64} (hd : decode cc pc = .ok (.lload 15, 2)) (k : jV cc own d X b (pc + 2) (l0 :: l1 :: l2 :: l3 :: l4 :: l5 :: l6 :: l7 :: l8 :: l9 :: l10 :: l11 :: l12 :: l13 :: l14 :: some (.long x) :: r) (.long x :: st) h) : jV cc own d X b pc (l0 :: l1 :: l2 :: l3 :: l4 :: l5 :: l6 :: l7 :: l8 :: l9 :: l10 :: l11 :: l12 :: l13 :: l14 :: some (.long x) :: r) st h := eg_lload hd rfl k
theorem e_ls15 {l0 l1 l2 l3 l4 l5 l6 l7 l8 l9 l10 l11 l12 l13 l14 : Option Value} {z z2 : Option Value} {x : Int64} (hd : decode cc pc = .ok (.lstore 15, 2)) (hn : jnl l14 = true) (k : jV cc own d X b (pc + 2) (l0 :: l1 :: l2 :: l3 :: l4 :: l5 :: l6 :: l7 :: l8 :: l9 :: l10 :: l11 :: l12 :: l13 :: l14 :: some (.long x) :: none :: r) st h) : jV cc own d X b pc (l0 :: l1 :: l2 :: l3 :: l4 :: l5 :: l6 :: l7 :: l8 :: l9 :: l10 :: l11 :: l12 :: l13 :: l14 :: z :: z2 :: r) (.long x :: st) h := eg_lstore hd (by show 15 + 1 < List.length _; simp only [List.length_cons]; omega) (jn_at (i := 14) rfl hn) k
end JP
end
section
/-! rows of the judgement that read and write cells, make them, call and return -/
/-- what a class' table says -/
def jCl (ci : Nat) (C : String) (T : u_T) (N : Nat) (ty : Nat → FieldType) : Prop := vwCl[ci]? = some (C, T, N) ∧ (∀ w ∈ u_ws C T N, w ∈ jT) ∧ (∀ k, k < N → parseFieldDescriptor (T k).2.2.1 = some (ty k)) ∧ (∀ a, a < N → ∀ b, b < N → a ≠ b → (T a).2.1 ≠ (T b).2.1)
/-- a field by the pool of a class: class number, place, type, final -/
def jFl (own : String) (i ci k : Nat) (t : FieldType) (fin : Bool) : Prop := ∃ (C : String) (T : u_T) (N : Nat) (ty : Nat → FieldType), jCl ci C T N ty ∧ k < N ∧ Cond.fieldLink own i (T k).1 (T k).2.1 (T k).2.2.1 ∈ jT ∧ ty k = t ∧ (T k).2.2.2 = fin ∧ (T k).1 = C
/-- calls by the pool of a class -/
def jCv (own : String) (i : Nat) (y : MethodName) (yc : ByteArray) (maxL : Nat) (ret : Option FieldType) (np : Nat) : Prop := Cond.methodLink own i y ∈ jT ∧ Cond.instanceMethod y ∈ jT ∧ Cond.selects y.cls y y ∈ jT ∧ Cond.initialized y.cls ∈ jT ∧ Cond.code y yc maxL ret ∈ jT ∧ (y.cls ≠ "java/lang/invoke/MethodHandle" ∧ y.cls ≠ "java/lang/invoke/VarHandle" ∧ (parseMethodDescriptor y.desc).map (fun d => d.parameters.length) = some np) ∧ maxL ≤ 40
def jCs (own : String) (i : Nat) (y : MethodName) (yc : ByteArray) (maxL : Nat) (ret : Option FieldType) (np : Nat) : Prop := Cond.methodLink own i y ∈ jT ∧ Cond.static y ∈ jT ∧ Cond.initialized y.cls ∈ jT ∧ Cond.code y yc maxL ret ∈ jT ∧ (y.cls ≠ "java/lang/invoke/MethodHandle" ∧ y.cls ≠ "java/lang/invoke/VarHandle" ∧ (parseMethodDescriptor y.desc).map (fun d => d.parameters.length) = some np) ∧ maxL ≤ 40
def jCi (own : String) (i : Nat) (y : MethodName) (yc : ByteArray) (maxL : Nat) (np : Nat) : Prop := Cond.methodLink own i y ∈ jT ∧ Cond.instanceMethod y ∈ jT ∧ Cond.initialized y.cls ∈ jT ∧ Cond.code y yc maxL none ∈ jT ∧ y.name = "<init>" ∧ (y.cls ≠ "java/lang/invoke/MethodHandle" ∧ y.cls ≠ "java/lang/invoke/VarHandle" ∧ (parseMethodDescriptor y.desc).map (fun d => d.parameters.length) = some np) ∧ maxL ≤ 40
/-- a private static of a nest mate -/
def jCn (own : String) (i : Nat) (y : MethodName) (host : String) (yc : ByteArray) (maxL : Nat) (ret : Option FieldType) (np : Nat) : Prop := (∀ (g : jG) (U : State) (H : Heap), jK g U H → va_Nw (.methodLinkNest own i y host) U) ∧ Cond.static y ∈ jT ∧ Cond.initialized y.cls ∈ jT ∧ Cond.code y yc maxL ret ∈ jT ∧ (y.cls ≠ "java/lang/invoke/MethodHandle" ∧ y.cls ≠ "java/lang/invoke/VarHandle" ∧ (parseMethodDescriptor y.desc).map (fun d => d.parameters.length) = some np) ∧ maxL ≤ 40
def jBud (b bc b' : jB) : Prop := jbk b = jbk b' + jbk bc ∧ jbn b = jbn b' + jbn bc ∧ bc.isSome = b.isSome ∧ b'.isSome = b.isSome
theorem jBud0 : jBud none none none := ⟨rfl, rfl, rfl, rfl⟩
theorem jBud1 {k n mc ms : Nat} : jBud (some (k + mc, n + ms)) (some (mc, ms)) (some (k, n)) := ⟨rfl, rfl, rfl, rfl⟩
section JE
variable {cc : ByteArray} {own : String} {d : Nat} {X : jX} {b : jB} {pc : Nat} {ls : List (Option Value)} {st : List Value} {h : jH}
theorem e_get {i o ci k : Nat} {t : FieldType} {fin : Bool} {fs : List Value} {v : Value} (hd : decode cc pc = .ok (.getfield i, 3)) (hf : jFl own i ci k t fin) (hc : h[o]? = some (jO ci fs)) (hv : fs[k]? = some v)
    (k : jV cc own d X b (pc + 3) ls (v :: st) h) : jV cc own d X b pc ls (.ref o :: st) h := by
  obtain ⟨l, g, p, e, R, s, m, args, below, meth, c, Q⟩ := X
  intro ok H locs a k' n' h1 h2 hR hz hS hL
  obtain ⟨C, T, N, ty, ⟨f1, f2, f3, f4⟩, f5, f6, f7, f8, f9⟩ := hf
  exact va_get ok.1 ok.2.1 ok.2.2.2.1 f2 ok.2.2.1 ok.2.2.2.2.2.2.2.1 hR.2 o (jws_at hc) f1 _ f5 (ok.2.2.2.1 _ f6) (fun x hx => hx) (v := jval g v) (by rw [List.getElem?_map, hv]; rfl) hd (k ok H locs a k' n' h1 h2 hR hz hS hL)
theorem e_put {i o ci k : Nat} {t : FieldType} {fs : List Value} {v : Value} (hd : decode cc pc = .ok (.putfield i, 3)) (hf : jFl own i ci k t false) (hc : h[o]? = some (jO ci fs)) (hl : k < fs.length) (hv : ∀ g : jG, narrow t (jval g v) = jval g v ∧ fits t (jval g v) = true)
    (kk : jV cc own d X b (pc + 3) ls st (h.set o (jO ci (fs.set k v)))) : jV cc own d X b pc ls (v :: .ref o :: st) h := by
  obtain ⟨l, g, p, e, R, s, m, args, below, meth, c, Q⟩ := X
  intro ok H locs a k' n' h1 h2 hR hz hS hL
  obtain ⟨C, T, N, ty, ⟨f1, f2, f3, f4⟩, f5, f6, rfl, f8, f9⟩ := hf
  have hap := va_apart (own := own) ok.2.2.2.1 f2 ty f3 f4 ok.2.2.2.2.2.2.2.1 f1
  obtain ⟨r, q0, cell, q1, q2, q3, q4⟩ := hR.2 o _ (jws_at hc)
  have hr : r = (C, T, N) := Option.some.inj (q0.symm.trans f1)
  subst hr
  obtain ⟨hSl, hfc, kC, hkC, hkind⟩ := ok.2.2.2.2.2.2.2.1.1 ci _ f1
  obtain ⟨cf, kf, fi, f, hi, hsl⟩ := hSl k f5
  have hlay := ok.2.2.2.1 _ (f2 _ (u_in_lay f5))
  unfold u_lay at hlay
  rw [if_neg (by rw [f8]; decide)] at hlay
  have hst := (u_facts hfc hkC (u_lays ok.2.2.2.1 f2 f5) hi).1
  have h6 := u_store hfc hkC hkind hlay hi (f3 k f5) (hv g).1 (hv g).2
  refine W.putK ok.1 ok.2.1 (f := f) ⟨ok.2.2.1, ok.2.2.2.1 _ f6, ⟨_, _, _, hi⟩, hst⟩ (by rw [q2]; exact h6) q1 q3 (by rw [hsl]; exact k2_hasslot (q4 k f5)) rfl rfl hd fun H' e1 e2 e3 => ?_
  rw [hsl] at e1 ⊢
  have hat : va_at g.2.2.1 vwCl (jad g o, jcell g (jO ci (fs.set k v))) H' := by
    refine ⟨_, f1, t_OB.to (V := updV (vp_V (fs.map (jval g))) k (jval g v)) ⟨_, e1, q2, q3, t_set q4 hap f5 _⟩ (fun j _ => ?_)⟩
    show updV (vp_V (fs.map (jval g))) k (jval g v) j = vp_V ((fs.set k v).map (jval g)) j
    rw [List.map_set]
    exact vp_updV_set (by simpa using hl) _ j
  exact kk ok H' _ a k' n' h1 h2 (jRep_set hR hc hat e3) (fun z => by rw [e2, hz z]; simp) (hS.put e2 e3 ((jws_D hR.1).2 o _ (jws_at hc))) hL
theorem e_putF {i o ci k : Nat} {t : FieldType} {fs : List Value} {v : Value} (hd : decode cc pc = .ok (.putfield i, 3)) (hf : jFl own i ci k t true) (hX : jInit X) (hown : ∀ C T N, vwCl[ci]? = some (C, T, N) → C = own) (hc : h[o]? = some (jO ci fs)) (hl : k < fs.length) (hv : ∀ g : jG, narrow t (jval g v) = jval g v ∧ fits t (jval g v) = true)
    (kk : jV cc own d X b (pc + 3) ls st (h.set o (jO ci (fs.set k v)))) : jV cc own d X b pc ls (v :: .ref o :: st) h := by
  obtain ⟨l, g, p, e, R, s, m, args, below, meth, c, Q⟩ := X
  intro ok H locs a k' n' h1 h2 hR hz hS hL
  obtain ⟨C, T, N, ty, ⟨f1, f2, f3, f4⟩, f5, f6, rfl, f8, f9⟩ := hf
  have hC := hown C T N f1
  have hap := va_apart (own := own) ok.2.2.2.1 f2 ty f3 f4 ok.2.2.2.2.2.2.2.1 f1
  obtain ⟨r, q0, cell, q1, q2, q3, q4⟩ := hR.2 o _ (jws_at hc)
  have hr : r = (C, T, N) := Option.some.inj (q0.symm.trans f1)
  subst hr
  obtain ⟨hSl, hfc, kC, hkC, hkind⟩ := ok.2.2.2.2.2.2.2.1.1 ci _ f1
  obtain ⟨cf, kf, fi, f, hi, hsl⟩ := hSl k f5
  have hlay := ok.2.2.2.1 _ (f2 _ (u_in_lay f5))
  unfold u_lay at hlay
  rw [if_pos f8] at hlay
  have hst := (u_facts hfc hkC (u_lays ok.2.2.2.1 f2 f5) hi).1
  have hcf : m.cls = cf := by
    obtain ⟨_, _, c', _, _, _, -, -, hf', -, -, -, hown2, -⟩ := Cond.laysFinal_spec hlay
    have e1 : c' = cf := by have := hi.symm.trans hf'; simp at this; exact this.1.symm
    rw [f9, hC] at hown2
    rw [← e1]; exact Option.some.inj (ok.2.2.1.symm.trans hown2)
  have h6 := u_fits hfc hkC hkind (Or.inr hlay) hi (f3 k f5) (hv g).1 (hv g).2
  refine W.putFinK ok.1 ok.2.1 ok.2.2.1 (ok.2.2.2.1 _ f6) hi hst hcf hX (by rw [q2]; exact h6) q1 q3 (by rw [hsl]; exact k2_hasslot (q4 k f5)) rfl rfl hd fun H' e1 e2 e3 => ?_
  rw [hsl] at e1 ⊢
  have hat : va_at g.2.2.1 vwCl (jad g o, jcell g (jO ci (fs.set k v))) H' := by
    refine ⟨_, f1, t_OB.to (V := updV (vp_V (fs.map (jval g))) k (jval g v)) ⟨_, e1, q2, q3, t_set q4 hap f5 _⟩ (fun j _ => ?_)⟩
    show updV (vp_V (fs.map (jval g))) k (jval g v) j = vp_V ((fs.set k v).map (jval g)) j
    rw [List.map_set]
    exact vp_updV_set (by simpa using hl) _ j
  exact kk ok H' _ a k' n' h1 h2 (jRep_set hR hc hat e3) (fun z => by rw [e2, hz z]; simp) (hS.put e2 e3 ((jws_D hR.1).2 o _ (jws_at hc))) hL
theorem e_iald {o n : Nat} {f : Nat → Int32} {i : Int32} (hd : decode cc pc = .ok (.iaload, 1)) (hc : h[o]? = some (jI n f)) (hi : vp_in i n) (k : jV cc own d X b (pc + 1) ls (.int (f i.toNatClampNeg) :: st) h) : jV cc own d X b pc ls (.int i :: .ref o :: st) h := by
  obtain ⟨l, g, p, e, R, s, m, args, below, meth, c, Q⟩ := X
  intro ok H locs a k' n' h1 h2 hR hz hS hL
  exact va_iald ok.1 ok.2.1 ok.2.2.2.2.2.2.2.1 hR.2 o 0 (jws_at hc) rfl hi hd (k ok H locs a k' n' h1 h2 hR hz hS hL)
theorem e_zald {o n : Nat} {f : Nat → Int32} {i : Int32} (hd : decode cc pc = .ok (.baload, 1)) (hc : h[o]? = some (jZ n f)) (hi : vp_in i n) (k : jV cc own d X b (pc + 1) ls (.int (f i.toNatClampNeg) :: st) h) : jV cc own d X b pc ls (.int i :: .ref o :: st) h := by
  obtain ⟨l, g, p, e, R, s, m, args, below, meth, c, Q⟩ := X
  intro ok H locs a k' n' h1 h2 hR hz hS hL
  exact va_zald ok.1 ok.2.1 ok.2.2.2.2.2.2.2.1 hR.2 o 1 (jws_at hc) rfl hi hd (k ok H locs a k' n' h1 h2 hR hz hS hL)
theorem e_aald {o n q : Nat} {f : Nat → Option Nat} {i : Int32} (hd : decode cc pc = .ok (.aaload, 1)) (hc : h[o]? = some (jR n f)) (hi : vp_in i n) (hq : f i.toNatClampNeg = some q) (k : jV cc own d X b (pc + 1) ls (.ref q :: st) h) : jV cc own d X b pc ls (.int i :: .ref o :: st) h := by
  obtain ⟨l, g, p, e, R, s, m, args, below, meth, c, Q⟩ := X
  intro ok H locs a k' n' h1 h2 hR hz hS hL
  refine va_aldq ok.1 ok.2.1 ok.2.2.2.2.2.2.2.1 hR.2 o 2 (jws_at hc) rfl hi hd ?_
  have e1 : va_rf ((f i.toNatClampNeg).map (jad g)) = jval g (.ref q) := by rw [hq]; rfl
  rw [e1]
  exact k ok H locs a k' n' h1 h2 hR hz hS hL
theorem jarr_at {n : Nat} {i : Int32} (hi : vp_in i n) : ¬ (i < 0 ∨ n ≤ i.toNatClampNeg) := hi
theorem e_iast {o n : Nat} {f : Nat → Int32} {i x : Int32} (hd : decode cc pc = .ok (.iastore, 1)) (hc : h[o]? = some (jI n f)) (hi : vp_in i n) (k : jV cc own d X b (pc + 1) ls st (h.set o (jI n (upd f i.toNatClampNeg x)))) : jV cc own d X b pc ls (.int x :: .int i :: .ref o :: st) h := by
  obtain ⟨l, g, p, e, R, s, m, args, below, meth, c, Q⟩ := X
  intro ok H locs a k' n' h1 h2 hR hz hS hL
  have hcell : H[jad g o]? = some (vp_cell g.2.2.2.1 (n, .inl f)) := hR.2 o _ (jws_at hc)
  refine W.iast ok.1 ok.2.1 hcell ((ok.2.2.2.2.2.2.2.1.2 0 _ rfl).1 n (fun j => .int (f j))) (fun q => by cases q) (by show ¬ (i < 0 ∨ (arrV _ _ _).slots.size ≤ _); rw [arrV_size]; exact hi) rfl rfl hd fun H' e1 e2 e3 => ?_
  have hat : va_at g.2.2.1 vwCl (jad g o, jcell g (jI n (upd f i.toNatClampNeg x))) H' := by
    show H'[jad g o]? = some (vp_cell _ _)
    rw [e1]
    show some (Cell.setSlot (vp_cell _ (n, .inl f)) _ _) = some (vp_cell _ (n, .inl _))
    rw [vp_cell_i, vp_cell_i, arrV_store]
    congr 2
    funext q
    by_cases hq : q = i.toNatClampNeg
    · subst hq; simp [updV, upd]
    · simp [updV, upd, hq]
  exact k ok H' _ a k' n' h1 h2 (jRep_set hR hc hat e3) (fun z => by rw [e2, hz z]; simp) (hS.put e2 e3 ((jws_D hR.1).2 o _ (jws_at hc))) hL
theorem e_zast {o n : Nat} {f : Nat → Int32} {i x : Int32} (hd : decode cc pc = .ok (.bastore, 1)) (hc : h[o]? = some (jZ n f)) (hi : vp_in i n) (hx : narrow .boolean (.int x) = .int x) (k : jV cc own d X b (pc + 1) ls st (h.set o (jZ n (upd f i.toNatClampNeg x)))) : jV cc own d X b pc ls (.int x :: .int i :: .ref o :: st) h := by
  obtain ⟨l, g, p, e, R, s, m, args, below, meth, c, Q⟩ := X
  intro ok H locs a k' n' h1 h2 hR hz hS hL
  have hcell : H[jad g o]? = some (vp_cell g.2.2.2.2.1 (n, .inl f)) := hR.2 o _ (jws_at hc)
  refine W.zast ok.1 ok.2.1 hcell ((ok.2.2.2.2.2.2.2.1.2 1 _ rfl).1 n (fun j => .int (f j))) (fun q => by cases q) (by show ¬ (i < 0 ∨ (arrV _ _ _).slots.size ≤ _); rw [arrV_size]; exact hi) rfl rfl hd fun H' e1 e2 e3 => ?_
  have hat : va_at g.2.2.1 vwCl (jad g o, jcell g (jZ n (upd f i.toNatClampNeg x))) H' := by
    show H'[jad g o]? = some (vp_cell _ _)
    rw [e1, hx]
    show some (Cell.setSlot (vp_cell _ (n, .inl f)) _ _) = some (vp_cell _ (n, .inl _))
    rw [vp_cell_i, vp_cell_i, arrV_store]
    congr 2
    funext q
    by_cases hq : q = i.toNatClampNeg
    · subst hq; simp [updV, upd]
    · simp [updV, upd, hq]
  exact k ok H' _ a k' n' h1 h2 (jRep_set hR hc hat e3) (fun z => by rw [e2, hz z]; simp) (hS.put e2 e3 ((jws_D hR.1).2 o _ (jws_at hc))) hL
theorem e_aast {o n v : Nat} {f : Nat → Option Nat} {i : Int32} {fs : List Value} (hd : decode cc pc = .ok (.aastore, 1)) (hc : h[o]? = some (jR n f)) (hi : vp_in i n) (hq : h[v]? = some (jO 3 fs)) (k : jV cc own d X b (pc + 1) ls st (h.set o (jR n (va_up f i.toNatClampNeg (some v))))) : jV cc own d X b pc ls (.ref v :: .int i :: .ref o :: st) h := by
  obtain ⟨l, g, p, e, R, s, m, args, below, meth, c, Q⟩ := X
  intro ok H locs a k' n' h1 h2 hR hz hS hL
  have hlt : i.toNatClampNeg < n := Nat.not_le.mp fun q => hi (Or.inr q)
  have h0 : ¬ i < 0 := fun q => hi (Or.inl q)
  obtain ⟨r', hr', cellV, g1, g2, g3, -⟩ := hR.2 v _ (jws_at hq)
  have hcls := (ok.2.2.2.2.2.2.2.1.1 3 _ rfl).2
  obtain ⟨kA, comp, k1, k2, k3, -⟩ := (ok.2.2.2.2.2.2.2.1.2 2 _ rfl).2
  have hcomp : comp = g.2.2.1.1 3 := Option.some.inj (k3.symm.trans hcls.1)
  subst hcomp
  obtain ⟨kC, hkC, -⟩ := id hcls.2
  have hcell : H[jad g o]? = some (vp_cell g.2.2.2.2.2 (n, .inr (.inr (.inr (.inr (fun k => (f k).map (jad g))))))) := hR.2 o _ (jws_at hc)
  refine W.aast ok.1 ok.2.1 hcell (fun q h => by cases h) (fun h => by cases h) k1 k2 rfl hkC ⟨h0, by show _ < (arrV _ _ _).slots.size; rw [arrV_size]; exact hlt⟩ g1 (fun q h => by rw [g3] at h; cases h) (by rw [g2]; exact hkC) (by rw [g2]; exact va_assign hcls) rfl rfl hd fun H' e1 e2 e3 => ?_
  have hat : va_at g.2.2.1 vwCl (jad g o, jcell g (jR n (va_up f i.toNatClampNeg (some v)))) H' := by
    show H'[jad g o]? = some (vp_cell _ _)
    rw [e1]
    show some (Cell.setSlot (vp_cell _ (n, .inr (.inr (.inr (.inr (fun k => (f k).map (jad g))))))) _ _) = some (vp_cell _ (n, .inr (.inr (.inr (.inr _)))))
    rw [vp_cell_q, vp_cell_q, arrV_store]
    congr 2
    funext q
    by_cases hq : q = i.toNatClampNeg
    · subst hq; simp [updV, va_up, va_rf]
    · simp [updV, va_up, hq]
  exact k ok H' _ a k' n' h1 h2 (jRep_set hR hc hat e3) (fun z => by rw [e2, hz z]; simp) (hS.put e2 e3 ((jws_D hR.1).2 o _ (jws_at hc))) hL
end JE
end
