section
-- ===== PART A: goes FIRST, ahead of the names: the tables' words, and 'selects' of the private methods out of them =====
/-- a private method of a class that the tables say can be made, by its rows of tables_1 -/
def lw_okq (q : MethodName × Nat) : Prop := (q.1.cls ≠ "java/lang/invoke/MethodHandle" ∧ q.1.cls ≠ "java/lang/invoke/VarHandle") ∧ Cond.instantiable q.1.cls q.2 ∈ tables_1 ∧ Cond.privateMethod q.1 ∈ tables_1 ∧ Cond.instanceMethod q.1 ∈ tables_1
theorem lw_p0 : lw_okq (⟨"BellowsWords", "found", "(I)I"⟩, 8) := ⟨⟨by decide +kernel, by decide +kernel⟩, List.mem_of_getElem? (i := 13) (by decide +kernel), List.mem_of_getElem? (i := 227) (by decide +kernel), List.mem_of_getElem? (i := 228) (by decide +kernel)⟩
theorem lw_p1 : lw_okq (⟨"BellowsWords", "unfound", "(I)I"⟩, 8) := ⟨⟨by decide +kernel, by decide +kernel⟩, List.mem_of_getElem? (i := 13) (by decide +kernel), List.mem_of_getElem? (i := 239) (by decide +kernel), List.mem_of_getElem? (i := 240) (by decide +kernel)⟩
theorem lw_p2 : lw_okq (⟨"BellowsWords$Tape", "readLaw", "()Z"⟩, 5) := ⟨⟨by decide +kernel, by decide +kernel⟩, List.mem_of_getElem? (i := 40) (by decide +kernel), List.mem_of_getElem? (i := 299) (by decide +kernel), List.mem_of_getElem? (i := 300) (by decide +kernel)⟩
theorem lw_p3 : lw_okq (⟨"BellowsWords$Tape", "takeByte", "(I)Z"⟩, 5) := ⟨⟨by decide +kernel, by decide +kernel⟩, List.mem_of_getElem? (i := 40) (by decide +kernel), List.mem_of_getElem? (i := 303) (by decide +kernel), List.mem_of_getElem? (i := 304) (by decide +kernel)⟩
theorem lw_p4 : lw_okq (⟨"BellowsWords$Tape", "standsHere", "(I)Z"⟩, 5) := ⟨⟨by decide +kernel, by decide +kernel⟩, List.mem_of_getElem? (i := 40) (by decide +kernel), List.mem_of_getElem? (i := 307) (by decide +kernel), List.mem_of_getElem? (i := 308) (by decide +kernel)⟩
theorem lw_p5 : lw_okq (⟨"BellowsWords$Tape", "refuse", "(I)Z"⟩, 5) := ⟨⟨by decide +kernel, by decide +kernel⟩, List.mem_of_getElem? (i := 40) (by decide +kernel), List.mem_of_getElem? (i := 311) (by decide +kernel), List.mem_of_getElem? (i := 312) (by decide +kernel)⟩
theorem lw_p6 : lw_okq (⟨"BellowsWords$Tape", "takeNumber", "(II)I"⟩, 5) := ⟨⟨by decide +kernel, by decide +kernel⟩, List.mem_of_getElem? (i := 40) (by decide +kernel), List.mem_of_getElem? (i := 315) (by decide +kernel), List.mem_of_getElem? (i := 316) (by decide +kernel)⟩
theorem lw_p7 : lw_okq (⟨"BellowsWords$Tape", "readHearths", "()Z"⟩, 5) := ⟨⟨by decide +kernel, by decide +kernel⟩, List.mem_of_getElem? (i := 40) (by decide +kernel), List.mem_of_getElem? (i := 323) (by decide +kernel), List.mem_of_getElem? (i := 324) (by decide +kernel)⟩
theorem lw_p8 : lw_okq (⟨"BellowsWords$Tape", "readHearth", "(I)Z"⟩, 5) := ⟨⟨by decide +kernel, by decide +kernel⟩, List.mem_of_getElem? (i := 40) (by decide +kernel), List.mem_of_getElem? (i := 327) (by decide +kernel), List.mem_of_getElem? (i := 328) (by decide +kernel)⟩
theorem lw_p9 : lw_okq (⟨"BellowsWords$Tape", "readPairs", "()Z"⟩, 5) := ⟨⟨by decide +kernel, by decide +kernel⟩, List.mem_of_getElem? (i := 40) (by decide +kernel), List.mem_of_getElem? (i := 331) (by decide +kernel), List.mem_of_getElem? (i := 332) (by decide +kernel)⟩
theorem lw_p10 : lw_okq (⟨"BellowsWords$Tape", "readPair", "(I)Z"⟩, 5) := ⟨⟨by decide +kernel, by decide +kernel⟩, List.mem_of_getElem? (i := 40) (by decide +kernel), List.mem_of_getElem? (i := 338) (by decide +kernel), List.mem_of_getElem? (i := 339) (by decide +kernel)⟩
theorem lw_p11 : lw_okq (⟨"BellowsWords$House", "gatherBlown", "()V"⟩, 11) := ⟨⟨by decide +kernel, by decide +kernel⟩, List.mem_of_getElem? (i := 46) (by decide +kernel), List.mem_of_getElem? (i := 377) (by decide +kernel), List.mem_of_getElem? (i := 378) (by decide +kernel)⟩
theorem lw_p12 : lw_okq (⟨"BellowsWords$House", "blownBy", "(I)I"⟩, 11) := ⟨⟨by decide +kernel, by decide +kernel⟩, List.mem_of_getElem? (i := 46) (by decide +kernel), List.mem_of_getElem? (i := 381) (by decide +kernel), List.mem_of_getElem? (i := 382) (by decide +kernel)⟩
theorem lw_p13 : lw_okq (⟨"BellowsWords$House", "isWarmDay", "()Z"⟩, 11) := ⟨⟨by decide +kernel, by decide +kernel⟩, List.mem_of_getElem? (i := 46) (by decide +kernel), List.mem_of_getElem? (i := 390) (by decide +kernel), List.mem_of_getElem? (i := 391) (by decide +kernel)⟩
theorem lw_p14 : lw_okq (⟨"BellowsWords$House", "burnAll", "()V"⟩, 11) := ⟨⟨by decide +kernel, by decide +kernel⟩, List.mem_of_getElem? (i := 46) (by decide +kernel), List.mem_of_getElem? (i := 398) (by decide +kernel), List.mem_of_getElem? (i := 399) (by decide +kernel)⟩
theorem lw_p15 : lw_okq (⟨"BellowsWords$House", "burnt", "(III)I"⟩, 11) := ⟨⟨by decide +kernel, by decide +kernel⟩, List.mem_of_getElem? (i := 46) (by decide +kernel), List.mem_of_getElem? (i := 405) (by decide +kernel), List.mem_of_getElem? (i := 406) (by decide +kernel)⟩
def lw_privs_1 : List (MethodName × Nat) := [(⟨"BellowsWords", "found", "(I)I"⟩, 8), (⟨"BellowsWords", "unfound", "(I)I"⟩, 8), (⟨"BellowsWords$Tape", "readLaw", "()Z"⟩, 5), (⟨"BellowsWords$Tape", "takeByte", "(I)Z"⟩, 5), (⟨"BellowsWords$Tape", "standsHere", "(I)Z"⟩, 5), (⟨"BellowsWords$Tape", "refuse", "(I)Z"⟩, 5), (⟨"BellowsWords$Tape", "takeNumber", "(II)I"⟩, 5), (⟨"BellowsWords$Tape", "readHearths", "()Z"⟩, 5), (⟨"BellowsWords$Tape", "readHearth", "(I)Z"⟩, 5), (⟨"BellowsWords$Tape", "readPairs", "()Z"⟩, 5), (⟨"BellowsWords$Tape", "readPair", "(I)Z"⟩, 5), (⟨"BellowsWords$House", "gatherBlown", "()V"⟩, 11), (⟨"BellowsWords$House", "blownBy", "(I)I"⟩, 11), (⟨"BellowsWords$House", "isWarmDay", "()Z"⟩, 11), (⟨"BellowsWords$House", "burnAll", "()V"⟩, 11), (⟨"BellowsWords$House", "burnt", "(III)I"⟩, 11)]
theorem lw_r1 : ∀ q ∈ lw_privs_1, lw_okq q := List.forall_mem_cons.mpr ⟨lw_p0, List.forall_mem_cons.mpr ⟨lw_p1, List.forall_mem_cons.mpr ⟨lw_p2, List.forall_mem_cons.mpr ⟨lw_p3, List.forall_mem_cons.mpr ⟨lw_p4, List.forall_mem_cons.mpr ⟨lw_p5, List.forall_mem_cons.mpr ⟨lw_p6, List.forall_mem_cons.mpr ⟨lw_p7, List.forall_mem_cons.mpr ⟨lw_p8, List.forall_mem_cons.mpr ⟨lw_p9, List.forall_mem_cons.mpr ⟨lw_p10, List.forall_mem_cons.mpr ⟨lw_p11, List.forall_mem_cons.mpr ⟨lw_p12, List.forall_mem_cons.mpr ⟨lw_p13, List.forall_mem_cons.mpr ⟨lw_p14, List.forall_mem_cons.mpr ⟨lw_p15, fun _ h => absurd h List.not_mem_nil⟩⟩⟩⟩⟩⟩⟩⟩⟩⟩⟩⟩⟩⟩⟩⟩
theorem lw_p16 : lw_okq (⟨"BellowsWords", "isPair", "(I)Z"⟩, 8) := ⟨⟨by decide +kernel, by decide +kernel⟩, List.mem_of_getElem? (i := 13) (by decide +kernel), List.mem_of_getElem? (i := 417) (by decide +kernel), List.mem_of_getElem? (i := 418) (by decide +kernel)⟩
theorem lw_p17 : lw_okq (⟨"BellowsWords", "isHearth", "(I)Z"⟩, 8) := ⟨⟨by decide +kernel, by decide +kernel⟩, List.mem_of_getElem? (i := 13) (by decide +kernel), List.mem_of_getElem? (i := 429) (by decide +kernel), List.mem_of_getElem? (i := 430) (by decide +kernel)⟩
theorem lw_p18 : lw_okq (⟨"BellowsWords$Foreteller", "passDays", "(I)V"⟩, 3) := ⟨⟨by decide +kernel, by decide +kernel⟩, List.mem_of_getElem? (i := 158) (by decide +kernel), List.mem_of_getElem? (i := 476) (by decide +kernel), List.mem_of_getElem? (i := 477) (by decide +kernel)⟩
theorem lw_p19 : lw_okq (⟨"BellowsWords$Foreteller", "passWaiting", "(IIIII)V"⟩, 3) := ⟨⟨by decide +kernel, by decide +kernel⟩, List.mem_of_getElem? (i := 158) (by decide +kernel), List.mem_of_getElem? (i := 520) (by decide +kernel), List.mem_of_getElem? (i := 521) (by decide +kernel)⟩
theorem lw_p20 : lw_okq (⟨"BellowsWords$Foreteller", "lightsAll", "(LBellowsWords$House;II)Z"⟩, 3) := ⟨⟨by decide +kernel, by decide +kernel⟩, List.mem_of_getElem? (i := 158) (by decide +kernel), List.mem_of_getElem? (i := 538) (by decide +kernel), List.mem_of_getElem? (i := 539) (by decide +kernel)⟩
theorem lw_p21 : lw_okq (⟨"BellowsWords$Foreteller", "isRest", "(II)Z"⟩, 3) := ⟨⟨by decide +kernel, by decide +kernel⟩, List.mem_of_getElem? (i := 158) (by decide +kernel), List.mem_of_getElem? (i := 561) (by decide +kernel), List.mem_of_getElem? (i := 562) (by decide +kernel)⟩
theorem lw_p22 : lw_okq (⟨"BellowsWords$Foreteller", "suppose", "(III)V"⟩, 3) := ⟨⟨by decide +kernel, by decide +kernel⟩, List.mem_of_getElem? (i := 158) (by decide +kernel), List.mem_of_getElem? (i := 577) (by decide +kernel), List.mem_of_getElem? (i := 578) (by decide +kernel)⟩
theorem lw_p23 : lw_okq (⟨"BellowsWords$Foreteller", "isTold", "(I[III)Z"⟩, 3) := ⟨⟨by decide +kernel, by decide +kernel⟩, List.mem_of_getElem? (i := 158) (by decide +kernel), List.mem_of_getElem? (i := 581) (by decide +kernel), List.mem_of_getElem? (i := 582) (by decide +kernel)⟩
theorem lw_p24 : lw_okq (⟨"BellowsWords$Foreteller", "isKept", "(LBellowsWords$House;III)Z"⟩, 3) := ⟨⟨by decide +kernel, by decide +kernel⟩, List.mem_of_getElem? (i := 158) (by decide +kernel), List.mem_of_getElem? (i := 593) (by decide +kernel), List.mem_of_getElem? (i := 594) (by decide +kernel)⟩
theorem lw_p25 : lw_okq (⟨"BellowsWords$Asker", "give", "(ILBellowsWords$House;II)I"⟩, 2) := ⟨⟨by decide +kernel, by decide +kernel⟩, List.mem_of_getElem? (i := 176) (by decide +kernel), List.mem_of_getElem? (i := 658) (by decide +kernel), List.mem_of_getElem? (i := 659) (by decide +kernel)⟩
theorem lw_p26 : lw_okq (⟨"BellowsWords$Asker", "leave", "(I)V"⟩, 2) := ⟨⟨by decide +kernel, by decide +kernel⟩, List.mem_of_getElem? (i := 176) (by decide +kernel), List.mem_of_getElem? (i := 662) (by decide +kernel), List.mem_of_getElem? (i := 663) (by decide +kernel)⟩
theorem lw_p27 : lw_okq (⟨"BellowsWordsModel", "found", "(I)I"⟩, 26) := ⟨⟨by decide +kernel, by decide +kernel⟩, List.mem_of_getElem? (i := 683) (by decide +kernel), List.mem_of_getElem? (i := 781) (by decide +kernel), List.mem_of_getElem? (i := 782) (by decide +kernel)⟩
theorem lw_p28 : lw_okq (⟨"BellowsWordsModel", "well", "(I)I"⟩, 26) := ⟨⟨by decide +kernel, by decide +kernel⟩, List.mem_of_getElem? (i := 683) (by decide +kernel), List.mem_of_getElem? (i := 786) (by decide +kernel), List.mem_of_getElem? (i := 787) (by decide +kernel)⟩
theorem lw_p29 : lw_okq (⟨"BellowsWordsModel", "isMissing", "(I)Z"⟩, 26) := ⟨⟨by decide +kernel, by decide +kernel⟩, List.mem_of_getElem? (i := 683) (by decide +kernel), List.mem_of_getElem? (i := 794) (by decide +kernel), List.mem_of_getElem? (i := 795) (by decide +kernel)⟩
theorem lw_p30 : lw_okq (⟨"BellowsWordsModel", "isPart", "(III)Z"⟩, 26) := ⟨⟨by decide +kernel, by decide +kernel⟩, List.mem_of_getElem? (i := 683) (by decide +kernel), List.mem_of_getElem? (i := 805) (by decide +kernel), List.mem_of_getElem? (i := 806) (by decide +kernel)⟩
theorem lw_p31 : lw_okq (⟨"BellowsWordsModel", "advances", "()V"⟩, 26) := ⟨⟨by decide +kernel, by decide +kernel⟩, List.mem_of_getElem? (i := 683) (by decide +kernel), List.mem_of_getElem? (i := 822) (by decide +kernel), List.mem_of_getElem? (i := 823) (by decide +kernel)⟩
def lw_privs_2 : List (MethodName × Nat) := [(⟨"BellowsWords", "isPair", "(I)Z"⟩, 8), (⟨"BellowsWords", "isHearth", "(I)Z"⟩, 8), (⟨"BellowsWords$Foreteller", "passDays", "(I)V"⟩, 3), (⟨"BellowsWords$Foreteller", "passWaiting", "(IIIII)V"⟩, 3), (⟨"BellowsWords$Foreteller", "lightsAll", "(LBellowsWords$House;II)Z"⟩, 3), (⟨"BellowsWords$Foreteller", "isRest", "(II)Z"⟩, 3), (⟨"BellowsWords$Foreteller", "suppose", "(III)V"⟩, 3), (⟨"BellowsWords$Foreteller", "isTold", "(I[III)Z"⟩, 3), (⟨"BellowsWords$Foreteller", "isKept", "(LBellowsWords$House;III)Z"⟩, 3), (⟨"BellowsWords$Asker", "give", "(ILBellowsWords$House;II)I"⟩, 2), (⟨"BellowsWords$Asker", "leave", "(I)V"⟩, 2), (⟨"BellowsWordsModel", "found", "(I)I"⟩, 26), (⟨"BellowsWordsModel", "well", "(I)I"⟩, 26), (⟨"BellowsWordsModel", "isMissing", "(I)Z"⟩, 26), (⟨"BellowsWordsModel", "isPart", "(III)Z"⟩, 26), (⟨"BellowsWordsModel", "advances", "()V"⟩, 26)]
theorem lw_r2 : ∀ q ∈ lw_privs_2, lw_okq q := List.forall_mem_cons.mpr ⟨lw_p16, List.forall_mem_cons.mpr ⟨lw_p17, List.forall_mem_cons.mpr ⟨lw_p18, List.forall_mem_cons.mpr ⟨lw_p19, List.forall_mem_cons.mpr ⟨lw_p20, List.forall_mem_cons.mpr ⟨lw_p21, List.forall_mem_cons.mpr ⟨lw_p22, List.forall_mem_cons.mpr ⟨lw_p23, List.forall_mem_cons.mpr ⟨lw_p24, List.forall_mem_cons.mpr ⟨lw_p25, List.forall_mem_cons.mpr ⟨lw_p26, List.forall_mem_cons.mpr ⟨lw_p27, List.forall_mem_cons.mpr ⟨lw_p28, List.forall_mem_cons.mpr ⟨lw_p29, List.forall_mem_cons.mpr ⟨lw_p30, List.forall_mem_cons.mpr ⟨lw_p31, fun _ h => absurd h List.not_mem_nil⟩⟩⟩⟩⟩⟩⟩⟩⟩⟩⟩⟩⟩⟩⟩⟩
theorem lw_p32 : lw_okq (⟨"BellowsWordsModel", "byteAt", "(I)I"⟩, 26) := ⟨⟨by decide +kernel, by decide +kernel⟩, List.mem_of_getElem? (i := 683) (by decide +kernel), List.mem_of_getElem? (i := 826) (by decide +kernel), List.mem_of_getElem? (i := 827) (by decide +kernel)⟩
theorem lw_p33 : lw_okq (⟨"BellowsWordsModel", "takes", "(ZI)I"⟩, 26) := ⟨⟨by decide +kernel, by decide +kernel⟩, List.mem_of_getElem? (i := 683) (by decide +kernel), List.mem_of_getElem? (i := 830) (by decide +kernel), List.mem_of_getElem? (i := 831) (by decide +kernel)⟩
theorem lw_p34 : lw_okq (⟨"BellowsWordsModel", "isWell", "()Z"⟩, 26) := ⟨⟨by decide +kernel, by decide +kernel⟩, List.mem_of_getElem? (i := 683) (by decide +kernel), List.mem_of_getElem? (i := 834) (by decide +kernel), List.mem_of_getElem? (i := 835) (by decide +kernel)⟩
theorem lw_p35 : lw_okq (⟨"BellowsWordsModel", "figure", "(II)I"⟩, 26) := ⟨⟨by decide +kernel, by decide +kernel⟩, List.mem_of_getElem? (i := 683) (by decide +kernel), List.mem_of_getElem? (i := 838) (by decide +kernel), List.mem_of_getElem? (i := 839) (by decide +kernel)⟩
theorem lw_p36 : lw_okq (⟨"BellowsWordsModel", "follows", "(II)I"⟩, 26) := ⟨⟨by decide +kernel, by decide +kernel⟩, List.mem_of_getElem? (i := 683) (by decide +kernel), List.mem_of_getElem? (i := 842) (by decide +kernel), List.mem_of_getElem? (i := 843) (by decide +kernel)⟩
theorem lw_p37 : lw_okq (⟨"BellowsWordsModel", "readsHearth", "()V"⟩, 26) := ⟨⟨by decide +kernel, by decide +kernel⟩, List.mem_of_getElem? (i := 683) (by decide +kernel), List.mem_of_getElem? (i := 846) (by decide +kernel), List.mem_of_getElem? (i := 847) (by decide +kernel)⟩
theorem lw_p38 : lw_okq (⟨"BellowsWordsModel", "must", "(Z)V"⟩, 26) := ⟨⟨by decide +kernel, by decide +kernel⟩, List.mem_of_getElem? (i := 683) (by decide +kernel), List.mem_of_getElem? (i := 850) (by decide +kernel), List.mem_of_getElem? (i := 851) (by decide +kernel)⟩
theorem lw_p39 : lw_okq (⟨"BellowsWordsModel", "readsPair", "()V"⟩, 26) := ⟨⟨by decide +kernel, by decide +kernel⟩, List.mem_of_getElem? (i := 683) (by decide +kernel), List.mem_of_getElem? (i := 857) (by decide +kernel), List.mem_of_getElem? (i := 858) (by decide +kernel)⟩
theorem lw_p40 : lw_okq (⟨"BellowsWordsModel", "isHouse", "()Z"⟩, 26) := ⟨⟨by decide +kernel, by decide +kernel⟩, List.mem_of_getElem? (i := 683) (by decide +kernel), List.mem_of_getElem? (i := 873) (by decide +kernel), List.mem_of_getElem? (i := 874) (by decide +kernel)⟩
theorem lw_p41 : lw_okq (⟨"BellowsWordsModel", "notes", "()V"⟩, 26) := ⟨⟨by decide +kernel, by decide +kernel⟩, List.mem_of_getElem? (i := 683) (by decide +kernel), List.mem_of_getElem? (i := 878) (by decide +kernel), List.mem_of_getElem? (i := 879) (by decide +kernel)⟩
theorem lw_p42 : lw_okq (⟨"BellowsWordsModel", "passes", "([I)V"⟩, 26) := ⟨⟨by decide +kernel, by decide +kernel⟩, List.mem_of_getElem? (i := 683) (by decide +kernel), List.mem_of_getElem? (i := 882) (by decide +kernel), List.mem_of_getElem? (i := 883) (by decide +kernel)⟩
theorem lw_p43 : lw_okq (⟨"BellowsWordsModel", "burns", "([II)V"⟩, 26) := ⟨⟨by decide +kernel, by decide +kernel⟩, List.mem_of_getElem? (i := 683) (by decide +kernel), List.mem_of_getElem? (i := 901) (by decide +kernel), List.mem_of_getElem? (i := 902) (by decide +kernel)⟩
theorem lw_p44 : lw_okq (⟨"BellowsWordsModel", "isHot", "([II)Z"⟩, 26) := ⟨⟨by decide +kernel, by decide +kernel⟩, List.mem_of_getElem? (i := 683) (by decide +kernel), List.mem_of_getElem? (i := 905) (by decide +kernel), List.mem_of_getElem? (i := 906) (by decide +kernel)⟩
theorem lw_p45 : lw_okq (⟨"BellowsWordsModel", "isPair", "(I)Z"⟩, 26) := ⟨⟨by decide +kernel, by decide +kernel⟩, List.mem_of_getElem? (i := 683) (by decide +kernel), List.mem_of_getElem? (i := 916) (by decide +kernel), List.mem_of_getElem? (i := 917) (by decide +kernel)⟩
theorem lw_p46 : lw_okq (⟨"BellowsWordsModel", "isHearth", "(I)Z"⟩, 26) := ⟨⟨by decide +kernel, by decide +kernel⟩, List.mem_of_getElem? (i := 683) (by decide +kernel), List.mem_of_getElem? (i := 927) (by decide +kernel), List.mem_of_getElem? (i := 928) (by decide +kernel)⟩
theorem lw_p47 : lw_okq (⟨"BellowsWordsModel", "pairsAt", "(I)I"⟩, 26) := ⟨⟨by decide +kernel, by decide +kernel⟩, List.mem_of_getElem? (i := 683) (by decide +kernel), List.mem_of_getElem? (i := 951) (by decide +kernel), List.mem_of_getElem? (i := 952) (by decide +kernel)⟩
def lw_privs_3 : List (MethodName × Nat) := [(⟨"BellowsWordsModel", "byteAt", "(I)I"⟩, 26), (⟨"BellowsWordsModel", "takes", "(ZI)I"⟩, 26), (⟨"BellowsWordsModel", "isWell", "()Z"⟩, 26), (⟨"BellowsWordsModel", "figure", "(II)I"⟩, 26), (⟨"BellowsWordsModel", "follows", "(II)I"⟩, 26), (⟨"BellowsWordsModel", "readsHearth", "()V"⟩, 26), (⟨"BellowsWordsModel", "must", "(Z)V"⟩, 26), (⟨"BellowsWordsModel", "readsPair", "()V"⟩, 26), (⟨"BellowsWordsModel", "isHouse", "()Z"⟩, 26), (⟨"BellowsWordsModel", "notes", "()V"⟩, 26), (⟨"BellowsWordsModel", "passes", "([I)V"⟩, 26), (⟨"BellowsWordsModel", "burns", "([II)V"⟩, 26), (⟨"BellowsWordsModel", "isHot", "([II)Z"⟩, 26), (⟨"BellowsWordsModel", "isPair", "(I)Z"⟩, 26), (⟨"BellowsWordsModel", "isHearth", "(I)Z"⟩, 26), (⟨"BellowsWordsModel", "pairsAt", "(I)I"⟩, 26)]
theorem lw_r3 : ∀ q ∈ lw_privs_3, lw_okq q := List.forall_mem_cons.mpr ⟨lw_p32, List.forall_mem_cons.mpr ⟨lw_p33, List.forall_mem_cons.mpr ⟨lw_p34, List.forall_mem_cons.mpr ⟨lw_p35, List.forall_mem_cons.mpr ⟨lw_p36, List.forall_mem_cons.mpr ⟨lw_p37, List.forall_mem_cons.mpr ⟨lw_p38, List.forall_mem_cons.mpr ⟨lw_p39, List.forall_mem_cons.mpr ⟨lw_p40, List.forall_mem_cons.mpr ⟨lw_p41, List.forall_mem_cons.mpr ⟨lw_p42, List.forall_mem_cons.mpr ⟨lw_p43, List.forall_mem_cons.mpr ⟨lw_p44, List.forall_mem_cons.mpr ⟨lw_p45, List.forall_mem_cons.mpr ⟨lw_p46, List.forall_mem_cons.mpr ⟨lw_p47, fun _ h => absurd h List.not_mem_nil⟩⟩⟩⟩⟩⟩⟩⟩⟩⟩⟩⟩⟩⟩⟩⟩
theorem lw_p48 : lw_okq (⟨"BellowsWordsModel", "blownInto", "(I)I"⟩, 26) := ⟨⟨by decide +kernel, by decide +kernel⟩, List.mem_of_getElem? (i := 683) (by decide +kernel), List.mem_of_getElem? (i := 955) (by decide +kernel), List.mem_of_getElem? (i := 956) (by decide +kernel)⟩
theorem lw_p49 : lw_okq (⟨"BellowsWordsModel", "goesOn", "(I)V"⟩, 26) := ⟨⟨by decide +kernel, by decide +kernel⟩, List.mem_of_getElem? (i := 683) (by decide +kernel), List.mem_of_getElem? (i := 963) (by decide +kernel), List.mem_of_getElem? (i := 964) (by decide +kernel)⟩
theorem lw_p50 : lw_okq (⟨"BellowsWordsModel", "waits", "(IIIII)V"⟩, 26) := ⟨⟨by decide +kernel, by decide +kernel⟩, List.mem_of_getElem? (i := 683) (by decide +kernel), List.mem_of_getElem? (i := 1001) (by decide +kernel), List.mem_of_getElem? (i := 1002) (by decide +kernel)⟩
theorem lw_p51 : lw_okq (⟨"BellowsWordsModel", "isRest", "(II)Z"⟩, 26) := ⟨⟨by decide +kernel, by decide +kernel⟩, List.mem_of_getElem? (i := 683) (by decide +kernel), List.mem_of_getElem? (i := 1005) (by decide +kernel), List.mem_of_getElem? (i := 1006) (by decide +kernel)⟩
theorem lw_p52 : lw_okq (⟨"BellowsWordsModel", "keepsSo", "(IIIII)Z"⟩, 26) := ⟨⟨by decide +kernel, by decide +kernel⟩, List.mem_of_getElem? (i := 683) (by decide +kernel), List.mem_of_getElem? (i := 1013) (by decide +kernel), List.mem_of_getElem? (i := 1014) (by decide +kernel)⟩
theorem lw_p53 : lw_okq (⟨"BellowsWordsModel", "kindIn", "(I)I"⟩, 26) := ⟨⟨by decide +kernel, by decide +kernel⟩, List.mem_of_getElem? (i := 683) (by decide +kernel), List.mem_of_getElem? (i := 1042) (by decide +kernel), List.mem_of_getElem? (i := 1043) (by decide +kernel)⟩
theorem lw_p54 : lw_okq (⟨"BellowsWordsModel", "tinSize", "(I)I"⟩, 26) := ⟨⟨by decide +kernel, by decide +kernel⟩, List.mem_of_getElem? (i := 683) (by decide +kernel), List.mem_of_getElem? (i := 1054) (by decide +kernel), List.mem_of_getElem? (i := 1055) (by decide +kernel)⟩
theorem lw_p55 : lw_okq (⟨"BellowsWordsModel", "begins", "(I)V"⟩, 26) := ⟨⟨by decide +kernel, by decide +kernel⟩, List.mem_of_getElem? (i := 683) (by decide +kernel), List.mem_of_getElem? (i := 1058) (by decide +kernel), List.mem_of_getElem? (i := 1059) (by decide +kernel)⟩
theorem lw_p56 : lw_okq (⟨"BellowsWordsModel", "leatherSize", "(I)I"⟩, 26) := ⟨⟨by decide +kernel, by decide +kernel⟩, List.mem_of_getElem? (i := 683) (by decide +kernel), List.mem_of_getElem? (i := 1062) (by decide +kernel), List.mem_of_getElem? (i := 1063) (by decide +kernel)⟩
theorem lw_p57 : lw_okq (⟨"BellowsWordsModel", "leatherMark", "(I)I"⟩, 26) := ⟨⟨by decide +kernel, by decide +kernel⟩, List.mem_of_getElem? (i := 683) (by decide +kernel), List.mem_of_getElem? (i := 1066) (by decide +kernel), List.mem_of_getElem? (i := 1067) (by decide +kernel)⟩
theorem lw_p58 : lw_okq (⟨"BellowsWordsModel", "tinMark", "(I)I"⟩, 26) := ⟨⟨by decide +kernel, by decide +kernel⟩, List.mem_of_getElem? (i := 683) (by decide +kernel), List.mem_of_getElem? (i := 1070) (by decide +kernel), List.mem_of_getElem? (i := 1071) (by decide +kernel)⟩
def lw_privs_4 : List (MethodName × Nat) := [(⟨"BellowsWordsModel", "blownInto", "(I)I"⟩, 26), (⟨"BellowsWordsModel", "goesOn", "(I)V"⟩, 26), (⟨"BellowsWordsModel", "waits", "(IIIII)V"⟩, 26), (⟨"BellowsWordsModel", "isRest", "(II)Z"⟩, 26), (⟨"BellowsWordsModel", "keepsSo", "(IIIII)Z"⟩, 26), (⟨"BellowsWordsModel", "kindIn", "(I)I"⟩, 26), (⟨"BellowsWordsModel", "tinSize", "(I)I"⟩, 26), (⟨"BellowsWordsModel", "begins", "(I)V"⟩, 26), (⟨"BellowsWordsModel", "leatherSize", "(I)I"⟩, 26), (⟨"BellowsWordsModel", "leatherMark", "(I)I"⟩, 26), (⟨"BellowsWordsModel", "tinMark", "(I)I"⟩, 26)]
theorem lw_r4 : ∀ q ∈ lw_privs_4, lw_okq q := List.forall_mem_cons.mpr ⟨lw_p48, List.forall_mem_cons.mpr ⟨lw_p49, List.forall_mem_cons.mpr ⟨lw_p50, List.forall_mem_cons.mpr ⟨lw_p51, List.forall_mem_cons.mpr ⟨lw_p52, List.forall_mem_cons.mpr ⟨lw_p53, List.forall_mem_cons.mpr ⟨lw_p54, List.forall_mem_cons.mpr ⟨lw_p55, List.forall_mem_cons.mpr ⟨lw_p56, List.forall_mem_cons.mpr ⟨lw_p57, List.forall_mem_cons.mpr ⟨lw_p58, fun _ h => absurd h List.not_mem_nil⟩⟩⟩⟩⟩⟩⟩⟩⟩⟩⟩
def lw_privs : List (MethodName × Nat) := lw_privs_1 ++ (lw_privs_2 ++ (lw_privs_3 ++ (lw_privs_4)))
def lw_tbl : List Cond := k2_sels lw_privs ++ tables_1
theorem lw_privs_ok : ∀ q ∈ lw_privs, lw_okq q := by
  show ∀ q ∈ lw_privs_1 ++ (lw_privs_2 ++ (lw_privs_3 ++ (lw_privs_4))), lw_okq q
  exact List.forall_mem_append.mpr ⟨lw_r1, List.forall_mem_append.mpr ⟨lw_r2, List.forall_mem_append.mpr ⟨lw_r3, lw_r4⟩⟩⟩
end
section
def RX0 : String := "BellowsWords$Acts"
def TX0 : u_T := fun k => match k with
  | 0 => ("BellowsWords$Acts", "before", "[LBellowsWords$House;", true)
  | 1 => ("BellowsWords$Acts", "next", "I", false)
  | _ => ("BellowsWords$Acts", "kept", "I", false)
def tyX0 : Nat → FieldType := fun k => match k with
  | 0 => .array (.object "BellowsWords$House")
  | 1 => .int
  | _ => .int
abbrev wsX00 : List Cond := u_ws RX0 TX0 3
theorem nmX0 : ∀ a, a < 3 → ∀ b, b < 3 → a ≠ b → (TX0 a).2.1 ≠ (TX0 b).2.1 := by decide +kernel
theorem tyX0_ok : ∀ k, k < 3 → parseFieldDescriptor (TX0 k).2.2.1 = some (tyX0 k) := by decide +kernel
abbrev cX0_init : ByteArray := prog_2_method_1_code
def yX0_init : MethodName := ⟨RX0, "<init>", "()V"⟩
abbrev cX0_keep : ByteArray := prog_2_method_2_code
def yX0_keep : MethodName := ⟨RX0, "keep", "(LBellowsWords$House;)V"⟩
abbrev cX0_bringBack : ByteArray := prog_2_method_3_code
def yX0_bringBack : MethodName := ⟨RX0, "bringBack", "(LBellowsWords$House;)V"⟩
abbrev cX0_forgetAll : ByteArray := prog_2_method_4_code
def yX0_forgetAll : MethodName := ⟨RX0, "forgetAll", "()V"⟩
def RX1 : String := "BellowsWords$Asker"
def TX1 : u_T := fun k => match k with
  | 0 => ("BellowsWords$Asker", "numbers", "[I", true)
  | _ => ("BellowsWords$Asker", "traced", "I", false)
def tyX1 : Nat → FieldType := fun k => match k with
  | 0 => .array .int
  | _ => .int
abbrev wsX10 : List Cond := u_ws RX1 TX1 2
theorem nmX1 : ∀ a, a < 2 → ∀ b, b < 2 → a ≠ b → (TX1 a).2.1 ≠ (TX1 b).2.1 := by decide +kernel
theorem tyX1_ok : ∀ k, k < 2 → parseFieldDescriptor (TX1 k).2.2.1 = some (tyX1 k) := by decide +kernel
abbrev cX1_init : ByteArray := prog_3_method_1_code
def yX1_init : MethodName := ⟨RX1, "<init>", "()V"⟩
abbrev cX1_answer : ByteArray := prog_3_method_2_code
def yX1_answer : MethodName := ⟨RX1, "answer", "(LBellowsWords$House;II)I"⟩
abbrev cX1_give : ByteArray := prog_3_method_3_code
def yX1_give : MethodName := ⟨RX1, "give", "(ILBellowsWords$House;II)I"⟩
abbrev cX1_leave : ByteArray := prog_3_method_4_code
def yX1_leave : MethodName := ⟨RX1, "leave", "(I)V"⟩
def RX2 : String := "BellowsWords$Foreteller"
def TX2 : u_T := fun k => match k with
  | 0 => ("BellowsWords$Foreteller", "trial", "LBellowsWords$House;", true)
  | 1 => ("BellowsWords$Foreteller", "oneGets", "[I", true)
  | _ => ("BellowsWords$Foreteller", "otherGets", "[I", true)
def tyX2 : Nat → FieldType := fun k => match k with
  | 0 => .object "BellowsWords$House"
  | 1 => .array .int
  | _ => .array .int
abbrev wsX20 : List Cond := u_ws RX2 TX2 3
theorem nmX2 : ∀ a, a < 3 → ∀ b, b < 3 → a ≠ b → (TX2 a).2.1 ≠ (TX2 b).2.1 := by decide +kernel
theorem tyX2_ok : ∀ k, k < 3 → parseFieldDescriptor (TX2 k).2.2.1 = some (tyX2 k) := by decide +kernel
abbrev cX2_init : ByteArray := prog_4_method_1_code
def yX2_init : MethodName := ⟨RX2, "<init>", "()V"⟩
abbrev cX2_behind : ByteArray := prog_4_method_2_code
def yX2_behind : MethodName := ⟨RX2, "behind", "(LBellowsWords$House;I)LBellowsWords$House;"⟩
abbrev cX2_firstEmpty : ByteArray := prog_4_method_3_code
def yX2_firstEmpty : MethodName := ⟨RX2, "firstEmpty", "(LBellowsWords$House;I)I"⟩
abbrev cX2_firstCold : ByteArray := prog_4_method_4_code
def yX2_firstCold : MethodName := ⟨RX2, "firstCold", "(LBellowsWords$House;I)I"⟩
abbrev cX2_bestDay : ByteArray := prog_4_method_5_code
def yX2_bestDay : MethodName := ⟨RX2, "bestDay", "(LBellowsWords$House;III)I"⟩
abbrev cX2_fewestDrawn : ByteArray := prog_4_method_6_code
def yX2_fewestDrawn : MethodName := ⟨RX2, "fewestDrawn", "(LBellowsWords$House;I)I"⟩
abbrev cX2_weighWaits : ByteArray := prog_4_method_7_code
def yX2_weighWaits : MethodName := ⟨RX2, "weighWaits", "(LBellowsWords$House;III)V"⟩
abbrev cX2_restingWaits : ByteArray := prog_4_method_8_code
def yX2_restingWaits : MethodName := ⟨RX2, "restingWaits", "(I)I"⟩
abbrev cX2_fitting : ByteArray := prog_4_method_9_code
def yX2_fitting : MethodName := ⟨RX2, "fitting", "(LBellowsWords$House;I[IIII)I"⟩
abbrev cX2_keptOf : ByteArray := prog_4_method_10_code
def yX2_keptOf : MethodName := ⟨RX2, "keptOf", "(LBellowsWords$House;III)I"⟩
abbrev cX2_behindSummer : ByteArray := prog_4_method_11_code
def yX2_behindSummer : MethodName := ⟨RX2, "behindSummer", "(LBellowsWords$House;II)LBellowsWords$House;"⟩
abbrev cX2_passDays : ByteArray := prog_4_method_12_code
def yX2_passDays : MethodName := ⟨RX2, "passDays", "(I)V"⟩
abbrev cX2_passWaiting : ByteArray := prog_4_method_13_code
def yX2_passWaiting : MethodName := ⟨RX2, "passWaiting", "(IIIII)V"⟩
abbrev cX2_lightsAll : ByteArray := prog_4_method_14_code
def yX2_lightsAll : MethodName := ⟨RX2, "lightsAll", "(LBellowsWords$House;II)Z"⟩
abbrev cX2_isRest : ByteArray := prog_4_method_15_code
def yX2_isRest : MethodName := ⟨RX2, "isRest", "(II)Z"⟩
abbrev cX2_suppose : ByteArray := prog_4_method_16_code
def yX2_suppose : MethodName := ⟨RX2, "suppose", "(III)V"⟩
abbrev cX2_isTold : ByteArray := prog_4_method_17_code
def yX2_isTold : MethodName := ⟨RX2, "isTold", "(I[III)Z"⟩
abbrev cX2_isKept : ByteArray := prog_4_method_18_code
def yX2_isKept : MethodName := ⟨RX2, "isKept", "(LBellowsWords$House;III)Z"⟩
def RX3 : String := "BellowsWords$House"
def TX3 : u_T := fun k => match k with
  | 0 => ("BellowsWords$House", "day", "I", false)
  | 1 => ("BellowsWords$House", "warm", "I", false)
  | 2 => ("BellowsWords$House", "takes", "I", false)
  | 3 => ("BellowsWords$House", "hearths", "I", false)
  | 4 => ("BellowsWords$House", "pairs", "I", false)
  | 5 => ("BellowsWords$House", "fire", "[I", true)
  | 6 => ("BellowsWords$House", "kinds", "[I", true)
  | 7 => ("BellowsWords$House", "breath", "[I", true)
  | 8 => ("BellowsWords$House", "place", "[I", true)
  | 9 => ("BellowsWords$House", "pegIn", "[I", true)
  | _ => ("BellowsWords$House", "blown", "[I", true)
def tyX3 : Nat → FieldType := fun k => match k with
  | 0 => .int
  | 1 => .int
  | 2 => .int
  | 3 => .int
  | 4 => .int
  | 5 => .array .int
  | 6 => .array .int
  | 7 => .array .int
  | 8 => .array .int
  | 9 => .array .int
  | _ => .array .int
abbrev wsX30 : List Cond := u_ws RX3 TX3 11
theorem nmX3 : ∀ a, a < 11 → ∀ b, b < 11 → a ≠ b → (TX3 a).2.1 ≠ (TX3 b).2.1 := by decide +kernel
theorem tyX3_ok : ∀ k, k < 11 → parseFieldDescriptor (TX3 k).2.2.1 = some (tyX3 k) := by decide +kernel
abbrev cX3_init : ByteArray := prog_5_method_1_code
def yX3_init : MethodName := ⟨RX3, "<init>", "()V"⟩
abbrev cX3_stands : ByteArray := prog_5_method_2_code
def yX3_stands : MethodName := ⟨RX3, "stands", "()Z"⟩
abbrev cX3_become : ByteArray := prog_5_method_3_code
def yX3_become : MethodName := ⟨RX3, "become", "(LBellowsWords$House;)V"⟩
abbrev cX3_isLit : ByteArray := prog_5_method_4_code
def yX3_isLit : MethodName := ⟨RX3, "isLit", "(I)Z"⟩
abbrev cX3_litBits : ByteArray := prog_5_method_5_code
def yX3_litBits : MethodName := ⟨RX3, "litBits", "()I"⟩
abbrev cX3_isAllLit : ByteArray := prog_5_method_6_code
def yX3_isAllLit : MethodName := ⟨RX3, "isAllLit", "()Z"⟩
abbrev cX3_pegBits : ByteArray := prog_5_method_7_code
def yX3_pegBits : MethodName := ⟨RX3, "pegBits", "()I"⟩
abbrev cX3_pairBitsAt : ByteArray := prog_5_method_8_code
def yX3_pairBitsAt : MethodName := ⟨RX3, "pairBitsAt", "(I)I"⟩
abbrev cX3_fireInAll : ByteArray := prog_5_method_9_code
def yX3_fireInAll : MethodName := ⟨RX3, "fireInAll", "()I"⟩
abbrev cX3_breathInAll : ByteArray := prog_5_method_10_code
def yX3_breathInAll : MethodName := ⟨RX3, "breathInAll", "()I"⟩
abbrev cX3_firstWithoutBreath : ByteArray := prog_5_method_11_code
def yX3_firstWithoutBreath : MethodName := ⟨RX3, "firstWithoutBreath", "()I"⟩
abbrev cX3_blownInto : ByteArray := prog_5_method_12_code
def yX3_blownInto : MethodName := ⟨RX3, "blownInto", "(I)I"⟩
abbrev cX3_changeOf : ByteArray := prog_5_method_13_code
def yX3_changeOf : MethodName := ⟨RX3, "changeOf", "(I)I"⟩
abbrev cX3_passDay : ByteArray := prog_5_method_14_code
def yX3_passDay : MethodName := ⟨RX3, "passDay", "()V"⟩
abbrev cX3_isWarmDay : ByteArray := prog_5_method_15_code
def yX3_isWarmDay : MethodName := ⟨RX3, "isWarmDay", "()Z"⟩
abbrev cX3_blownBy : ByteArray := prog_5_method_16_code
def yX3_blownBy : MethodName := ⟨RX3, "blownBy", "(I)I"⟩
abbrev cX3_gatherBlown : ByteArray := prog_5_method_17_code
def yX3_gatherBlown : MethodName := ⟨RX3, "gatherBlown", "()V"⟩
abbrev cX3_burnAll : ByteArray := prog_5_method_18_code
def yX3_burnAll : MethodName := ⟨RX3, "burnAll", "()V"⟩
abbrev cX3_burnt : ByteArray := prog_5_method_19_code
def yX3_burnt : MethodName := ⟨RX3, "burnt", "(III)I"⟩
def RX4 : String := "BellowsWords$Rows"
def TX4 : u_T := fun k => match k with
  | 0 => ("BellowsWords$Rows", "lanes", "[I", true)
  | 1 => ("BellowsWords$Rows", "lengths", "[I", true)
  | _ => ("BellowsWords$Rows", "items", "[I", true)
def tyX4 : Nat → FieldType := fun k => match k with
  | 0 => .array .int
  | 1 => .array .int
  | _ => .array .int
abbrev wsX40 : List Cond := u_ws RX4 TX4 3
theorem nmX4 : ∀ a, a < 3 → ∀ b, b < 3 → a ≠ b → (TX4 a).2.1 ≠ (TX4 b).2.1 := by decide +kernel
theorem tyX4_ok : ∀ k, k < 3 → parseFieldDescriptor (TX4 k).2.2.1 = some (tyX4 k) := by decide +kernel
abbrev cX4_init : ByteArray := prog_6_method_1_code
def yX4_init : MethodName := ⟨RX4, "<init>", "()V"⟩
abbrev cX4_start : ByteArray := prog_6_method_2_code
def yX4_start : MethodName := ⟨RX4, "start", "(I)I"⟩
abbrev cX4_isMissing : ByteArray := prog_6_method_3_code
def yX4_isMissing : MethodName := ⟨RX4, "isMissing", "(I)Z"⟩
abbrev cX4_hasPlaces : ByteArray := prog_6_method_4_code
def yX4_hasPlaces : MethodName := ⟨RX4, "hasPlaces", "(III)Z"⟩
abbrev cX4_make : ByteArray := prog_6_method_5_code
def yX4_make : MethodName := ⟨RX4, "make", "(III)V"⟩
abbrev cX4_put : ByteArray := prog_6_method_6_code
def yX4_put : MethodName := ⟨RX4, "put", "(III)I"⟩
abbrev cX4_forget : ByteArray := prog_6_method_7_code
def yX4_forget : MethodName := ⟨RX4, "forget", "(I)I"⟩
abbrev cX4_present : ByteArray := prog_6_method_8_code
def yX4_present : MethodName := ⟨RX4, "present", "()I"⟩
abbrev cX4_cutToLane : ByteArray := prog_6_method_9_code
def yX4_cutToLane : MethodName := ⟨RX4, "cutToLane", "(II)I"⟩
def RX5 : String := "BellowsWords$Tape"
def TX5 : u_T := fun k => match k with
  | 0 => ("BellowsWords$Tape", "draft", "LBellowsWords$House;", true)
  | 1 => ("BellowsWords$Tape", "bytes", "[I", true)
  | 2 => ("BellowsWords$Tape", "length", "I", false)
  | 3 => ("BellowsWords$Tape", "at", "I", false)
  | _ => ("BellowsWords$Tape", "latestFault", "I", false)
def tyX5 : Nat → FieldType := fun k => match k with
  | 0 => .object "BellowsWords$House"
  | 1 => .array .int
  | 2 => .int
  | 3 => .int
  | _ => .int
abbrev wsX50 : List Cond := u_ws RX5 TX5 5
theorem nmX5 : ∀ a, a < 5 → ∀ b, b < 5 → a ≠ b → (TX5 a).2.1 ≠ (TX5 b).2.1 := by decide +kernel
theorem tyX5_ok : ∀ k, k < 5 → parseFieldDescriptor (TX5 k).2.2.1 = some (tyX5 k) := by decide +kernel
abbrev cX5_init : ByteArray := prog_7_method_1_code
def yX5_init : MethodName := ⟨RX5, "<init>", "()V"⟩
abbrev cX5_isFull : ByteArray := prog_7_method_2_code
def yX5_isFull : MethodName := ⟨RX5, "isFull", "()Z"⟩
abbrev cX5_put : ByteArray := prog_7_method_3_code
def yX5_put : MethodName := ⟨RX5, "put", "(I)I"⟩
abbrev cX5_readWhole : ByteArray := prog_7_method_4_code
def yX5_readWhole : MethodName := ⟨RX5, "readWhole", "()Z"⟩
abbrev cX5_readLaw : ByteArray := prog_7_method_5_code
def yX5_readLaw : MethodName := ⟨RX5, "readLaw", "()Z"⟩
abbrev cX5_readHearths : ByteArray := prog_7_method_6_code
def yX5_readHearths : MethodName := ⟨RX5, "readHearths", "()Z"⟩
abbrev cX5_readHearth : ByteArray := prog_7_method_7_code
def yX5_readHearth : MethodName := ⟨RX5, "readHearth", "(I)Z"⟩
abbrev cX5_readPairs : ByteArray := prog_7_method_8_code
def yX5_readPairs : MethodName := ⟨RX5, "readPairs", "()Z"⟩
abbrev cX5_readPair : ByteArray := prog_7_method_9_code
def yX5_readPair : MethodName := ⟨RX5, "readPair", "(I)Z"⟩
abbrev cX5_standsHere : ByteArray := prog_7_method_10_code
def yX5_standsHere : MethodName := ⟨RX5, "standsHere", "(I)Z"⟩
abbrev cX5_takeByte : ByteArray := prog_7_method_11_code
def yX5_takeByte : MethodName := ⟨RX5, "takeByte", "(I)Z"⟩
abbrev cX5_takeNumber : ByteArray := prog_7_method_12_code
def yX5_takeNumber : MethodName := ⟨RX5, "takeNumber", "(II)I"⟩
abbrev cX5_refuse : ByteArray := prog_7_method_13_code
def yX5_refuse : MethodName := ⟨RX5, "refuse", "(I)Z"⟩
abbrev cX5_isFigure : ByteArray := prog_7_method_14_code
def yX5_isFigure : MethodName := ⟨RX5, "isFigure", "(I)Z"⟩
abbrev cX5_kindOfLetter : ByteArray := prog_7_method_15_code
def yX5_kindOfLetter : MethodName := ⟨RX5, "kindOfLetter", "(I)I"⟩
def RX6 : String := "BellowsWords"
def TX6 : u_T := fun k => match k with
  | 0 => ("BellowsWords", "rows", "LBellowsWords$Rows;", true)
  | 1 => ("BellowsWords", "tape", "LBellowsWords$Tape;", true)
  | 2 => ("BellowsWords", "now", "LBellowsWords$House;", true)
  | 3 => ("BellowsWords", "acts", "LBellowsWords$Acts;", true)
  | 4 => ("BellowsWords", "images", "[LBellowsWords$House;", true)
  | 5 => ("BellowsWords", "foreteller", "LBellowsWords$Foreteller;", true)
  | 6 => ("BellowsWords", "asker", "LBellowsWords$Asker;", true)
  | _ => ("BellowsWords", "finding", "I", false)
def tyX6 : Nat → FieldType := fun k => match k with
  | 0 => .object "BellowsWords$Rows"
  | 1 => .object "BellowsWords$Tape"
  | 2 => .object "BellowsWords$House"
  | 3 => .object "BellowsWords$Acts"
  | 4 => .array (.object "BellowsWords$House")
  | 5 => .object "BellowsWords$Foreteller"
  | 6 => .object "BellowsWords$Asker"
  | _ => .int
abbrev wsX60 : List Cond := u_ws RX6 TX6 8
theorem nmX6 : ∀ a, a < 8 → ∀ b, b < 8 → a ≠ b → (TX6 a).2.1 ≠ (TX6 b).2.1 := by decide +kernel
theorem tyX6_ok : ∀ k, k < 8 → parseFieldDescriptor (TX6 k).2.2.1 = some (tyX6 k) := by decide +kernel
abbrev cX6_init : ByteArray := prog_1_method_1_code
def yX6_init : MethodName := ⟨RX6, "<init>", "()V"⟩
abbrev cX6_row : ByteArray := prog_1_method_2_code
def yX6_row : MethodName := ⟨RX6, "row", "(III)I"⟩
abbrev cX6_set : ByteArray := prog_1_method_3_code
def yX6_set : MethodName := ⟨RX6, "set", "(III)I"⟩
abbrev cX6_copy : ByteArray := prog_1_method_4_code
def yX6_copy : MethodName := ⟨RX6, "copy", "(IIIII)I"⟩
abbrev cX6_drop : ByteArray := prog_1_method_5_code
def yX6_drop : MethodName := ⟨RX6, "drop", "(I)I"⟩
abbrev cX6_feed : ByteArray := prog_1_method_6_code
def yX6_feed : MethodName := ⟨RX6, "feed", "(I)I"⟩
abbrev cX6_house : ByteArray := prog_1_method_7_code
def yX6_house : MethodName := ⟨RX6, "house", "()I"⟩
abbrev cX6_fault : ByteArray := prog_1_method_8_code
def yX6_fault : MethodName := ⟨RX6, "fault", "()I"⟩
abbrev cX6_days : ByteArray := prog_1_method_9_code
def yX6_days : MethodName := ⟨RX6, "days", "(I)I"⟩
abbrev cX6_peg : ByteArray := prog_1_method_10_code
def yX6_peg : MethodName := ⟨RX6, "peg", "(II)I"⟩
abbrev cX6_move : ByteArray := prog_1_method_11_code
def yX6_move : MethodName := ⟨RX6, "move", "(II)I"⟩
abbrev cX6_light : ByteArray := prog_1_method_12_code
def yX6_light : MethodName := ⟨RX6, "light", "(II)I"⟩
abbrev cX6_weather : ByteArray := prog_1_method_13_code
def yX6_weather : MethodName := ⟨RX6, "weather", "(I)I"⟩
abbrev cX6_undo : ByteArray := prog_1_method_14_code
def yX6_undo : MethodName := ⟨RX6, "undo", "()I"⟩
abbrev cX6_pair : ByteArray := prog_1_method_15_code
def yX6_pair : MethodName := ⟨RX6, "pair", "(II)I"⟩
abbrev cX6_hearth : ByteArray := prog_1_method_16_code
def yX6_hearth : MethodName := ⟨RX6, "hearth", "(II)I"⟩
abbrev cX6_breath : ByteArray := prog_1_method_17_code
def yX6_breath : MethodName := ⟨RX6, "breath", "(II)I"⟩
abbrev cX6_fire : ByteArray := prog_1_method_18_code
def yX6_fire : MethodName := ⟨RX6, "fire", "(II)I"⟩
abbrev cX6_lit : ByteArray := prog_1_method_19_code
def yX6_lit : MethodName := ⟨RX6, "lit", "(I)I"⟩
abbrev cX6_empty : ByteArray := prog_1_method_20_code
def yX6_empty : MethodName := ⟨RX6, "empty", "(I)I"⟩
abbrev cX6_cold : ByteArray := prog_1_method_21_code
def yX6_cold : MethodName := ⟨RX6, "cold", "(I)I"⟩
abbrev cX6_best : ByteArray := prog_1_method_22_code
def yX6_best : MethodName := ⟨RX6, "best", "(III)I"⟩
abbrev cX6_draw : ByteArray := prog_1_method_23_code
def yX6_draw : MethodName := ⟨RX6, "draw", "(II)I"⟩
abbrev cX6_rests : ByteArray := prog_1_method_24_code
def yX6_rests : MethodName := ⟨RX6, "rests", "(IIII)I"⟩
abbrev cX6_fits : ByteArray := prog_1_method_25_code
def yX6_fits : MethodName := ⟨RX6, "fits", "(IIIII)I"⟩
abbrev cX6_chance : ByteArray := prog_1_method_26_code
def yX6_chance : MethodName := ⟨RX6, "chance", "(IIII)I"⟩
abbrev cX6_drawn : ByteArray := prog_1_method_27_code
def yX6_drawn : MethodName := ⟨RX6, "drawn", "(III)I"⟩
abbrev cX6_image : ByteArray := prog_1_method_28_code
def yX6_image : MethodName := ⟨RX6, "image", "(I)I"⟩
abbrev cX6_restore : ByteArray := prog_1_method_29_code
def yX6_restore : MethodName := ⟨RX6, "restore", "(I)I"⟩
abbrev cX6_kind : ByteArray := prog_1_method_30_code
def yX6_kind : MethodName := ⟨RX6, "kind", "(I)I"⟩
abbrev cX6_as : ByteArray := prog_1_method_31_code
def yX6_as : MethodName := ⟨RX6, "as", "(II)I"⟩
abbrev cX6_ask : ByteArray := prog_1_method_32_code
def yX6_ask : MethodName := ⟨RX6, "ask", "(II)I"⟩
abbrev cX6_trace : ByteArray := prog_1_method_33_code
def yX6_trace : MethodName := ⟨RX6, "trace", "(I)I"⟩
abbrev cX6_count : ByteArray := prog_1_method_34_code
def yX6_count : MethodName := ⟨RX6, "count", "(I)I"⟩
abbrev cX6_status : ByteArray := prog_1_method_35_code
def yX6_status : MethodName := ⟨RX6, "status", "()I"⟩
abbrev cX6_found : ByteArray := prog_1_method_36_code
def yX6_found : MethodName := ⟨RX6, "found", "(I)I"⟩
abbrev cX6_unfound : ByteArray := prog_1_method_37_code
def yX6_unfound : MethodName := ⟨RX6, "unfound", "(I)I"⟩
abbrev cX6_isPair : ByteArray := prog_1_method_38_code
def yX6_isPair : MethodName := ⟨RX6, "isPair", "(I)Z"⟩
abbrev cX6_isHearth : ByteArray := prog_1_method_39_code
def yX6_isHearth : MethodName := ⟨RX6, "isHearth", "(I)Z"⟩
abbrev cX6_isRow : ByteArray := prog_1_method_40_code
def yX6_isRow : MethodName := ⟨RX6, "isRow", "(I)Z"⟩
abbrev cX6_isWithin : ByteArray := prog_1_method_41_code
def yX6_isWithin : MethodName := ⟨RX6, "isWithin", "(III)Z"⟩
abbrev cX6_isOneOf : ByteArray := prog_1_method_42_code
def yX6_isOneOf : MethodName := ⟨RX6, "isOneOf", "(II)Z"⟩
abbrev cX6_power : ByteArray := prog_1_method_43_code
def yX6_power : MethodName := ⟨RX6, "power", "(II)I"⟩
abbrev cX6_greatestShared : ByteArray := prog_1_method_44_code
def yX6_greatestShared : MethodName := ⟨RX6, "greatestShared", "(II)I"⟩
def RX7 : String := "BellowsWordsModel"
def TX7 : u_T := fun k => match k with
  | 0 => ("BellowsWordsModel", "lane", "[I", true)
  | 1 => ("BellowsWordsModel", "many", "[I", true)
  | 2 => ("BellowsWordsModel", "items", "[I", true)
  | 3 => ("BellowsWordsModel", "spare", "[I", true)
  | 4 => ("BellowsWordsModel", "status", "I", false)
  | 5 => ("BellowsWordsModel", "tape", "[I", true)
  | 6 => ("BellowsWordsModel", "taped", "I", false)
  | 7 => ("BellowsWordsModel", "faultKind", "I", false)
  | 8 => ("BellowsWordsModel", "faultPlace", "I", false)
  | 9 => ("BellowsWordsModel", "at", "I", false)
  | 10 => ("BellowsWordsModel", "start", "I", false)
  | 11 => ("BellowsWordsModel", "token", "I", false)
  | 12 => ("BellowsWordsModel", "value", "I", false)
  | 13 => ("BellowsWordsModel", "now", "[I", true)
  | 14 => ("BellowsWordsModel", "draft", "[I", true)
  | 15 => ("BellowsWordsModel", "tried", "[I", true)
  | 16 => ("BellowsWordsModel", "past", "[I", true)
  | 17 => ("BellowsWordsModel", "acts", "I", false)
  | 18 => ("BellowsWordsModel", "images", "[I", true)
  | 19 => ("BellowsWordsModel", "kept", "[Z", true)
  | 20 => ("BellowsWordsModel", "fires", "[I", true)
  | 21 => ("BellowsWordsModel", "blown", "[I", true)
  | 22 => ("BellowsWordsModel", "ones", "[I", true)
  | 23 => ("BellowsWordsModel", "others", "[I", true)
  | 24 => ("BellowsWordsModel", "trace", "[I", true)
  | _ => ("BellowsWordsModel", "traced", "I", false)
def tyX7 : Nat → FieldType := fun k => match k with
  | 0 => .array .int
  | 1 => .array .int
  | 2 => .array .int
  | 3 => .array .int
  | 4 => .int
  | 5 => .array .int
  | 6 => .int
  | 7 => .int
  | 8 => .int
  | 9 => .int
  | 10 => .int
  | 11 => .int
  | 12 => .int
  | 13 => .array .int
  | 14 => .array .int
  | 15 => .array .int
  | 16 => .array .int
  | 17 => .int
  | 18 => .array .int
  | 19 => .array .boolean
  | 20 => .array .int
  | 21 => .array .int
  | 22 => .array .int
  | 23 => .array .int
  | 24 => .array .int
  | _ => .int
abbrev wsX70 : List Cond := u_ws RX7 TX7 26
theorem nmX7 : ∀ a, a < 26 → ∀ b, b < 26 → a ≠ b → (TX7 a).2.1 ≠ (TX7 b).2.1 := by decide +kernel
theorem tyX7_ok : ∀ k, k < 26 → parseFieldDescriptor (TX7 k).2.2.1 = some (tyX7 k) := by decide +kernel
abbrev cX7_init : ByteArray := prog_9_method_1_code
def yX7_init : MethodName := ⟨RX7, "<init>", "()V"⟩
abbrev cX7_in : ByteArray := prog_9_method_3_code
def yX7_in : MethodName := ⟨RX7, "in", "(III)Z"⟩
abbrev cX7_has : ByteArray := prog_9_method_4_code
def yX7_has : MethodName := ⟨RX7, "has", "(II)Z"⟩
abbrev cX7_bits : ByteArray := prog_9_method_5_code
def yX7_bits : MethodName := ⟨RX7, "bits", "(I)I"⟩
abbrev cX7_lesser : ByteArray := prog_9_method_6_code
def yX7_lesser : MethodName := ⟨RX7, "lesser", "(II)I"⟩
abbrev cX7_found : ByteArray := prog_9_method_7_code
def yX7_found : MethodName := ⟨RX7, "found", "(I)I"⟩
abbrev cX7_well : ByteArray := prog_9_method_8_code
def yX7_well : MethodName := ⟨RX7, "well", "(I)I"⟩
abbrev cX7_copies : ByteArray := prog_9_method_9_code
def yX7_copies : MethodName := ⟨RX7, "copies", "([II[II)V"⟩
abbrev cX7_isRow : ByteArray := prog_9_method_10_code
def yX7_isRow : MethodName := ⟨RX7, "isRow", "(I)Z"⟩
abbrev cX7_isMissing : ByteArray := prog_9_method_11_code
def yX7_isMissing : MethodName := ⟨RX7, "isMissing", "(I)Z"⟩
abbrev cX7_cut : ByteArray := prog_9_method_12_code
def yX7_cut : MethodName := ⟨RX7, "cut", "(II)I"⟩
abbrev cX7_row : ByteArray := prog_9_method_13_code
def yX7_row : MethodName := ⟨RX7, "row", "(III)I"⟩
abbrev cX7_set : ByteArray := prog_9_method_14_code
def yX7_set : MethodName := ⟨RX7, "set", "(III)I"⟩
abbrev cX7_isPart : ByteArray := prog_9_method_15_code
def yX7_isPart : MethodName := ⟨RX7, "isPart", "(III)Z"⟩
abbrev cX7_copy : ByteArray := prog_9_method_16_code
def yX7_copy : MethodName := ⟨RX7, "copy", "(IIIII)I"⟩
abbrev cX7_drop : ByteArray := prog_9_method_17_code
def yX7_drop : MethodName := ⟨RX7, "drop", "(I)I"⟩
abbrev cX7_feed : ByteArray := prog_9_method_18_code
def yX7_feed : MethodName := ⟨RX7, "feed", "(I)I"⟩
abbrev cX7_byteAt : ByteArray := prog_9_method_19_code
def yX7_byteAt : MethodName := ⟨RX7, "byteAt", "(I)I"⟩
abbrev cX7_advances : ByteArray := prog_9_method_20_code
def yX7_advances : MethodName := ⟨RX7, "advances", "()V"⟩
abbrev cX7_isWell : ByteArray := prog_9_method_21_code
def yX7_isWell : MethodName := ⟨RX7, "isWell", "()Z"⟩
abbrev cX7_takes : ByteArray := prog_9_method_22_code
def yX7_takes : MethodName := ⟨RX7, "takes", "(ZI)I"⟩
abbrev cX7_figure : ByteArray := prog_9_method_23_code
def yX7_figure : MethodName := ⟨RX7, "figure", "(II)I"⟩
abbrev cX7_kindOf : ByteArray := prog_9_method_24_code
def yX7_kindOf : MethodName := ⟨RX7, "kindOf", "(I)I"⟩
abbrev cX7_follows : ByteArray := prog_9_method_25_code
def yX7_follows : MethodName := ⟨RX7, "follows", "(II)I"⟩
abbrev cX7_readsHearth : ByteArray := prog_9_method_26_code
def yX7_readsHearth : MethodName := ⟨RX7, "readsHearth", "()V"⟩
abbrev cX7_readsPair : ByteArray := prog_9_method_27_code
def yX7_readsPair : MethodName := ⟨RX7, "readsPair", "()V"⟩
abbrev cX7_must : ByteArray := prog_9_method_28_code
def yX7_must : MethodName := ⟨RX7, "must", "(Z)V"⟩
abbrev cX7_house : ByteArray := prog_9_method_29_code
def yX7_house : MethodName := ⟨RX7, "house", "()I"⟩
abbrev cX7_fault : ByteArray := prog_9_method_30_code
def yX7_fault : MethodName := ⟨RX7, "fault", "()I"⟩
abbrev cX7_isHouse : ByteArray := prog_9_method_31_code
def yX7_isHouse : MethodName := ⟨RX7, "isHouse", "()Z"⟩
abbrev cX7_isPair : ByteArray := prog_9_method_32_code
def yX7_isPair : MethodName := ⟨RX7, "isPair", "(I)Z"⟩
abbrev cX7_isHearth : ByteArray := prog_9_method_33_code
def yX7_isHearth : MethodName := ⟨RX7, "isHearth", "(I)Z"⟩
abbrev cX7_isWarm : ByteArray := prog_9_method_34_code
def yX7_isWarm : MethodName := ⟨RX7, "isWarm", "([I)Z"⟩
abbrev cX7_blows : ByteArray := prog_9_method_35_code
def yX7_blows : MethodName := ⟨RX7, "blows", "([II)I"⟩
abbrev cX7_keeps : ByteArray := prog_9_method_36_code
def yX7_keeps : MethodName := ⟨RX7, "keeps", "([II)I"⟩
abbrev cX7_litOf : ByteArray := prog_9_method_37_code
def yX7_litOf : MethodName := ⟨RX7, "litOf", "([I)I"⟩
abbrev cX7_pegsOf : ByteArray := prog_9_method_38_code
def yX7_pegsOf : MethodName := ⟨RX7, "pegsOf", "([I)I"⟩
abbrev cX7_isHot : ByteArray := prog_9_method_39_code
def yX7_isHot : MethodName := ⟨RX7, "isHot", "([II)Z"⟩
abbrev cX7_burns : ByteArray := prog_9_method_40_code
def yX7_burns : MethodName := ⟨RX7, "burns", "([II)V"⟩
abbrev cX7_passes : ByteArray := prog_9_method_41_code
def yX7_passes : MethodName := ⟨RX7, "passes", "([I)V"⟩
abbrev cX7_notes : ByteArray := prog_9_method_42_code
def yX7_notes : MethodName := ⟨RX7, "notes", "()V"⟩
abbrev cX7_days : ByteArray := prog_9_method_43_code
def yX7_days : MethodName := ⟨RX7, "days", "(I)I"⟩
abbrev cX7_peg : ByteArray := prog_9_method_44_code
def yX7_peg : MethodName := ⟨RX7, "peg", "(II)I"⟩
abbrev cX7_move : ByteArray := prog_9_method_45_code
def yX7_move : MethodName := ⟨RX7, "move", "(II)I"⟩
abbrev cX7_light : ByteArray := prog_9_method_46_code
def yX7_light : MethodName := ⟨RX7, "light", "(II)I"⟩
abbrev cX7_weather : ByteArray := prog_9_method_47_code
def yX7_weather : MethodName := ⟨RX7, "weather", "(I)I"⟩
abbrev cX7_undo : ByteArray := prog_9_method_48_code
def yX7_undo : MethodName := ⟨RX7, "undo", "()I"⟩
abbrev cX7_pair : ByteArray := prog_9_method_49_code
def yX7_pair : MethodName := ⟨RX7, "pair", "(II)I"⟩
abbrev cX7_pairsAt : ByteArray := prog_9_method_50_code
def yX7_pairsAt : MethodName := ⟨RX7, "pairsAt", "(I)I"⟩
abbrev cX7_blownInto : ByteArray := prog_9_method_51_code
def yX7_blownInto : MethodName := ⟨RX7, "blownInto", "(I)I"⟩
abbrev cX7_hearth : ByteArray := prog_9_method_52_code
def yX7_hearth : MethodName := ⟨RX7, "hearth", "(II)I"⟩
abbrev cX7_goesOn : ByteArray := prog_9_method_53_code
def yX7_goesOn : MethodName := ⟨RX7, "goesOn", "(I)V"⟩
abbrev cX7_breath : ByteArray := prog_9_method_54_code
def yX7_breath : MethodName := ⟨RX7, "breath", "(II)I"⟩
abbrev cX7_fire : ByteArray := prog_9_method_55_code
def yX7_fire : MethodName := ⟨RX7, "fire", "(II)I"⟩
abbrev cX7_lit : ByteArray := prog_9_method_56_code
def yX7_lit : MethodName := ⟨RX7, "lit", "(I)I"⟩
abbrev cX7_empty : ByteArray := prog_9_method_57_code
def yX7_empty : MethodName := ⟨RX7, "empty", "(I)I"⟩
abbrev cX7_cold : ByteArray := prog_9_method_58_code
def yX7_cold : MethodName := ⟨RX7, "cold", "(I)I"⟩
abbrev cX7_isNear : ByteArray := prog_9_method_59_code
def yX7_isNear : MethodName := ⟨RX7, "isNear", "(I)Z"⟩
abbrev cX7_best : ByteArray := prog_9_method_60_code
def yX7_best : MethodName := ⟨RX7, "best", "(III)I"⟩
abbrev cX7_draw : ByteArray := prog_9_method_61_code
def yX7_draw : MethodName := ⟨RX7, "draw", "(II)I"⟩
abbrev cX7_waits : ByteArray := prog_9_method_62_code
def yX7_waits : MethodName := ⟨RX7, "waits", "(IIIII)V"⟩
abbrev cX7_isRest : ByteArray := prog_9_method_63_code
def yX7_isRest : MethodName := ⟨RX7, "isRest", "(II)Z"⟩
abbrev cX7_rests : ByteArray := prog_9_method_64_code
def yX7_rests : MethodName := ⟨RX7, "rests", "(IIII)I"⟩
abbrev cX7_keepsSo : ByteArray := prog_9_method_65_code
def yX7_keepsSo : MethodName := ⟨RX7, "keepsSo", "(IIIII)Z"⟩
abbrev cX7_fits : ByteArray := prog_9_method_66_code
def yX7_fits : MethodName := ⟨RX7, "fits", "(IIIII)I"⟩
abbrev cX7_chance : ByteArray := prog_9_method_67_code
def yX7_chance : MethodName := ⟨RX7, "chance", "(IIII)I"⟩
abbrev cX7_drawn : ByteArray := prog_9_method_68_code
def yX7_drawn : MethodName := ⟨RX7, "drawn", "(III)I"⟩
abbrev cX7_image : ByteArray := prog_9_method_69_code
def yX7_image : MethodName := ⟨RX7, "image", "(I)I"⟩
abbrev cX7_restore : ByteArray := prog_9_method_70_code
def yX7_restore : MethodName := ⟨RX7, "restore", "(I)I"⟩
abbrev cX7_kindIn : ByteArray := prog_9_method_71_code
def yX7_kindIn : MethodName := ⟨RX7, "kindIn", "(I)I"⟩
abbrev cX7_kind : ByteArray := prog_9_method_72_code
def yX7_kind : MethodName := ⟨RX7, "kind", "(I)I"⟩
abbrev cX7_as : ByteArray := prog_9_method_73_code
def yX7_as : MethodName := ⟨RX7, "as", "(II)I"⟩
abbrev cX7_begins : ByteArray := prog_9_method_74_code
def yX7_begins : MethodName := ⟨RX7, "begins", "(I)V"⟩
abbrev cX7_leatherMark : ByteArray := prog_9_method_75_code
def yX7_leatherMark : MethodName := ⟨RX7, "leatherMark", "(I)I"⟩
abbrev cX7_tinSize : ByteArray := prog_9_method_76_code
def yX7_tinSize : MethodName := ⟨RX7, "tinSize", "(I)I"⟩
abbrev cX7_leatherSize : ByteArray := prog_9_method_77_code
def yX7_leatherSize : MethodName := ⟨RX7, "leatherSize", "(I)I"⟩
abbrev cX7_tinMark : ByteArray := prog_9_method_78_code
def yX7_tinMark : MethodName := ⟨RX7, "tinMark", "(I)I"⟩
abbrev cX7_ask : ByteArray := prog_9_method_79_code
def yX7_ask : MethodName := ⟨RX7, "ask", "(II)I"⟩
abbrev cX7_trace : ByteArray := prog_9_method_80_code
def yX7_trace : MethodName := ⟨RX7, "trace", "(I)I"⟩
abbrev cX7_count : ByteArray := prog_9_method_81_code
def yX7_count : MethodName := ⟨RX7, "count", "(I)I"⟩
abbrev cX7_status : ByteArray := prog_9_method_82_code
def yX7_status : MethodName := ⟨RX7, "status", "()I"⟩
def RJ6 : String := "java/lang/Integer"
def TJ6 : u_T := fun k => match k with
  | _ => ("", "", "", false)
def tyJ6 : Nat → FieldType := fun k => match k with
  | _ => .int
abbrev wsJ60 : List Cond := u_ws RJ6 TJ6 0
theorem nmJ6 : ∀ a, a < 0 → ∀ b, b < 0 → a ≠ b → (TJ6 a).2.1 ≠ (TJ6 b).2.1 := by decide +kernel
theorem tyJ6_ok : ∀ k, k < 0 → parseFieldDescriptor (TJ6 k).2.2.1 = some (tyJ6 k) := by decide +kernel
abbrev cJ6_bitCount_0f7a4 : ByteArray := prog_10_method_49_code
def yJ6_bitCount_0f7a4 : MethodName := ⟨RJ6, "bitCount", "(I)I"⟩
def RJ9 : String := "java/lang/Math"
def TJ9 : u_T := fun k => match k with
  | _ => ("", "", "", false)
def tyJ9 : Nat → FieldType := fun k => match k with
  | _ => .int
abbrev wsJ90 : List Cond := u_ws RJ9 TJ9 0
theorem nmJ9 : ∀ a, a < 0 → ∀ b, b < 0 → a ≠ b → (TJ9 a).2.1 ≠ (TJ9 b).2.1 := by decide +kernel
theorem tyJ9_ok : ∀ k, k < 0 → parseFieldDescriptor (TJ9 k).2.2.1 = some (tyJ9 k) := by decide +kernel
abbrev cJ9_max_7cf53 : ByteArray := prog_11_method_65_code
def yJ9_max_7cf53 : MethodName := ⟨RJ9, "max", "(II)I"⟩
abbrev cJ9_min_7cf53 : ByteArray := prog_11_method_69_code
def yJ9_min_7cf53 : MethodName := ⟨RJ9, "min", "(II)I"⟩
def RJ10 : String := "java/lang/System"
def TJ10 : u_T := fun k => match k with
  | _ => ("", "", "", false)
def tyJ10 : Nat → FieldType := fun k => match k with
  | _ => .int
abbrev wsJ100 : List Cond := u_ws RJ10 TJ10 0
theorem nmJ10 : ∀ a, a < 0 → ∀ b, b < 0 → a ≠ b → (TJ10 a).2.1 ≠ (TJ10 b).2.1 := by decide +kernel
theorem tyJ10_ok : ∀ k, k < 0 → parseFieldDescriptor (TJ10 k).2.2.1 = some (tyJ10 k) := by decide +kernel
def RL : String := "BellowsWordsLaw"
abbrev cL_law : ByteArray := code
def yL_law : MethodName := ⟨RL, "law", "([I)Z"⟩
abbrev vwCl : List vw_C := [(RX0, TX0, 3), (RX1, TX1, 2), (RX2, TX2, 3), (RX3, TX3, 11), (RX4, TX4, 3), (RX5, TX5, 5), (RX6, TX6, 8), (RX7, TX7, 26)]
end
section
/-! The judgement jV: a frame of one of the system's methods over an abstract heap (a list of cells, references are places in it). -/
abbrev jC : Type := (Nat × (Nat → Int32)) ⊕ ((Nat × (Nat → Int32)) ⊕ ((Nat × (Nat → Option Nat)) ⊕ (Nat × List Value)))
abbrev jH : Type := List jC
abbrev jI (n : Nat) (f : Nat → Int32) : jC := .inl (n, f)
abbrev jZ (n : Nat) (f : Nat → Int32) : jC := .inr (.inl (n, f))
abbrev jR (n : Nat) (f : Nat → Option Nat) : jC := .inr (.inr (.inl (n, f)))
abbrev jO (k : Nat) (fs : List Value) : jC := .inr (.inr (.inr (k, fs)))
/-- the tables' words that a callee may take over -/
def jT : List Cond := lw_tbl.filter goodWord
theorem jT_good {w : Cond} (h : w ∈ jT) : goodWord w = true := (List.mem_filter.mp h).2
theorem jT_in {ws : List Cond} (h : ∀ w ∈ ws, w ∈ jT) : GoodIn jT ws := fun w hw => ⟨h w hw, good_of_word (jT_good (h w hw))⟩
theorem jT_at {w : Cond} (k : Nat) (h : lw_tbl[k]? = some w) (hg : goodWord w = true) : w ∈ jT := List.mem_filter.mpr ⟨List.mem_of_getElem? h, hg⟩
/-- base address, addresses of what lies below, classes' numbers and slots, array classes -/
abbrev jG : Type := Nat × (Nat → Nat) × va_G × ClassId × ClassId × ClassId
def jad (g : jG) (i : Nat) : Nat := if i < 1000 then g.1 + i else g.2.1 i
def jval (g : jG) (v : Value) : Value := match v with
  | .ref i => .ref (jad g i)
  | v => v
def jcell (g : jG) (c : jC) : va_E := match c with
  | .inl q => .inl (g.2.2.2.1, q.1, .inl q.2)
  | .inr (.inl q) => .inl (g.2.2.2.2.1, q.1, .inl q.2)
  | .inr (.inr (.inl q)) => .inl (g.2.2.2.2.2, q.1, .inr (.inr (.inr (.inr (fun k => (q.2 k).map (jad g))))))
  | .inr (.inr (.inr q)) => .inr (q.1, q.2.map (jval g))
def jws (g : jG) (h : jH) : va_W := h.mapIdx (fun i c => (jad g i, jcell g c))
def jA (g : jG) : Nat → Prop := fun q => g.1 ≤ q
def jtys (g : jG) : List (ClassId × FieldType) := [(g.2.2.2.1, .int), (g.2.2.2.2.1, .boolean), (g.2.2.2.2.2, .object "BellowsWords$House")]
def jRep (g : jG) (h : jH) (H : Heap) : Prop := h.length ≤ 1000 ∧ va_P g.2.2.1 vwCl (jws g h) H
/-- the five static tables -/
def jtabs : List (String × String × Nat × List Int32) := [("BellowsWords$Foreteller", "LEAST_SUPPOSED", 5, [1, 0, 0, 0, 0]), ("BellowsWords$Foreteller", "MOST_SUPPOSED", 5, [5, 15, 1, 40, 40]), ("BellowsWords", "PARENT", 6, [-1, 0, 1, 1, 0, 4]), ("BellowsWords$Asker", "SIZE_BODY", 6, [10, 11, 12, 11, 13, 14]), ("BellowsWords$Asker", "MARK_BODY", 6, [20, 21, 24, 22, 23, 23])]
def jTab (g : jG) (U : State) (H : Heap) : Prop := ∀ (j : Nat) (q : String × String × Nat × List Int32), jtabs[j]? = some q → va_Z q.1 q.2.1 "[I" (.ref (g.2.1 (1000 + j))) (jA g) U H ∧ va_T .int (g.2.1 (1000 + j)) q.2.2.1 (fun k => .int (q.2.2.2.getD k 0)) (jA g) U H
def jK (g : jG) (U : State) (H : Heap) : Prop := va_K g.2.2.1 vwCl (jtys g) U ∧ jTab g U H ∧ va_Nw (.methodLinkNest RX5 99 yX6_isWithin RX6) U ∧ va_Nw (.methodLinkNest RX2 91 yX6_power RX6) U ∧ va_AO "BellowsWords$House" U ∧ g.1 ≤ H.size
theorem jK_moved {g : jG} {u U : State} {H H1 : Heap} (hW : u.WarmedH U.vm) (h : jK g u H) (hz : H.size ≤ H1.size) (hq : ∀ q : Nat, q < H.size → ¬ jA g q → H1[q]? = H[q]?) : jK g U H1 :=
  ⟨va_K.moved hW.alike h.1, fun j q hj => ⟨va_Z.moved hW.alike ((h.2.1 j q hj).1.kept hq), va_T.moved hW.alike ((h.2.1 j q hj).2.kept hq)⟩, va_Nw.warmM hW h.2.2.1, va_Nw.warmM hW h.2.2.2.1, va_AO.moved hW.alike h.2.2.2.2.1, Nat.le_trans h.2.2.2.2.2 hz⟩
theorem jws_at {g : jG} {h : jH} {i : Nat} {c : jC} (hc : h[i]? = some c) : (jws g h)[i]? = some (jad g i, jcell g c) := by
  simp [jws, List.getElem?_mapIdx, hc]
theorem jws_of {g : jG} {h : jH} {i : Nat} {q : Nat × va_E} (hq : (jws g h)[i]? = some q) : ∃ c, h[i]? = some c ∧ q = (jad g i, jcell g c) := by
  simp only [jws, List.getElem?_mapIdx] at hq
  cases hc : h[i]? with
  | none => rw [hc] at hq; cases hq
  | some c => rw [hc] at hq; cases hq; exact ⟨c, rfl, rfl⟩
theorem jws_set {g : jG} {h : jH} {i : Nat} {c : jC} : (jws g h).set i (jad g i, jcell g c) = jws g (h.set i c) := by
  apply List.ext_getElem?
  intro k
  by_cases hk : i = k
  · subst hk
    by_cases hl : i < h.length
    · rw [List.getElem?_set_self (by simp [jws]; exact hl), jws_at (c := c) (by rw [List.getElem?_set_self hl])]
    · rw [List.getElem?_eq_none (by simp [jws]; omega), List.getElem?_eq_none (by simp [jws]; omega)]
  · rw [List.getElem?_set_ne hk]
    simp only [jws, List.getElem?_mapIdx, List.getElem?_set_ne hk]
theorem jws_push {g : jG} {h : jH} {c : jC} : jws g (h ++ [c]) = jws g h ++ [(jad g h.length, jcell g c)] := by
  simp [jws, List.mapIdx_append]
theorem jws_D {g : jG} {h : jH} (hl : h.length ≤ 1000) : va_D (jA g) (jws g h) := by
  refine ⟨fun i j p q hi hj hpq => ?_, fun k q hk => ?_⟩
  · obtain ⟨c, hc, rfl⟩ := jws_of hi
    obtain ⟨c2, hc2, rfl⟩ := jws_of hj
    have l1 := (List.getElem?_eq_some_iff.mp hc).1
    have l2 := (List.getElem?_eq_some_iff.mp hc2).1
    simp only [jad] at hpq
    rw [if_pos (by omega), if_pos (by omega)] at hpq
    omega
  · obtain ⟨c, hc, rfl⟩ := jws_of hk
    have l1 := (List.getElem?_eq_some_iff.mp hc).1
    show g.1 ≤ jad g k
    simp only [jad]
    rw [if_pos (by omega)]
    omega
theorem jRep_set {g : jG} {h : jH} {H H1 : Heap} {i : Nat} {c0 c : jC} (hR : jRep g h H) (hc : h[i]? = some c0) (he : va_at g.2.2.1 vwCl (jad g i, jcell g c) H1) (oq : ∀ q : Nat, q ≠ jad g i → H1[q]? = H[q]?) : jRep g (h.set i c) H1 := by
  refine ⟨by simp; exact hR.1, ?_⟩
  rw [← jws_set]
  exact hR.2.set (jws_D hR.1) (jws_at hc) he oq
theorem jRep_push {g : jG} {h : jH} {H H1 : Heap} {c : jC} (hR : jRep g h H) (hl : h.length < 1000) (hz : H.size = g.1 + h.length) (he : va_at g.2.2.1 vwCl (H.size, jcell g c) H1) (oq : ∀ q : Nat, q < H.size → H1[q]? = H[q]?) : jRep g (h ++ [c]) H1 := by
  refine ⟨by simp; omega, ?_⟩
  rw [jws_push]
  have e : jad g h.length = H.size := by simp only [jad]; rw [if_pos hl, hz]
  rw [e]
  refine (hR.2.kept fun k q hk => oq q.1 ((hR.2 k q hk).lt)).app (fun k q hk => ?_)
  have hz : k < 1 := (List.getElem?_eq_some_iff.mp hk).1
  rw [show k = 0 by omega] at hk
  cases hk
  exact he
/-- locals: by place; none: not known -/
def jal (g : jG) (ls : List (Option Value)) : List (Nat × Value) := ls.zipIdx.filterMap (fun q => q.1.map (fun v => (q.2, jval g v)))
theorem jal_mem {g : jG} {ls : List (Option Value)} {i : Nat} {v : Value} (h : ls[i]? = some (some v)) : (i, jval g v) ∈ jal g ls := by
  refine List.mem_filterMap.mpr ⟨(some v, i), ?_, rfl⟩
  rw [List.mem_zipIdx_iff_getElem?]
  exact h
theorem jal_of {g : jG} {ls : List (Option Value)} {q : Nat × Value} (h : q ∈ jal g ls) : ∃ v, ls[q.1]? = some (some v) ∧ q.2 = jval g v := by
  obtain ⟨x, hx, he⟩ := List.mem_filterMap.mp h
  obtain ⟨o, i⟩ := x
  rw [List.mem_zipIdx_iff_getElem?] at hx
  cases o with
  | none => cases he
  | some v => cases he; exact ⟨v, hx, rfl⟩
def jL (g : jG) (c : Code) (ls : List (Option Value)) (a : Array Slot) : Prop := ls.length = c.maxLocals ∧ lv_has a c.maxLocals (jal g ls)
theorem jL_at {g : jG} {c : Code} {ls : List (Option Value)} {a : Array Slot} (h : jL g c ls a) {i : Nat} {v : Value} (hi : ls[i]? = some (some v)) : a[i]? = some (.val (jval g v)) := h.2.2.2 _ (jal_mem hi)
def jnl : Option Value → Bool
  | some (.long _) => false
  | some (.double _) => false
  | _ => true
theorem jval_cat (g : jG) (v : Value) : (jval g v).category = v.category := by cases v <;> rfl
theorem jnl_cat {v : Value} (h : jnl (some v) = true) : v.category = 1 := by cases v <;> first | rfl | cases h
/-- the locals behind a store of one slot -/
theorem jL_set1 {g : jG} {c : Code} {ls : List (Option Value)} {a a' : Array Slot} {i : Nat} {v : Value} (h : jL g c ls a) (hi : i < ls.length) (hn : ∀ j : Nat, j + 1 = i → ∀ w : Value, ls[j]? = some (some w) → w.category = 1)
    (h' : lv_has a' c.maxLocals ((i, jval g v) :: (jal g ls).filter (fun q => !(q.1 == i) && !(q.1 + 1 == i && q.2.category == 2)))) : jL g c (ls.set i (some v)) a' := by
  refine ⟨by simp; exact h.1, h'.1, h'.2.1, fun q hq => ?_⟩
  obtain ⟨w, hw, e⟩ := jal_of hq
  refine h'.2.2 q ?_
  by_cases hk : i = q.1
  · subst hk
    rw [List.getElem?_set_self hi] at hw
    cases hw
    exact List.mem_cons.mpr (Or.inl (Prod.ext rfl e))
  · rw [List.getElem?_set_ne hk] at hw
    refine List.mem_cons_of_mem _ (List.mem_filter.mpr ⟨?_, ?_⟩)
    · have := jal_mem (g := g) hw
      rw [← e] at this
      exact this
    · have hc : q.1 + 1 = i → (q.2).category = 1 := fun z => by rw [e, jval_cat]; exact hn q.1 z w hw
      simp only [Bool.and_eq_true, Bool.not_eq_true', beq_eq_false_iff_ne, ne_eq, Bool.and_eq_false_iff]
      refine ⟨fun z => hk z.symm, ?_⟩
      by_cases z : q.1 + 1 = i
      · exact Or.inr (by rw [hc z]; decide)
      · exact Or.inl z
/-- what may still be made: none: nothing, and the heap's size isn't followed -/
abbrev jB : Type := Option (Nat × Nat)
def jbk (b : jB) : Nat := (b.map (fun q => q.1)).getD 0
def jbn (b : jB) : Nat := (b.map (fun q => q.2)).getD 0
abbrev jX : Type := Launch × jG × Program × Env × Room × State × MethodId × Array Value × List Frame × Method × Code × (State → Prop)
def jOK (cc : ByteArray) (own : String) (d : Nat) (g : jG) (p : Program) (R : Room) (s : State) (m : MethodId) (args : Array Value) (meth : Method) (c : Code) : Prop :=
  p.tables.exec = Jvm.exec ∧ c.code = cc ∧ s.vm.findClass own = some m.cls ∧ (∀ w ∈ jT, w.before args s = true) ∧ meth.locks = false ∧ d ≤ R.frames ∧ 64 * d ≤ R.locals ∧ jK g s s.heap
def jV (cc : ByteArray) (own : String) (d : Nat) (X : jX) (b : jB) (pc : Nat) (ls : List (Option Value)) (st : List Value) (h : jH) : Prop := match X with
  | (l, g, p, e, R, s, m, args, below, meth, c, Q) => jOK cc own d g p R s m args meth c → ∀ (H : Heap) (locs : List Loc) (a : Array Slot) (k n : Nat), k + jbk b ≤ R.cells → n + jbn b ≤ R.slots → jRep g h H → (b.isSome = true → H.size = g.1 + h.length) → va_S (jA g) s.heap H locs → jL g c ls a → W p l e R s m args below meth c H locs k n Q (F0 m pc a (st.map (jval g)))
def jroom (d : Nat) (b : jB) : Room := { frames := d, cells := jbk b, slots := jbn b, locals := 64 * d }
def jQc (g : jG) (b : jB) (post : Option Value → jH → Prop) : Array Value → State → Outcome → State → Prop := fun _ st oc t => (∃ (v : Option Value) (h : jH), oc = .returned (v.map (jval g)) ∧ post v h ∧ jRep g h t.heap ∧ (b.isSome = true → t.heap.size = g.1 + h.length)) ∧ va_F (jA g) st t
/-- a method's contract -/
def jM (y : MethodName) (cc : ByteArray) (maxL : Nat) (ret : Option FieldType) (d : Nat) (b : jB) (av : List Value) (h : jH) (post : Option Value → jH → Prop) : Prop :=
  ∀ (l : Launch) (g : jG), Met l y (Cond.code y cc maxL ret :: jT) (jroom d b) (va_Pc (av.map (jval g)) (fun U => jRep g h U.heap ∧ (b.isSome = true → U.heap.size = g.1 + h.length) ∧ jK g U U.heap)) (jQc g b post) (jbk b) (jbn b) (jA g)
def jRet (X : jX) (ret : Option FieldType) (b : jB) (post : Option Value → jH → Prop) : Prop := match X with
  | (_, g, _, _, R, s, _, args, below, meth, _, Q) => meth.sig.returnType = ret ∧ R.cells = jbk b ∧ R.slots = jbn b ∧ Q = MQ below (jQc g b post) args s (jbk b) (jbn b) (jA g)
def jInit (X : jX) : Prop := match X with
  | (_, _, _, _, _, _, _, _, _, meth, _, _) => meth.name = "<init>"
/-- a contract out of a walk -/
theorem jM.of {y : MethodName} {cc : ByteArray} {maxL : Nat} {ret : Option FieldType} {d : Nat} {b : jB} {av : List Value} {h : jH} {post : Option Value → jH → Prop} (hy : plainName y.cls = true) (hav : av.all (fun v => v.category == 1) = true) (hl : av.length ≤ maxL)
    (body : ∀ X : jX, jRet X ret b post → (y.name = "<init>" → jInit X) → jV cc y.cls d X b 0 (av.map some ++ List.replicate (maxL - av.length) none) [] h) : jM y cc maxL ret d b av h post := by
  intro l g
  refine Met.ofW (cc := cc) (maxL := maxL) (ret := ret) hy rfl ?_
  intro p e s m args below meth c s₁ B hml hv
  obtain ⟨rfl, hR, hz, hK⟩ := hv
  have hcat : ∀ v ∈ av, v.category = 1 := fun v hv => by simpa using List.all_eq_true.mp hav v hv
  have e1 : ∀ vs : List Value, (∀ v ∈ vs, v.category = 1) → lg_sl (vs.map (jval g)) = vs.map (fun v => Slot.val (jval g v)) := by
    intro vs
    induction vs with
    | nil => intro _; rfl
    | cons v vs ih =>
      intro hc
      have h1 : ¬ (jval g v).category = 2 := by rw [jval_cat, hc v List.mem_cons_self]; decide
      have h2 := ih (fun w hw => hc w (List.mem_cons_of_mem _ hw))
      simp only [lg_sl, List.map_cons, List.flatMap_cons, h1, if_false] at h2 ⊢
      rw [h2]; rfl
  have e2 : ∀ (vs : List Value) (k : Nat), (∀ v ∈ vs, v.category = 1) → ∀ (i : Nat) (v : Value), vs[i]? = some v → (k + i, jval g v) ∈ lv_args k (vs.map (jval g)) := by
    intro vs
    induction vs with
    | nil => intro k _ i v h; simp at h
    | cons w vs ih =>
      intro k hc i v h
      have h1 : ¬ (jval g w).category = 2 := by rw [jval_cat, hc w List.mem_cons_self]; decide
      simp only [List.map_cons, lv_args, h1, if_false]
      cases i with
      | zero => simp at h; subst h; exact List.mem_cons_self
      | succ i =>
        have := ih (k + 1) (fun w hw => hc w (List.mem_cons_of_mem _ hw)) i v (by simpa using h)
        rw [show k + (i + 1) = k + 1 + i by omega]
        exact List.mem_cons_of_mem _ this
  have hlen : (lg_sl (av.map (jval g))).length = av.length := by rw [e1 av hcat]; simp
  have hent := lv_entry (av.map (jval g)) (n := maxL) (by rw [hlen]; exact hl)
  rw [lg_entry_eq]
  refine body (l, g, p, e, jroom d b, s, m, (av.map (jval g)).toArray, below, meth, c, MQ below (jQc g b post) (av.map (jval g)).toArray s (jbk b) (jbn b) (jA g)) ⟨B.returns, rfl, rfl, rfl⟩ (fun hi => (name_of_methodNamed B.named B.method).1.trans hi)
    ⟨B.exec, B.bytes, findClass_of_methodNamed B.named, fun w hw => atoms_spec (ws := Cond.code y cc maxL ret :: jT) B.pre w (List.mem_cons_of_mem _ hw), B.notSynchronized, Nat.le_refl _, Nat.le_refl _, hK⟩ s.heap [] _ 0 0 (by simp [jroom]) (by simp [jroom]) hR hz va_S.rf ⟨by simp; omega, ?_⟩
  rw [hml]
  refine ⟨hent.1, hent.2.1, fun q hq => hent.2.2 q ?_⟩
  obtain ⟨v, h1, h2⟩ := jal_of hq
  have h3 : av[q.1]? = some v := by
    by_cases hi : q.1 < av.length
    · rw [List.getElem?_append_left (by simp; exact hi), List.getElem?_map] at h1
      cases h4 : av[q.1]? with
      | none => rw [h4] at h1; cases h1
      | some w => rw [h4] at h1; cases h1; rfl
    · rw [List.getElem?_append_right (by simp; omega)] at h1
      have := List.eq_of_mem_replicate (List.mem_of_getElem? h1)
      cases this
  have h5 := e2 av 0 hcat q.1 v h3
  rw [Nat.zero_add, ← h2] at h5
  exact h5
/-- a contract may promise less -/
theorem jM.weak {y : MethodName} {cc : ByteArray} {maxL : Nat} {ret : Option FieldType} {d : Nat} {b : jB} {av : List Value} {h : jH} {post post' : Option Value → jH → Prop} (hM : jM y cc maxL ret d b av h post) (hp : ∀ v h', post v h' → post' v h') : jM y cc maxL ret d b av h post' := by
  intro l g p e ha hc hk s m args below hf hap hP hK
  obtain ⟨k, o, h1, h2, h3, ⟨⟨v, h', q1, q2, q3⟩, q4⟩, q5⟩ := hM l g p e ha hc hk s m args below hf hap hP hK
  exact ⟨k, o, h1, h2, h3, ⟨⟨v, h', q1, hp v h' q2, q3⟩, q4⟩, q5⟩
section JV
variable {cc : ByteArray} {own : String} {d : Nat} {X : jX} {b : jB} {pc : Nat} {ls : List (Option Value)} {st : List Value} {h : jH}
/-- nothing more is made -/
theorem e_none (k : jV cc own d X none pc ls st h) : jV cc own d X b pc ls st h := by
  obtain ⟨l, g, p, e, R, s, m, args, below, meth, c, Q⟩ := X
  intro ok H locs a k' n' h1 h2 hR hz hS hL
  exact k ok H locs a k' n' (by simp [jbk]; omega) (by simp [jbn]; omega) hR (fun z => by cases z) hS hL
end JV
end
section
section JR
variable {cc : ByteArray} {own : String} {d : Nat} {X : jX} {b : jB} {pc : Nat} {ls : List (Option Value)} {st : List Value} {h : jH}
theorem e_iadd {x y : Int32} (hd : decode cc pc = .ok (.iadd, 1)) (k : jV cc own d X b (pc + 1) ls (.int (x + y) :: st) h) : jV cc own d X b (pc) ls (.int y :: .int x :: st) h := by
  obtain ⟨l, g, p, e, R, s, m, args, below, meth, c, Q⟩ := X
  intro ok H locs a k' n' h1 h2 hR hz hS hL
  exact lv_iadd ok.1 ok.2.1 hd (k ok H locs a k' n' h1 h2 hR hz hS hL)
theorem e_isub {x y : Int32} (hd : decode cc pc = .ok (.isub, 1)) (k : jV cc own d X b (pc + 1) ls (.int (x - y) :: st) h) : jV cc own d X b (pc) ls (.int y :: .int x :: st) h := by
  obtain ⟨l, g, p, e, R, s, m, args, below, meth, c, Q⟩ := X
  intro ok H locs a k' n' h1 h2 hR hz hS hL
  exact lv_isub ok.1 ok.2.1 hd (k ok H locs a k' n' h1 h2 hR hz hS hL)
theorem e_imul {x y : Int32} (hd : decode cc pc = .ok (.imul, 1)) (k : jV cc own d X b (pc + 1) ls (.int (x * y) :: st) h) : jV cc own d X b (pc) ls (.int y :: .int x :: st) h := by
  obtain ⟨l, g, p, e, R, s, m, args, below, meth, c, Q⟩ := X
  intro ok H locs a k' n' h1 h2 hR hz hS hL
  exact lv_imul ok.1 ok.2.1 hd (k ok H locs a k' n' h1 h2 hR hz hS hL)
theorem e_iand {x y : Int32} (hd : decode cc pc = .ok (.iand, 1)) (k : jV cc own d X b (pc + 1) ls (.int (x &&& y) :: st) h) : jV cc own d X b (pc) ls (.int y :: .int x :: st) h := by
  obtain ⟨l, g, p, e, R, s, m, args, below, meth, c, Q⟩ := X
  intro ok H locs a k' n' h1 h2 hR hz hS hL
  exact lv_iand ok.1 ok.2.1 hd (k ok H locs a k' n' h1 h2 hR hz hS hL)
theorem e_ior {x y : Int32} (hd : decode cc pc = .ok (.ior, 1)) (k : jV cc own d X b (pc + 1) ls (.int (x ||| y) :: st) h) : jV cc own d X b (pc) ls (.int y :: .int x :: st) h := by
  obtain ⟨l, g, p, e, R, s, m, args, below, meth, c, Q⟩ := X
  intro ok H locs a k' n' h1 h2 hR hz hS hL
  exact lv_ior ok.1 ok.2.1 hd (k ok H locs a k' n' h1 h2 hR hz hS hL)
theorem e_ishl {x y : Int32} (hd : decode cc pc = .ok (.ishl, 1)) (k : jV cc own d X b (pc + 1) ls (.int (x <<< (y &&& 31)) :: st) h) : jV cc own d X b (pc) ls (.int y :: .int x :: st) h := by
  obtain ⟨l, g, p, e, R, s, m, args, below, meth, c, Q⟩ := X
  intro ok H locs a k' n' h1 h2 hR hz hS hL
  exact lv_ishl ok.1 ok.2.1 hd (k ok H locs a k' n' h1 h2 hR hz hS hL)
theorem e_ishr {x y : Int32} (hd : decode cc pc = .ok (.ishr, 1)) (k : jV cc own d X b (pc + 1) ls (.int (x >>> (y &&& 31)) :: st) h) : jV cc own d X b (pc) ls (.int y :: .int x :: st) h := by
  obtain ⟨l, g, p, e, R, s, m, args, below, meth, c, Q⟩ := X
  intro ok H locs a k' n' h1 h2 hR hz hS hL
  exact lv_ishr ok.1 ok.2.1 hd (k ok H locs a k' n' h1 h2 hR hz hS hL)
theorem e_iushr {x y : Int32} (hd : decode cc pc = .ok (.iushr, 1)) (k : jV cc own d X b (pc + 1) ls (.int (x.toUInt32 >>> (y.toUInt32 &&& Int32.toUInt32 31)).toInt32 :: st) h) : jV cc own d X b (pc) ls (.int y :: .int x :: st) h := by
  obtain ⟨l, g, p, e, R, s, m, args, below, meth, c, Q⟩ := X
  intro ok H locs a k' n' h1 h2 hR hz hS hL
  exact lv_iushr ok.1 ok.2.1 hd rfl (k ok H locs a k' n' h1 h2 hR hz hS hL)
theorem e_idiv {x y : Int32} (hd : decode cc pc = .ok (.idiv, 1)) (hne : ¬ y = 0) (k : jV cc own d X b (pc + 1) ls (.int (x / y) :: st) h) : jV cc own d X b (pc) ls (.int y :: .int x :: st) h := by
  obtain ⟨l, g, p, e, R, s, m, args, below, meth, c, Q⟩ := X
  intro ok H locs a k' n' h1 h2 hR hz hS hL
  exact lv_idiv ok.1 ok.2.1 hd hne (k ok H locs a k' n' h1 h2 hR hz hS hL)
theorem e_irem {x y : Int32} (hd : decode cc pc = .ok (.irem, 1)) (hne : ¬ y = 0) (k : jV cc own d X b (pc + 1) ls (.int (x - x / y * y) :: st) h) : jV cc own d X b (pc) ls (.int y :: .int x :: st) h := by
  obtain ⟨l, g, p, e, R, s, m, args, below, meth, c, Q⟩ := X
  intro ok H locs a k' n' h1 h2 hR hz hS hL
  exact lv_irem ok.1 ok.2.1 hd hne (k ok H locs a k' n' h1 h2 hR hz hS hL)
theorem e_ineg {x : Int32} (hd : decode cc pc = .ok (.ineg, 1)) (k : jV cc own d X b (pc + 1) ls (.int (-x) :: st) h) : jV cc own d X b (pc) ls (.int x :: st) h := by
  obtain ⟨l, g, p, e, R, s, m, args, below, meth, c, Q⟩ := X
  intro ok H locs a k' n' h1 h2 hR hz hS hL
  exact lv_ineg ok.1 ok.2.1 hd (k ok H locs a k' n' h1 h2 hR hz hS hL)
theorem e_i2b {x : Int32} (hd : decode cc pc = .ok (.i2b, 1)) (k : jV cc own d X b (pc + 1) ls (.int x.toInt8.toInt32 :: st) h) : jV cc own d X b (pc) ls (.int x :: st) h := by
  obtain ⟨l, g, p, e, R, s, m, args, below, meth, c, Q⟩ := X
  intro ok H locs a k' n' h1 h2 hR hz hS hL
  exact lv_i2b ok.1 ok.2.1 hd rfl (k ok H locs a k' n' h1 h2 hR hz hS hL)
theorem e_i2s {x : Int32} (hd : decode cc pc = .ok (.i2s, 1)) (k : jV cc own d X b (pc + 1) ls (.int x.toInt16.toInt32 :: st) h) : jV cc own d X b (pc) ls (.int x :: st) h := by
  obtain ⟨l, g, p, e, R, s, m, args, below, meth, c, Q⟩ := X
  intro ok H locs a k' n' h1 h2 hR hz hS hL
  exact lv_i2s ok.1 ok.2.1 hd rfl (k ok H locs a k' n' h1 h2 hR hz hS hL)
theorem e_i2l {x : Int32} (hd : decode cc pc = .ok (.i2l, 1)) (k : jV cc own d X b (pc + 1) ls (.long x.toInt64 :: st) h) : jV cc own d X b (pc) ls (.int x :: st) h := by
  obtain ⟨l, g, p, e, R, s, m, args, below, meth, c, Q⟩ := X
  intro ok H locs a k' n' h1 h2 hR hz hS hL
  exact lv_i2l ok.1 ok.2.1 hd rfl (k ok H locs a k' n' h1 h2 hR hz hS hL)
theorem e_l2i {x : Int64} (hd : decode cc pc = .ok (.l2i, 1)) (k : jV cc own d X b (pc + 1) ls (.int x.toInt32 :: st) h) : jV cc own d X b (pc) ls (.long x :: st) h := by
  obtain ⟨l, g, p, e, R, s, m, args, below, meth, c, Q⟩ := X
  intro ok H locs a k' n' h1 h2 hR hz hS hL
  exact lv_l2i ok.1 ok.2.1 hd rfl (k ok H locs a k' n' h1 h2 hR hz hS hL)
theorem e_lmul {x y : Int64} (hd : decode cc pc = .ok (.lmul, 1)) (k : jV cc own d X b (pc + 1) ls (.long (x * y) :: st) h) : jV cc own d X b (pc) ls (.long y :: .long x :: st) h := by
  obtain ⟨l, g, p, e, R, s, m, args, below, meth, c, Q⟩ := X
  intro ok H locs a k' n' h1 h2 hR hz hS hL
  exact lv_lmul ok.1 ok.2.1 hd (k ok H locs a k' n' h1 h2 hR hz hS hL)
theorem e_lrem {x y : Int64} (hd : decode cc pc = .ok (.lrem, 1)) (hne : ¬ y = 0) (k : jV cc own d X b (pc + 1) ls (.long (x - x / y * y) :: st) h) : jV cc own d X b (pc) ls (.long y :: .long x :: st) h := by
  obtain ⟨l, g, p, e, R, s, m, args, below, meth, c, Q⟩ := X
  intro ok H locs a k' n' h1 h2 hR hz hS hL
  exact lv_lrem ok.1 ok.2.1 hd hne (k ok H locs a k' n' h1 h2 hR hz hS hL)
theorem e_lcmp {x y : Int64} (hd : decode cc pc = .ok (.lcmp, 1)) (k : jV cc own d X b (pc + 1) ls (.int (lg_cmp x y) :: st) h) : jV cc own d X b (pc) ls (.long y :: .long x :: st) h := by
  obtain ⟨l, g, p, e, R, s, m, args, below, meth, c, Q⟩ := X
  intro ok H locs a k' n' h1 h2 hR hz hS hL
  exact W.lcmp ok.1 ok.2.1 hd (k ok H locs a k' n' h1 h2 hR hz hS hL)
theorem e_iconst {n : Int} (v : Int32) (hd : decode cc pc = .ok (.iconst n, 1)) (hv : Int32.ofInt n = v) (k : jV cc own d X b (pc + 1) ls (.int v :: st) h) : jV cc own d X b (pc) ls (st) h := by
  obtain ⟨l, g, p, e, R, s, m, args, below, meth, c, Q⟩ := X
  intro ok H locs a k' n' h1 h2 hR hz hS hL
  exact lv_iconst ok.1 ok.2.1 hd hv (k ok H locs a k' n' h1 h2 hR hz hS hL)
theorem e_bipush {n : Int} (v : Int32) (hd : decode cc pc = .ok (.bipush n, 2)) (hv : (Int8.ofInt n).toInt32 = v) (k : jV cc own d X b (pc + 2) ls (.int v :: st) h) : jV cc own d X b (pc) ls (st) h := by
  obtain ⟨l, g, p, e, R, s, m, args, below, meth, c, Q⟩ := X
  intro ok H locs a k' n' h1 h2 hR hz hS hL
  exact lv_bipush ok.1 ok.2.1 hd hv (k ok H locs a k' n' h1 h2 hR hz hS hL)
theorem e_sipush {n : Int} (v : Int32) (hd : decode cc pc = .ok (.sipush n, 3)) (hv : (Int16.ofInt n).toInt32 = v) (k : jV cc own d X b (pc + 3) ls (.int v :: st) h) : jV cc own d X b (pc) ls (st) h := by
  obtain ⟨l, g, p, e, R, s, m, args, below, meth, c, Q⟩ := X
  intro ok H locs a k' n' h1 h2 hR hz hS hL
  exact lv_sipush ok.1 ok.2.1 hd hv (k ok H locs a k' n' h1 h2 hR hz hS hL)
theorem e_lconst {n : Fin 2} (v : Int64) (hd : decode cc pc = .ok (.lconst n, 1)) (hv : Int64.ofNat (n : Nat) = v) (k : jV cc own d X b (pc + 1) ls (.long v :: st) h) : jV cc own d X b (pc) ls (st) h := by
  obtain ⟨l, g, p, e, R, s, m, args, below, meth, c, Q⟩ := X
  intro ok H locs a k' n' h1 h2 hR hz hS hL
  exact lv_lconst ok.1 ok.2.1 hd hv (k ok H locs a k' n' h1 h2 hR hz hS hL)
theorem e_ldc {i : Nat} {v : Int32} (hd : decode cc pc = .ok (.ldc i, 2)) (hc : Cond.constant own i v ∈ jT) (k : jV cc own d X b (pc + 2) ls (.int v :: st) h) : jV cc own d X b (pc) ls (st) h := by
  obtain ⟨l, g, p, e, R, s, m, args, below, meth, c, Q⟩ := X
  intro ok H locs a k' n' h1 h2 hR hz hS hL
  exact lv_ldc ok.1 ok.2.1 ok.2.2.1 (ok.2.2.2.1 _ hc) hd (k ok H locs a k' n' h1 h2 hR hz hS hL)
theorem e_ldcw {i : Nat} {v : Int32} (hd : decode cc pc = .ok (.ldc_w i, 3)) (hc : Cond.constant own i v ∈ jT) (k : jV cc own d X b (pc + 3) ls (.int v :: st) h) : jV cc own d X b (pc) ls (st) h := by
  obtain ⟨l, g, p, e, R, s, m, args, below, meth, c, Q⟩ := X
  intro ok H locs a k' n' h1 h2 hR hz hS hL
  exact lv_ldcw ok.1 ok.2.1 ok.2.2.1 (ok.2.2.2.1 _ hc) hd (k ok H locs a k' n' h1 h2 hR hz hS hL)
theorem e_ldc2 {i : Nat} {v : Int64} (hd : decode cc pc = .ok (.ldc2_w i, 3)) (hc : Cond.constantLong own i v ∈ jT) (k : jV cc own d X b (pc + 3) ls (.long v :: st) h) : jV cc own d X b (pc) ls (st) h := by
  obtain ⟨l, g, p, e, R, s, m, args, below, meth, c, Q⟩ := X
  intro ok H locs a k' n' h1 h2 hR hz hS hL
  exact lv_ldc2 ok.1 ok.2.1 ok.2.2.1 (ok.2.2.2.1 _ hc) hd (k ok H locs a k' n' h1 h2 hR hz hS hL)
theorem e_dup {v : Value} (hd : decode cc pc = .ok (.dup, 1)) (hv : v.category = 1) (k : jV cc own d X b (pc + 1) ls (v :: v :: st) h) : jV cc own d X b (pc) ls (v :: st) h := by
  obtain ⟨l, g, p, e, R, s, m, args, below, meth, c, Q⟩ := X
  intro ok H locs a k' n' h1 h2 hR hz hS hL
  exact lv_dup ok.1 ok.2.1 hd (by rw [jval_cat]; exact hv) (k ok H locs a k' n' h1 h2 hR hz hS hL)
theorem e_pop {v : Value} (hd : decode cc pc = .ok (.pop, 1)) (hv : v.category = 1) (k : jV cc own d X b (pc + 1) ls (st) h) : jV cc own d X b (pc) ls (v :: st) h := by
  obtain ⟨l, g, p, e, R, s, m, args, below, meth, c, Q⟩ := X
  intro ok H locs a k' n' h1 h2 hR hz hS hL
  exact lv_pop ok.1 ok.2.1 hd (by rw [jval_cat]; exact hv) (k ok H locs a k' n' h1 h2 hR hz hS hL)
theorem e_dup2 {v w : Value} (hd : decode cc pc = .ok (.dup2, 1)) (hv : v.category = 1) (hw : w.category = 1) (k : jV cc own d X b (pc + 1) ls (v :: w :: v :: w :: st) h) : jV cc own d X b (pc) ls (v :: w :: st) h := by
  obtain ⟨l, g, p, e, R, s, m, args, below, meth, c, Q⟩ := X
  intro ok H locs a k' n' h1 h2 hR hz hS hL
  exact lv_dup2_11 ok.1 ok.2.1 hd (by rw [jval_cat]; exact hv) (by rw [jval_cat]; exact hw) (k ok H locs a k' n' h1 h2 hR hz hS hL)
theorem e_if_eq {x : Int32} {off : Int} (tgt : Nat) (hd : decode cc pc = .ok (.ifCond .eq off, 3)) (ht : (pc : Int) + off = (tgt : Int)) (kt : x = 0 → jV cc own d X b (tgt) ls (st) h) (kf : ¬ x = 0 → jV cc own d X b (pc + 3) ls (st) h) : jV cc own d X b (pc) ls (.int x :: st) h := by
  obtain ⟨l, g, p, e, R, s, m, args, below, meth, c, Q⟩ := X
  intro ok H locs a k' n' h1 h2 hR hz hS hL
  exact lv_if_eq ok.1 ok.2.1 hd ht (fun z => kt z ok H locs a k' n' h1 h2 hR hz hS hL) (fun z => kf z ok H locs a k' n' h1 h2 hR hz hS hL)
theorem e_ic_eq {x y : Int32} {off : Int} (tgt : Nat) (hd : decode cc pc = .ok (.if_icmp .eq off, 3)) (ht : (pc : Int) + off = (tgt : Int)) (kt : x = y → jV cc own d X b (tgt) ls (st) h) (kf : ¬ x = y → jV cc own d X b (pc + 3) ls (st) h) : jV cc own d X b (pc) ls (.int y :: .int x :: st) h := by
  obtain ⟨l, g, p, e, R, s, m, args, below, meth, c, Q⟩ := X
  intro ok H locs a k' n' h1 h2 hR hz hS hL
  exact lv_icmp_eq ok.1 ok.2.1 hd ht (fun z => kt z ok H locs a k' n' h1 h2 hR hz hS hL) (fun z => kf z ok H locs a k' n' h1 h2 hR hz hS hL)
theorem e_if_ne {x : Int32} {off : Int} (tgt : Nat) (hd : decode cc pc = .ok (.ifCond .ne off, 3)) (ht : (pc : Int) + off = (tgt : Int)) (kt : ¬ x = 0 → jV cc own d X b (tgt) ls (st) h) (kf : x = 0 → jV cc own d X b (pc + 3) ls (st) h) : jV cc own d X b (pc) ls (.int x :: st) h := by
  obtain ⟨l, g, p, e, R, s, m, args, below, meth, c, Q⟩ := X
  intro ok H locs a k' n' h1 h2 hR hz hS hL
  exact lv_if_ne ok.1 ok.2.1 hd ht (fun z => kt z ok H locs a k' n' h1 h2 hR hz hS hL) (fun z => kf z ok H locs a k' n' h1 h2 hR hz hS hL)
theorem e_ic_ne {x y : Int32} {off : Int} (tgt : Nat) (hd : decode cc pc = .ok (.if_icmp .ne off, 3)) (ht : (pc : Int) + off = (tgt : Int)) (kt : ¬ x = y → jV cc own d X b (tgt) ls (st) h) (kf : x = y → jV cc own d X b (pc + 3) ls (st) h) : jV cc own d X b (pc) ls (.int y :: .int x :: st) h := by
  obtain ⟨l, g, p, e, R, s, m, args, below, meth, c, Q⟩ := X
  intro ok H locs a k' n' h1 h2 hR hz hS hL
  exact lv_icmp_ne ok.1 ok.2.1 hd ht (fun z => kt z ok H locs a k' n' h1 h2 hR hz hS hL) (fun z => kf z ok H locs a k' n' h1 h2 hR hz hS hL)
theorem e_if_lt {x : Int32} {off : Int} (tgt : Nat) (hd : decode cc pc = .ok (.ifCond .lt off, 3)) (ht : (pc : Int) + off = (tgt : Int)) (kt : x < 0 → jV cc own d X b (tgt) ls (st) h) (kf : ¬ x < 0 → jV cc own d X b (pc + 3) ls (st) h) : jV cc own d X b (pc) ls (.int x :: st) h := by
  obtain ⟨l, g, p, e, R, s, m, args, below, meth, c, Q⟩ := X
  intro ok H locs a k' n' h1 h2 hR hz hS hL
  exact lv_if_lt ok.1 ok.2.1 hd ht (fun z => kt z ok H locs a k' n' h1 h2 hR hz hS hL) (fun z => kf z ok H locs a k' n' h1 h2 hR hz hS hL)
theorem e_ic_lt {x y : Int32} {off : Int} (tgt : Nat) (hd : decode cc pc = .ok (.if_icmp .lt off, 3)) (ht : (pc : Int) + off = (tgt : Int)) (kt : x < y → jV cc own d X b (tgt) ls (st) h) (kf : ¬ x < y → jV cc own d X b (pc + 3) ls (st) h) : jV cc own d X b (pc) ls (.int y :: .int x :: st) h := by
  obtain ⟨l, g, p, e, R, s, m, args, below, meth, c, Q⟩ := X
  intro ok H locs a k' n' h1 h2 hR hz hS hL
  exact lv_icmp_lt ok.1 ok.2.1 hd ht (fun z => kt z ok H locs a k' n' h1 h2 hR hz hS hL) (fun z => kf z ok H locs a k' n' h1 h2 hR hz hS hL)
theorem e_if_ge {x : Int32} {off : Int} (tgt : Nat) (hd : decode cc pc = .ok (.ifCond .ge off, 3)) (ht : (pc : Int) + off = (tgt : Int)) (kt : 0 ≤ x → jV cc own d X b (tgt) ls (st) h) (kf : ¬ 0 ≤ x → jV cc own d X b (pc + 3) ls (st) h) : jV cc own d X b (pc) ls (.int x :: st) h := by
  obtain ⟨l, g, p, e, R, s, m, args, below, meth, c, Q⟩ := X
  intro ok H locs a k' n' h1 h2 hR hz hS hL
  exact lv_if_ge ok.1 ok.2.1 hd ht (fun z => kt z ok H locs a k' n' h1 h2 hR hz hS hL) (fun z => kf z ok H locs a k' n' h1 h2 hR hz hS hL)
theorem e_ic_ge {x y : Int32} {off : Int} (tgt : Nat) (hd : decode cc pc = .ok (.if_icmp .ge off, 3)) (ht : (pc : Int) + off = (tgt : Int)) (kt : y ≤ x → jV cc own d X b (tgt) ls (st) h) (kf : ¬ y ≤ x → jV cc own d X b (pc + 3) ls (st) h) : jV cc own d X b (pc) ls (.int y :: .int x :: st) h := by
  obtain ⟨l, g, p, e, R, s, m, args, below, meth, c, Q⟩ := X
  intro ok H locs a k' n' h1 h2 hR hz hS hL
  exact lv_icmp_ge ok.1 ok.2.1 hd ht (fun z => kt z ok H locs a k' n' h1 h2 hR hz hS hL) (fun z => kf z ok H locs a k' n' h1 h2 hR hz hS hL)
theorem e_if_gt {x : Int32} {off : Int} (tgt : Nat) (hd : decode cc pc = .ok (.ifCond .gt off, 3)) (ht : (pc : Int) + off = (tgt : Int)) (kt : 0 < x → jV cc own d X b (tgt) ls (st) h) (kf : ¬ 0 < x → jV cc own d X b (pc + 3) ls (st) h) : jV cc own d X b (pc) ls (.int x :: st) h := by
  obtain ⟨l, g, p, e, R, s, m, args, below, meth, c, Q⟩ := X
  intro ok H locs a k' n' h1 h2 hR hz hS hL
  exact lv_if_gt ok.1 ok.2.1 hd ht (fun z => kt z ok H locs a k' n' h1 h2 hR hz hS hL) (fun z => kf z ok H locs a k' n' h1 h2 hR hz hS hL)
theorem e_ic_gt {x y : Int32} {off : Int} (tgt : Nat) (hd : decode cc pc = .ok (.if_icmp .gt off, 3)) (ht : (pc : Int) + off = (tgt : Int)) (kt : y < x → jV cc own d X b (tgt) ls (st) h) (kf : ¬ y < x → jV cc own d X b (pc + 3) ls (st) h) : jV cc own d X b (pc) ls (.int y :: .int x :: st) h := by
  obtain ⟨l, g, p, e, R, s, m, args, below, meth, c, Q⟩ := X
  intro ok H locs a k' n' h1 h2 hR hz hS hL
  exact lv_icmp_gt ok.1 ok.2.1 hd ht (fun z => kt z ok H locs a k' n' h1 h2 hR hz hS hL) (fun z => kf z ok H locs a k' n' h1 h2 hR hz hS hL)
theorem e_if_le {x : Int32} {off : Int} (tgt : Nat) (hd : decode cc pc = .ok (.ifCond .le off, 3)) (ht : (pc : Int) + off = (tgt : Int)) (kt : x ≤ 0 → jV cc own d X b (tgt) ls (st) h) (kf : ¬ x ≤ 0 → jV cc own d X b (pc + 3) ls (st) h) : jV cc own d X b (pc) ls (.int x :: st) h := by
  obtain ⟨l, g, p, e, R, s, m, args, below, meth, c, Q⟩ := X
  intro ok H locs a k' n' h1 h2 hR hz hS hL
  exact lv_if_le ok.1 ok.2.1 hd ht (fun z => kt z ok H locs a k' n' h1 h2 hR hz hS hL) (fun z => kf z ok H locs a k' n' h1 h2 hR hz hS hL)
theorem e_ic_le {x y : Int32} {off : Int} (tgt : Nat) (hd : decode cc pc = .ok (.if_icmp .le off, 3)) (ht : (pc : Int) + off = (tgt : Int)) (kt : x ≤ y → jV cc own d X b (tgt) ls (st) h) (kf : ¬ x ≤ y → jV cc own d X b (pc + 3) ls (st) h) : jV cc own d X b (pc) ls (.int y :: .int x :: st) h := by
  obtain ⟨l, g, p, e, R, s, m, args, below, meth, c, Q⟩ := X
  intro ok H locs a k' n' h1 h2 hR hz hS hL
  exact lv_icmp_le ok.1 ok.2.1 hd ht (fun z => kt z ok H locs a k' n' h1 h2 hR hz hS hL) (fun z => kf z ok H locs a k' n' h1 h2 hR hz hS hL)
theorem e_goto {off : Int} (tgt : Nat) (hd : decode cc pc = .ok (.goto off, 3)) (ht : (pc : Int) + off = (tgt : Int)) (k : jV cc own d X b (tgt) ls (st) h) : jV cc own d X b (pc) ls (st) h := by
  obtain ⟨l, g, p, e, R, s, m, args, below, meth, c, Q⟩ := X
  intro ok H locs a k' n' h1 h2 hR hz hS hL
  exact lv_goto ok.1 ok.2.1 hd ht (k ok H locs a k' n' h1 h2 hR hz hS hL)
theorem e_tin {dflt lo hi : Int} {offs : Array Int} {len : Nat} {x : Int32} {off : Int} (tgt : Nat) (hd : decode cc pc = .ok (.tableswitch dflt lo hi offs, len)) (q1 : ¬ x.toInt < lo) (q2 : ¬ hi < x.toInt) (ho : offs[(x.toInt - lo).toNat]? = some off) (ht : (pc : Int) + off = (tgt : Int)) (k : jV cc own d X b (tgt) ls (st) h) : jV cc own d X b (pc) ls (.int x :: st) h := by
  obtain ⟨l, g, p, e, R, s, m, args, below, meth, c, Q⟩ := X
  intro ok H locs a k' n' h1 h2 hR hz hS hL
  exact lv_tableIn ok.1 ok.2.1 hd q1 q2 ho ht (k ok H locs a k' n' h1 h2 hR hz hS hL)
theorem e_tout {dflt lo hi : Int} {offs : Array Int} {len : Nat} {x : Int32} (tgt : Nat) (hd : decode cc pc = .ok (.tableswitch dflt lo hi offs, len)) (q : x.toInt < lo ∨ hi < x.toInt) (ht : (pc : Int) + dflt = (tgt : Int)) (k : jV cc own d X b (tgt) ls (st) h) : jV cc own d X b (pc) ls (.int x :: st) h := by
  obtain ⟨l, g, p, e, R, s, m, args, below, meth, c, Q⟩ := X
  intro ok H locs a k' n' h1 h2 hR hz hS hL
  exact lv_tableOut ok.1 ok.2.1 hd q ht (k ok H locs a k' n' h1 h2 hR hz hS hL)
theorem e_look {dflt : Int} {ps : Array (Int × Int)} {len : Nat} {x : Int32} {off : Int} (tgt : Nat) (hd : decode cc pc = .ok (.lookupswitch dflt ps, len)) (hp : (ps.toList.zip (ps.toList.drop 1)).all (fun (a, next) => a.1 < next.1) = true) (ho : Op.lookupswitch.offset ps.toList dflt x.toInt = off) (ht : (pc : Int) + off = (tgt : Int)) (k : jV cc own d X b (tgt) ls (st) h) : jV cc own d X b (pc) ls (.int x :: st) h := by
  obtain ⟨l, g, p, e, R, s, m, args, below, meth, c, Q⟩ := X
  intro ok H locs a k' n' h1 h2 hR hz hS hL
  exact lv_lookup ok.1 ok.2.1 hd hp ho ht (k ok H locs a k' n' h1 h2 hR hz hS hL)
theorem eg_iload_n {q : Fin 4} {x : Int32} (hd : decode cc pc = .ok (.iload_n q, 1)) (hl : ls[(q : Nat)]? = some (some (.int x))) (k : jV cc own d X b (pc + 1) ls (.int x :: st) h) : jV cc own d X b (pc) ls (st) h := by
  obtain ⟨l, g, p, e, R, s, m, args, below, meth, c, Q⟩ := X
  intro ok H locs a k' n' h1 h2 hR hz hS hL
  exact lv_iload_n ok.1 ok.2.1 hd rfl (jL_at hL hl) (k ok H locs a k' n' h1 h2 hR hz hS hL)
theorem eg_aload_n {q : Fin 4} {x : Nat} (hd : decode cc pc = .ok (.aload_n q, 1)) (hl : ls[(q : Nat)]? = some (some (.ref x))) (k : jV cc own d X b (pc + 1) ls (.ref x :: st) h) : jV cc own d X b (pc) ls (st) h := by
  obtain ⟨l, g, p, e, R, s, m, args, below, meth, c, Q⟩ := X
  intro ok H locs a k' n' h1 h2 hR hz hS hL
  exact lv_aload_n ok.1 ok.2.1 hd rfl (jL_at hL hl) (k ok H locs a k' n' h1 h2 hR hz hS hL)
theorem eg_iload {q : Nat} {x : Int32} (hd : decode cc pc = .ok (.iload q, 2)) (hl : ls[q]? = some (some (.int x))) (k : jV cc own d X b (pc + 2) ls (.int x :: st) h) : jV cc own d X b (pc) ls (st) h := by
  obtain ⟨l, g, p, e, R, s, m, args, below, meth, c, Q⟩ := X
  intro ok H locs a k' n' h1 h2 hR hz hS hL
  exact lv_iload ok.1 ok.2.1 hd (jL_at hL hl) (k ok H locs a k' n' h1 h2 hR hz hS hL)
theorem eg_aload {q : Nat} {x : Nat} (hd : decode cc pc = .ok (.aload q, 2)) (hl : ls[q]? = some (some (.ref x))) (k : jV cc own d X b (pc + 2) ls (.ref x :: st) h) : jV cc own d X b (pc) ls (st) h := by
  obtain ⟨l, g, p, e, R, s, m, args, below, meth, c, Q⟩ := X
  intro ok H locs a k' n' h1 h2 hR hz hS hL
  exact lv_aload ok.1 ok.2.1 hd (jL_at hL hl) (k ok H locs a k' n' h1 h2 hR hz hS hL)
theorem eg_lload {q : Nat} {x : Int64} (hd : decode cc pc = .ok (.lload q, 2)) (hl : ls[q]? = some (some (.long x))) (k : jV cc own d X b (pc + 2) ls (.long x :: st) h) : jV cc own d X b (pc) ls (st) h := by
  obtain ⟨l, g, p, e, R, s, m, args, below, meth, c, Q⟩ := X
  intro ok H locs a k' n' h1 h2 hR hz hS hL
  exact lv_lload ok.1 ok.2.1 hd (jL_at hL hl) (k ok H locs a k' n' h1 h2 hR hz hS hL)
theorem eg_istore_n {q : Fin 4} {x : Int32} (hd : decode cc pc = .ok (.istore_n q, 1)) (hi : (q : Nat) < ls.length) (hn : ∀ j : Nat, j + 1 = (q : Nat) → ∀ w : Value, ls[j]? = some (some w) → w.category = 1) (k : jV cc own d X b (pc + 1) (ls.set (q : Nat) (some (.int x))) (st) h) : jV cc own d X b (pc) ls (.int x :: st) h := by
  obtain ⟨l, g, p, e, R, s, m, args, below, meth, c, Q⟩ := X
  intro ok H locs a k' n' h1 h2 hR hz hS hL
  exact lv_istore_n ok.1 ok.2.1 hd rfl hL.2 (by rw [← hL.1]; exact hi) rfl (fun a' h' => k ok H locs a' k' n' h1 h2 hR hz hS (jL_set1 (v := .int x) hL hi hn h'))
theorem eg_istore {q : Nat} {x : Int32} (hd : decode cc pc = .ok (.istore q, 2)) (hi : q < ls.length) (hn : ∀ j : Nat, j + 1 = (q : Nat) → ∀ w : Value, ls[j]? = some (some w) → w.category = 1) (k : jV cc own d X b (pc + 2) (ls.set q (some (.int x))) (st) h) : jV cc own d X b (pc) ls (.int x :: st) h := by
  obtain ⟨l, g, p, e, R, s, m, args, below, meth, c, Q⟩ := X
  intro ok H locs a k' n' h1 h2 hR hz hS hL
  exact lv_istore ok.1 ok.2.1 hd hL.2 (by rw [← hL.1]; exact hi) rfl (fun a' h' => k ok H locs a' k' n' h1 h2 hR hz hS (jL_set1 (v := .int x) hL hi hn h'))
theorem eg_astore_n {q : Fin 4} {x : Nat} (hd : decode cc pc = .ok (.astore_n q, 1)) (hi : (q : Nat) < ls.length) (hn : ∀ j : Nat, j + 1 = (q : Nat) → ∀ w : Value, ls[j]? = some (some w) → w.category = 1) (k : jV cc own d X b (pc + 1) (ls.set (q : Nat) (some (.ref x))) (st) h) : jV cc own d X b (pc) ls (.ref x :: st) h := by
  obtain ⟨l, g, p, e, R, s, m, args, below, meth, c, Q⟩ := X
  intro ok H locs a k' n' h1 h2 hR hz hS hL
  exact lv_astore_n ok.1 ok.2.1 hd rfl hL.2 (by rw [← hL.1]; exact hi) rfl (fun a' h' => k ok H locs a' k' n' h1 h2 hR hz hS (jL_set1 (v := .ref x) hL hi hn h'))
theorem eg_astore {q : Nat} {x : Nat} (hd : decode cc pc = .ok (.astore q, 2)) (hi : q < ls.length) (hn : ∀ j : Nat, j + 1 = (q : Nat) → ∀ w : Value, ls[j]? = some (some w) → w.category = 1) (k : jV cc own d X b (pc + 2) (ls.set q (some (.ref x))) (st) h) : jV cc own d X b (pc) ls (.ref x :: st) h := by
  obtain ⟨l, g, p, e, R, s, m, args, below, meth, c, Q⟩ := X
  intro ok H locs a k' n' h1 h2 hR hz hS hL
  exact lv_astore ok.1 ok.2.1 hd hL.2 (by rw [← hL.1]; exact hi) rfl (fun a' h' => k ok H locs a' k' n' h1 h2 hR hz hS (jL_set1 (v := .ref x) hL hi hn h'))
theorem jL_set2 {g : jG} {c : Code} {ls : List (Option Value)} {a a' : Array Slot} {i : Nat} {x : Int64} (h : jL g c ls a) (hi : i + 1 < ls.length) (hn : ∀ j : Nat, j + 1 = i → ∀ w : Value, ls[j]? = some (some w) → w.category = 1)
    (h' : lv_has a' c.maxLocals ((i, Value.long x) :: (jal g ls).filter (fun q => !(q.1 == i) && (!(q.1 == i + 1) && !(q.1 + 1 == i && q.2.category == 2))))) : jL g c ((ls.set i (some (.long x))).set (i + 1) none) a' := by
  refine ⟨by simp; exact h.1, h'.1, h'.2.1, fun q hq => ?_⟩
  obtain ⟨w, hw, e⟩ := jal_of hq
  refine h'.2.2 q ?_
  have n1 : ¬ i + 1 = q.1 := fun z => by
    rw [← z, List.getElem?_set_self (by simp; omega)] at hw
    cases hw
  rw [List.getElem?_set_ne n1] at hw
  by_cases hk : i = q.1
  · rw [← hk, List.getElem?_set_self (by omega)] at hw
    cases hw
    exact List.mem_cons.mpr (Or.inl (Prod.ext hk.symm e))
  · rw [List.getElem?_set_ne hk] at hw
    refine List.mem_cons_of_mem _ (List.mem_filter.mpr ⟨?_, ?_⟩)
    · have := jal_mem (g := g) hw
      rw [← e] at this
      exact this
    · have hc : q.1 + 1 = i → (q.2).category = 1 := fun z => by rw [e, jval_cat]; exact hn q.1 z w hw
      simp only [Bool.and_eq_true, Bool.not_eq_true', beq_eq_false_iff_ne, ne_eq, Bool.and_eq_false_iff]
      refine ⟨fun z => hk z.symm, fun z => n1 z.symm, ?_⟩
      by_cases z : q.1 + 1 = i
      · exact Or.inr (by rw [hc z]; decide)
      · exact Or.inl z
theorem eg_lstore {q : Nat} {x : Int64} (hd : decode cc pc = .ok (.lstore q, 2)) (hi : q + 1 < ls.length) (hn : ∀ j : Nat, j + 1 = (q : Nat) → ∀ w : Value, ls[j]? = some (some w) → w.category = 1) (k : jV cc own d X b (pc + 2) ((ls.set q (some (.long x))).set (q + 1) none) (st) h) : jV cc own d X b (pc) ls (.long x :: st) h := by
  obtain ⟨l, g, p, e, R, s, m, args, below, meth, c, Q⟩ := X
  intro ok H locs a k' n' h1 h2 hR hz hS hL
  exact lv_lstore ok.1 ok.2.1 hd hL.2 (by rw [← hL.1]; exact hi) rfl (fun a' h' => k ok H locs a' k' n' h1 h2 hR hz hS (jL_set2 hL hi hn h'))
theorem eg_iinc {q : Nat} {n : Int} {x v : Int32} (hd : decode cc pc = .ok (.iinc q n, 3)) (hl : ls[q]? = some (some (.int x))) (hv : x + Int32.ofInt n = v) (hn : ∀ j : Nat, j + 1 = (q : Nat) → ∀ w : Value, ls[j]? = some (some w) → w.category = 1) (k : jV cc own d X b (pc + 3) (ls.set q (some (.int v))) (st) h) : jV cc own d X b (pc) ls (st) h := by
  obtain ⟨l, g, p, e, R, s, m, args, below, meth, c, Q⟩ := X
  intro ok H locs a k' n' h1 h2 hR hz hS hL
  obtain ⟨j, hj⟩ := List.getElem?_of_mem (jal_mem (g := g) hl)
  have hi : q < ls.length := (List.getElem?_eq_some_iff.mp hl).1
  exact lv_iinc (k := j) ok.1 ok.2.1 hd hL.2 hj hv (by rw [← hL.1]; exact hi) rfl (fun a' h' => k ok H locs a' k' n' h1 h2 hR hz hS (jL_set1 (v := .int v) hL hi hn h'))
end JR
theorem jn_at {ls : List (Option Value)} {i : Nat} {l : Option Value} (hi : ls[i]? = some l) (hn : jnl l = true) : ∀ j : Nat, j + 1 = i + 1 → ∀ w : Value, ls[j]? = some (some w) → w.category = 1 := by
  intro j hj w hw
  have z : j = i := by omega
  subst z
  have e : some l = some (some w) := hi.symm.trans hw
  cases e
  exact jnl_cat hn
theorem jn_0 {ls : List (Option Value)} : ∀ j : Nat, j + 1 = 0 → ∀ w : Value, ls[j]? = some (some w) → w.category = 1 := fun j hj => by omega
section JP
variable {cc : ByteArray} {own : String} {d : Nat} {X : jX} {b : jB} {pc : Nat} {r : List (Option Value)} {st : List Value} {h : jH}
theorem e_il0 {x : Int32} (hd : decode cc pc = .ok (.iload_n 0, 1)) (k : jV cc own d X b (pc + 1) (some (.int x) :: r) (.int x :: st) h) : jV cc own d X b pc (some (.int x) :: r) st h := eg_iload_n hd rfl k
theorem e_al0 {x : Nat} (hd : decode cc pc = .ok (.aload_n 0, 1)) (k : jV cc own d X b (pc + 1) (some (.ref x) :: r) (.ref x :: st) h) : jV cc own d X b pc (some (.ref x) :: r) st h := eg_aload_n hd rfl k
theorem e_is0 {z : Option Value} {x : Int32} (hd : decode cc pc = .ok (.istore_n 0, 1)) (k : jV cc own d X b (pc + 1) (some (.int x) :: r) st h) : jV cc own d X b pc (z :: r) (.int x :: st) h := eg_istore_n hd (by show 0 < List.length _; simp only [List.length_cons]; omega) (jn_0) k
theorem e_as0 {z : Option Value} {x : Nat} (hd : decode cc pc = .ok (.astore_n 0, 1)) (k : jV cc own d X b (pc + 1) (some (.ref x) :: r) st h) : jV cc own d X b pc (z :: r) (.ref x :: st) h := eg_astore_n hd (by show 0 < List.length _; simp only [List.length_cons]; omega) (jn_0) k
theorem e_inc0 {n : Int} {x : Int32} (c : Int32) (hd : decode cc pc = .ok (.iinc 0 n, 3)) (hc : Int32.ofInt n = c) (k : jV cc own d X b (pc + 3) (some (.int (x + c)) :: r) st h) : jV cc own d X b pc (some (.int x) :: r) st h := eg_iinc (v := x + c) hd rfl (by rw [hc]) (jn_0) k
theorem e_il1 {l0 : Option Value} {x : Int32} (hd : decode cc pc = .ok (.iload_n 1, 1)) (k : jV cc own d X b (pc + 1) (l0 :: some (.int x) :: r) (.int x :: st) h) : jV cc own d X b pc (l0 :: some (.int x) :: r) st h := eg_iload_n hd rfl k
theorem e_al1 {l0 : Option Value} {x : Nat} (hd : decode cc pc = .ok (.aload_n 1, 1)) (k : jV cc own d X b (pc + 1) (l0 :: some (.ref x) :: r) (.ref x :: st) h) : jV cc own d X b pc (l0 :: some (.ref x) :: r) st h := eg_aload_n hd rfl k
theorem e_is1 {l0 : Option Value} {z : Option Value} {x : Int32} (hd : decode cc pc = .ok (.istore_n 1, 1)) (hn : jnl l0 = true) (k : jV cc own d X b (pc + 1) (l0 :: some (.int x) :: r) st h) : jV cc own d X b pc (l0 :: z :: r) (.int x :: st) h := eg_istore_n hd (by show 1 < List.length _; simp only [List.length_cons]; omega) (jn_at (i := 0) rfl hn) k
theorem e_as1 {l0 : Option Value} {z : Option Value} {x : Nat} (hd : decode cc pc = .ok (.astore_n 1, 1)) (hn : jnl l0 = true) (k : jV cc own d X b (pc + 1) (l0 :: some (.ref x) :: r) st h) : jV cc own d X b pc (l0 :: z :: r) (.ref x :: st) h := eg_astore_n hd (by show 1 < List.length _; simp only [List.length_cons]; omega) (jn_at (i := 0) rfl hn) k
theorem e_inc1 {l0 : Option Value} {n : Int} {x : Int32} (c : Int32) (hd : decode cc pc = .ok (.iinc 1 n, 3)) (hc : Int32.ofInt n = c) (hn : jnl l0 = true) (k : jV cc own d X b (pc + 3) (l0 :: some (.int (x + c)) :: r) st h) : jV cc own d X b pc (l0 :: some (.int x) :: r) st h := eg_iinc (v := x + c) hd rfl (by rw [hc]) (jn_at (i := 0) rfl hn) k
theorem e_il2 {l0 l1 : Option Value} {x : Int32} (hd : decode cc pc = .ok (.iload_n 2, 1)) (k : jV cc own d X b (pc + 1) (l0 :: l1 :: some (.int x) :: r) (.int x :: st) h) : jV cc own d X b pc (l0 :: l1 :: some (.int x) :: r) st h := eg_iload_n hd rfl k
theorem e_al2 {l0 l1 : Option Value} {x : Nat} (hd : decode cc pc = .ok (.aload_n 2, 1)) (k : jV cc own d X b (pc + 1) (l0 :: l1 :: some (.ref x) :: r) (.ref x :: st) h) : jV cc own d X b pc (l0 :: l1 :: some (.ref x) :: r) st h := eg_aload_n hd rfl k
theorem e_is2 {l0 l1 : Option Value} {z : Option Value} {x : Int32} (hd : decode cc pc = .ok (.istore_n 2, 1)) (hn : jnl l1 = true) (k : jV cc own d X b (pc + 1) (l0 :: l1 :: some (.int x) :: r) st h) : jV cc own d X b pc (l0 :: l1 :: z :: r) (.int x :: st) h := eg_istore_n hd (by show 2 < List.length _; simp only [List.length_cons]; omega) (jn_at (i := 1) rfl hn) k
theorem e_as2 {l0 l1 : Option Value} {z : Option Value} {x : Nat} (hd : decode cc pc = .ok (.astore_n 2, 1)) (hn : jnl l1 = true) (k : jV cc own d X b (pc + 1) (l0 :: l1 :: some (.ref x) :: r) st h) : jV cc own d X b pc (l0 :: l1 :: z :: r) (.ref x :: st) h := eg_astore_n hd (by show 2 < List.length _; simp only [List.length_cons]; omega) (jn_at (i := 1) rfl hn) k
theorem e_inc2 {l0 l1 : Option Value} {n : Int} {x : Int32} (c : Int32) (hd : decode cc pc = .ok (.iinc 2 n, 3)) (hc : Int32.ofInt n = c) (hn : jnl l1 = true) (k : jV cc own d X b (pc + 3) (l0 :: l1 :: some (.int (x + c)) :: r) st h) : jV cc own d X b pc (l0 :: l1 :: some (.int x) :: r) st h := eg_iinc (v := x + c) hd rfl (by rw [hc]) (jn_at (i := 1) rfl hn) k
theorem e_il3 {l0 l1 l2 : Option Value} {x : Int32} (hd : decode cc pc = .ok (.iload_n 3, 1)) (k : jV cc own d X b (pc + 1) (l0 :: l1 :: l2 :: some (.int x) :: r) (.int x :: st) h) : jV cc own d X b pc (l0 :: l1 :: l2 :: some (.int x) :: r) st h := eg_iload_n hd rfl k
theorem e_al3 {l0 l1 l2 : Option Value} {x : Nat} (hd : decode cc pc = .ok (.aload_n 3, 1)) (k : jV cc own d X b (pc + 1) (l0 :: l1 :: l2 :: some (.ref x) :: r) (.ref x :: st) h) : jV cc own d X b pc (l0 :: l1 :: l2 :: some (.ref x) :: r) st h := eg_aload_n hd rfl k
theorem e_is3 {l0 l1 l2 : Option Value} {z : Option Value} {x : Int32} (hd : decode cc pc = .ok (.istore_n 3, 1)) (hn : jnl l2 = true) (k : jV cc own d X b (pc + 1) (l0 :: l1 :: l2 :: some (.int x) :: r) st h) : jV cc own d X b pc (l0 :: l1 :: l2 :: z :: r) (.int x :: st) h := eg_istore_n hd (by show 3 < List.length _; simp only [List.length_cons]; omega) (jn_at (i := 2) rfl hn) k
theorem e_as3 {l0 l1 l2 : Option Value} {z : Option Value} {x : Nat} (hd : decode cc pc = .ok (.astore_n 3, 1)) (hn : jnl l2 = true) (k : jV cc own d X b (pc + 1) (l0 :: l1 :: l2 :: some (.ref x) :: r) st h) : jV cc own d X b pc (l0 :: l1 :: l2 :: z :: r) (.ref x :: st) h := eg_astore_n hd (by show 3 < List.length _; simp only [List.length_cons]; omega) (jn_at (i := 2) rfl hn) k
theorem e_inc3 {l0 l1 l2 : Option Value} {n : Int} {x : Int32} (c : Int32) (hd : decode cc pc = .ok (.iinc 3 n, 3)) (hc : Int32.ofInt n = c) (hn : jnl l2 = true) (k : jV cc own d X b (pc + 3) (l0 :: l1 :: l2 :: some (.int (x + c)) :: r) st h) : jV cc own d X b pc (l0 :: l1 :: l2 :: some (.int x) :: r) st h := eg_iinc (v := x + c) hd rfl (by rw [hc]) (jn_at (i := 2) rfl hn) k
theorem e_il4 {l0 l1 l2 l3 : Option Value} {x : Int32} (hd : decode cc pc = .ok (.iload 4, 2)) (k : jV cc own d X b (pc + 2) (l0 :: l1 :: l2 :: l3 :: some (.int x) :: r) (.int x :: st) h) : jV cc own d X b pc (l0 :: l1 :: l2 :: l3 :: some (.int x) :: r) st h := eg_iload hd rfl k
theorem e_al4 {l0 l1 l2 l3 : Option Value} {x : Nat} (hd : decode cc pc = .ok (.aload 4, 2)) (k : jV cc own d X b (pc + 2) (l0 :: l1 :: l2 :: l3 :: some (.ref x) :: r) (.ref x :: st) h) : jV cc own d X b pc (l0 :: l1 :: l2 :: l3 :: some (.ref x) :: r) st h := eg_aload hd rfl k
theorem e_is4 {l0 l1 l2 l3 : Option Value} {z : Option Value} {x : Int32} (hd : decode cc pc = .ok (.istore 4, 2)) (hn : jnl l3 = true) (k : jV cc own d X b (pc + 2) (l0 :: l1 :: l2 :: l3 :: some (.int x) :: r) st h) : jV cc own d X b pc (l0 :: l1 :: l2 :: l3 :: z :: r) (.int x :: st) h := eg_istore hd (by show 4 < List.length _; simp only [List.length_cons]; omega) (jn_at (i := 3) rfl hn) k
theorem e_as4 {l0 l1 l2 l3 : Option Value} {z : Option Value} {x : Nat} (hd : decode cc pc = .ok (.astore 4, 2)) (hn : jnl l3 = true) (k : jV cc own d X b (pc + 2) (l0 :: l1 :: l2 :: l3 :: some (.ref x) :: r) st h) : jV cc own d X b pc (l0 :: l1 :: l2 :: l3 :: z :: r) (.ref x :: st) h := eg_astore hd (by show 4 < List.length _; simp only [List.length_cons]; omega) (jn_at (i := 3) rfl hn) k
theorem e_inc4 {l0 l1 l2 l3 : Option Value} {n : Int} {x : Int32} (c : Int32) (hd : decode cc pc = .ok (.iinc 4 n, 3)) (hc : Int32.ofInt n = c) (hn : jnl l3 = true) (k : jV cc own d X b (pc + 3) (l0 :: l1 :: l2 :: l3 :: some (.int (x + c)) :: r) st h) : jV cc own d X b pc (l0 :: l1 :: l2 :: l3 :: some (.int x) :: r) st h := eg_iinc (v := x + c) hd rfl (by rw [hc]) (jn_at (i := 3) rfl hn) k
theorem e_ll4 {l0 l1 l2 l3 : Option Value} {x : Int64} (hd : decode cc pc = .ok (.lload 4, 2)) (k : jV cc own d X b (pc + 2) (l0 :: l1 :: l2 :: l3 :: some (.long x) :: r) (.long x :: st) h) : jV cc own d X b pc (l0 :: l1 :: l2 :: l3 :: some (.long x) :: r) st h := eg_lload hd rfl k
theorem e_ls4 {l0 l1 l2 l3 : Option Value} {z z2 : Option Value} {x : Int64} (hd : decode cc pc = .ok (.lstore 4, 2)) (hn : jnl l3 = true) (k : jV cc own d X b (pc + 2) (l0 :: l1 :: l2 :: l3 :: some (.long x) :: none :: r) st h) : jV cc own d X b pc (l0 :: l1 :: l2 :: l3 :: z :: z2 :: r) (.long x :: st) h := eg_lstore hd (by show 4 + 1 < List.length _; simp only [List.length_cons]; omega) (jn_at (i := 3) rfl hn) k
theorem e_il5 {l0 l1 l2 l3 l4 : Option Value} {x : Int32} (hd : decode cc pc = .ok (.iload 5, 2)) (k : jV cc own d X b (pc + 2) (l0 :: l1 :: l2 :: l3 :: l4 :: some (.int x) :: r) (.int x :: st) h) : jV cc own d X b pc (l0 :: l1 :: l2 :: l3 :: l4 :: some (.int x) :: r) st h := eg_iload hd rfl k
theorem e_al5 {l0 l1 l2 l3 l4 : Option Value} {x : Nat} (hd : decode cc pc = .ok (.aload 5, 2)) (k : jV cc own d X b (pc + 2) (l0 :: l1 :: l2 :: l3 :: l4 :: some (.ref x) :: r) (.ref x :: st) h) : jV cc own d X b pc (l0 :: l1 :: l2 :: l3 :: l4 :: some (.ref x) :: r) st h := eg_aload hd rfl k
theorem e_is5 {l0 l1 l2 l3 l4 : Option Value} {z : Option Value} {x : Int32} (hd : decode cc pc = .ok (.istore 5, 2)) (hn : jnl l4 = true) (k : jV cc own d X b (pc + 2) (l0 :: l1 :: l2 :: l3 :: l4 :: some (.int x) :: r) st h) : jV cc own d X b pc (l0 :: l1 :: l2 :: l3 :: l4 :: z :: r) (.int x :: st) h := eg_istore hd (by show 5 < List.length _; simp only [List.length_cons]; omega) (jn_at (i := 4) rfl hn) k
theorem e_as5 {l0 l1 l2 l3 l4 : Option Value} {z : Option Value} {x : Nat} (hd : decode cc pc = .ok (.astore 5, 2)) (hn : jnl l4 = true) (k : jV cc own d X b (pc + 2) (l0 :: l1 :: l2 :: l3 :: l4 :: some (.ref x) :: r) st h) : jV cc own d X b pc (l0 :: l1 :: l2 :: l3 :: l4 :: z :: r) (.ref x :: st) h := eg_astore hd (by show 5 < List.length _; simp only [List.length_cons]; omega) (jn_at (i := 4) rfl hn) k
theorem e_inc5 {l0 l1 l2 l3 l4 : Option Value} {n : Int} {x : Int32} (c : Int32) (hd : decode cc pc = .ok (.iinc 5 n, 3)) (hc : Int32.ofInt n = c) (hn : jnl l4 = true) (k : jV cc own d X b (pc + 3) (l0 :: l1 :: l2 :: l3 :: l4 :: some (.int (x + c)) :: r) st h) : jV cc own d X b pc (l0 :: l1 :: l2 :: l3 :: l4 :: some (.int x) :: r) st h := eg_iinc (v := x + c) hd rfl (by rw [hc]) (jn_at (i := 4) rfl hn) k
theorem e_ll5 {l0 l1 l2 l3 l4 : Option Value} {x : Int64} (hd : decode cc pc = .ok (.lload 5, 2)) (k : jV cc own d X b (pc + 2) (l0 :: l1 :: l2 :: l3 :: l4 :: some (.long x) :: r) (.long x :: st) h) : jV cc own d X b pc (l0 :: l1 :: l2 :: l3 :: l4 :: some (.long x) :: r) st h := eg_lload hd rfl k
theorem e_ls5 {l0 l1 l2 l3 l4 : Option Value} {z z2 : Option Value} {x : Int64} (hd : decode cc pc = .ok (.lstore 5, 2)) (hn : jnl l4 = true) (k : jV cc own d X b (pc + 2) (l0 :: l1 :: l2 :: l3 :: l4 :: some (.long x) :: none :: r) st h) : jV cc own d X b pc (l0 :: l1 :: l2 :: l3 :: l4 :: z :: z2 :: r) (.long x :: st) h := eg_lstore hd (by show 5 + 1 < List.length _; simp only [List.length_cons]; omega) (jn_at (i := 4) rfl hn) k
theorem e_il6 {l0 l1 l2 l3 l4 l5 : Option Value} {x : Int32} (hd : decode cc pc = .ok (.iload 6, 2)) (k : jV cc own d X b (pc + 2) (l0 :: l1 :: l2 :: l3 :: l4 :: l5 :: some (.int x) :: r) (.int x :: st) h) : jV cc own d X b pc (l0 :: l1 :: l2 :: l3 :: l4 :: l5 :: some (.int x) :: r) st h := eg_iload hd rfl k
theorem e_al6 {l0 l1 l2 l3 l4 l5 : Option Value} {x : Nat} (hd : decode cc pc = .ok (.aload 6, 2)) (k : jV cc own d X b (pc + 2) (l0 :: l1 :: l2 :: l3 :: l4 :: l5 :: some (.ref x) :: r) (.ref x :: st) h) : jV cc own d X b pc (l0 :: l1 :: l2 :: l3 :: l4 :: l5 :: some (.ref x) :: r) st h := eg_aload hd rfl k
theorem e_is6 {l0 l1 l2 l3 l4 l5 : Option Value} {z : Option Value} {x : Int32} (hd : decode cc pc = .ok (.istore 6, 2)) (hn : jnl l5 = true) (k : jV cc own d X b (pc + 2) (l0 :: l1 :: l2 :: l3 :: l4 :: l5 :: some (.int x) :: r) st h) : jV cc own d X b pc (l0 :: l1 :: l2 :: l3 :: l4 :: l5 :: z :: r) (.int x :: st) h := eg_istore hd (by show 6 < List.length _; simp only [List.length_cons]; omega) (jn_at (i := 5) rfl hn) k
theorem e_as6 {l0 l1 l2 l3 l4 l5 : Option Value} {z : Option Value} {x : Nat} (hd : decode cc pc = .ok (.astore 6, 2)) (hn : jnl l5 = true) (k : jV cc own d X b (pc + 2) (l0 :: l1 :: l2 :: l3 :: l4 :: l5 :: some (.ref x) :: r) st h) : jV cc own d X b pc (l0 :: l1 :: l2 :: l3 :: l4 :: l5 :: z :: r) (.ref x :: st) h := eg_astore hd (by show 6 < List.length _; simp only [List.length_cons]; omega) (jn_at (i := 5) rfl hn) k
theorem e_inc6 {l0 l1 l2 l3 l4 l5 : Option Value} {n : Int} {x : Int32} (c : Int32) (hd : decode cc pc = .ok (.iinc 6 n, 3)) (hc : Int32.ofInt n = c) (hn : jnl l5 = true) (k : jV cc own d X b (pc + 3) (l0 :: l1 :: l2 :: l3 :: l4 :: l5 :: some (.int (x + c)) :: r) st h) : jV cc own d X b pc (l0 :: l1 :: l2 :: l3 :: l4 :: l5 :: some (.int x) :: r) st h := eg_iinc (v := x + c) hd rfl (by rw [hc]) (jn_at (i := 5) rfl hn) k
theorem e_ll6 {l0 l1 l2 l3 l4 l5 : Option Value} {x : Int64} (hd : decode cc pc = .ok (.lload 6, 2)) (k : jV cc own d X b (pc + 2) (l0 :: l1 :: l2 :: l3 :: l4 :: l5 :: some (.long x) :: r) (.long x :: st) h) : jV cc own d X b pc (l0 :: l1 :: l2 :: l3 :: l4 :: l5 :: some (.long x) :: r) st h := eg_lload hd rfl k
theorem e_ls6 {l0 l1 l2 l3 l4 l5 : Option Value} {z z2 : Option Value} {x : Int64} (hd : decode cc pc = .ok (.lstore 6, 2)) (hn : jnl l5 = true) (k : jV cc own d X b (pc + 2) (l0 :: l1 :: l2 :: l3 :: l4 :: l5 :: some (.long x) :: none :: r) st h) : jV cc own d X b pc (l0 :: l1 :: l2 :: l3 :: l4 :: l5 :: z :: z2 :: r) (.long x :: st) h := eg_lstore hd (by show 6 + 1 < List.length _; simp only [List.length_cons]; omega) (jn_at (i := 5) rfl hn) k
theorem e_il7 {l0 l1 l2 l3 l4 l5 l6 : Option Value} {x : Int32} (hd : decode cc pc = .ok (.iload 7, 2)) (k : jV cc own d X b (pc + 2) (l0 :: l1 :: l2 :: l3 :: l4 :: l5 :: l6 :: some (.int x) :: r) (.int x :: st) h) : jV cc own d X b pc (l0 :: l1 :: l2 :: l3 :: l4 :: l5 :: l6 :: some (.int x) :: r) st h := eg_iload hd rfl k
theorem e_al7 {l0 l1 l2 l3 l4 l5 l6 : Option Value} {x : Nat} (hd : decode cc pc = .ok (.aload 7, 2)) (k : jV cc own d X b (pc + 2) (l0 :: l1 :: l2 :: l3 :: l4 :: l5 :: l6 :: some (.ref x) :: r) (.ref x :: st) h) : jV cc own d X b pc (l0 :: l1 :: l2 :: l3 :: l4 :: l5 :: l6 :: some (.ref x) :: r) st h := eg_aload hd rfl k
theorem e_is7 {l0 l1 l2 l3 l4 l5 l6 : Option Value} {z : Option Value} {x : Int32} (hd : decode cc pc = .ok (.istore 7, 2)) (hn : jnl l6 = true) (k : jV cc own d X b (pc + 2) (l0 :: l1 :: l2 :: l3 :: l4 :: l5 :: l6 :: some (.int x) :: r) st h) : jV cc own d X b pc (l0 :: l1 :: l2 :: l3 :: l4 :: l5 :: l6 :: z :: r) (.int x :: st) h := eg_istore hd (by show 7 < List.length _; simp only [List.length_cons]; omega) (jn_at (i := 6) rfl hn) k
theorem e_as7 {l0 l1 l2 l3 l4 l5 l6 : Option Value} {z : Option Value} {x : Nat} (hd : decode cc pc = .ok (.astore 7, 2)) (hn : jnl l6 = true) (k : jV cc own d X b (pc + 2) (l0 :: l1 :: l2 :: l3 :: l4 :: l5 :: l6 :: some (.ref x) :: r) st h) : jV cc own d X b pc (l0 :: l1 :: l2 :: l3 :: l4 :: l5 :: l6 :: z :: r) (.ref x :: st) h := eg_astore hd (by show 7 < List.length _; simp only [List.length_cons]; omega) (jn_at (i := 6) rfl hn) k
theorem e_inc7 {l0 l1 l2 l3 l4 l5 l6 : Option Value} {n : Int} {x : Int32} (c : Int32) (hd : decode cc pc = .ok (.iinc 7 n, 3)) (hc : Int32.ofInt n = c) (hn : jnl l6 = true) (k : jV cc own d X b (pc + 3) (l0 :: l1 :: l2 :: l3 :: l4 :: l5 :: l6 :: some (.int (x + c)) :: r) st h) : jV cc own d X b pc (l0 :: l1 :: l2 :: l3 :: l4 :: l5 :: l6 :: some (.int x) :: r) st h := eg_iinc (v := x + c) hd rfl (by rw [hc]) (jn_at (i := 6) rfl hn) k
theorem e_ll7 {l0 l1 l2 l3 l4 l5 l6 : Option Value} {x : Int64} (hd : decode cc pc = .ok (.lload 7, 2)) (k : jV cc own d X b (pc + 2) (l0 :: l1 :: l2 :: l3 :: l4 :: l5 :: l6 :: some (.long x) :: r) (.long x :: st) h) : jV cc own d X b pc (l0 :: l1 :: l2 :: l3 :: l4 :: l5 :: l6 :: some (.long x) :: r) st h := eg_lload hd rfl k
theorem e_ls7 {l0 l1 l2 l3 l4 l5 l6 : Option Value} {z z2 : Option Value} {x : Int64} (hd : decode cc pc = .ok (.lstore 7, 2)) (hn : jnl l6 = true) (k : jV cc own d X b (pc + 2) (l0 :: l1 :: l2 :: l3 :: l4 :: l5 :: l6 :: some (.long x) :: none :: r) st h) : jV cc own d X b pc (l0 :: l1 :: l2 :: l3 :: l4 :: l5 :: l6 :: z :: z2 :: r) (.long x :: st) h := eg_lstore hd (by show 7 + 1 < List.length _; simp only [List.length_cons]; omega) (jn_at (i := 6) rfl hn) k
theorem e_il8 {l0 l1 l2 l3 l4 l5 l6 l7 : Option Value} {x : Int32} (hd : decode cc pc = .ok (.iload 8, 2)) (k : jV cc own d X b (pc + 2) (l0 :: l1 :: l2 :: l3 :: l4 :: l5 :: l6 :: l7 :: some (.int x) :: r) (.int x :: st) h) : jV cc own d X b pc (l0 :: l1 :: l2 :: l3 :: l4 :: l5 :: l6 :: l7 :: some (.int x) :: r) st h := eg_iload hd rfl k
theorem e_al8 {l0 l1 l2 l3 l4 l5 l6 l7 : Option Value} {x : Nat} (hd : decode cc pc = .ok (.aload 8, 2)) (k : jV cc own d X b (pc + 2) (l0 :: l1 :: l2 :: l3 :: l4 :: l5 :: l6 :: l7 :: some (.ref x) :: r) (.ref x :: st) h) : jV cc own d X b pc (l0 :: l1 :: l2 :: l3 :: l4 :: l5 :: l6 :: l7 :: some (.ref x) :: r) st h := eg_aload hd rfl k
theorem e_is8 {l0 l1 l2 l3 l4 l5 l6 l7 : Option Value} {z : Option Value} {x : Int32} (hd : decode cc pc = .ok (.istore 8, 2)) (hn : jnl l7 = true) (k : jV cc own d X b (pc + 2) (l0 :: l1 :: l2 :: l3 :: l4 :: l5 :: l6 :: l7 :: some (.int x) :: r) st h) : jV cc own d X b pc (l0 :: l1 :: l2 :: l3 :: l4 :: l5 :: l6 :: l7 :: z :: r) (.int x :: st) h := eg_istore hd (by show 8 < List.length _; simp only [List.length_cons]; omega) (jn_at (i := 7) rfl hn) k
theorem e_as8 {l0 l1 l2 l3 l4 l5 l6 l7 : Option Value} {z : Option Value} {x : Nat} (hd : decode cc pc = .ok (.astore 8, 2)) (hn : jnl l7 = true) (k : jV cc own d X b (pc + 2) (l0 :: l1 :: l2 :: l3 :: l4 :: l5 :: l6 :: l7 :: some (.ref x) :: r) st h) : jV cc own d X b pc (l0 :: l1 :: l2 :: l3 :: l4 :: l5 :: l6 :: l7 :: z :: r) (.ref x :: st) h := eg_astore hd (by show 8 < List.length _; simp only [List.length_cons]; omega) (jn_at (i := 7) rfl hn) k
theorem e_inc8 {l0 l1 l2 l3 l4 l5 l6 l7 : Option Value} {n : Int} {x : Int32} (c : Int32) (hd : decode cc pc = .ok (.iinc 8 n, 3)) (hc : Int32.ofInt n = c) (hn : jnl l7 = true) (k : jV cc own d X b (pc + 3) (l0 :: l1 :: l2 :: l3 :: l4 :: l5 :: l6 :: l7 :: some (.int (x + c)) :: r) st h) : jV cc own d X b pc (l0 :: l1 :: l2 :: l3 :: l4 :: l5 :: l6 :: l7 :: some (.int x) :: r) st h := eg_iinc (v := x + c) hd rfl (by rw [hc]) (jn_at (i := 7) rfl hn) k
theorem e_ll8 {l0 l1 l2 l3 l4 l5 l6 l7 : Option Value} {x : Int64} (hd : decode cc pc = .ok (.lload 8, 2)) (k : jV cc own d X b (pc + 2) (l0 :: l1 :: l2 :: l3 :: l4 :: l5 :: l6 :: l7 :: some (.long x) :: r) (.long x :: st) h) : jV cc own d X b pc (l0 :: l1 :: l2 :: l3 :: l4 :: l5 :: l6 :: l7 :: some (.long x) :: r) st h := eg_lload hd rfl k
theorem e_ls8 {l0 l1 l2 l3 l4 l5 l6 l7 : Option Value} {z z2 : Option Value} {x : Int64} (hd : decode cc pc = .ok (.lstore 8, 2)) (hn : jnl l7 = true) (k : jV cc own d X b (pc + 2) (l0 :: l1 :: l2 :: l3 :: l4 :: l5 :: l6 :: l7 :: some (.long x) :: none :: r) st h) : jV cc own d X b pc (l0 :: l1 :: l2 :: l3 :: l4 :: l5 :: l6 :: l7 :: z :: z2 :: r) (.long x :: st) h := eg_lstore hd (by show 8 + 1 < List.length _; simp only [List.length_cons]; omega) (jn_at (i := 7) rfl hn) k
theorem e_il9 {l0 l1 l2 l3 l4 l5 l6 l7 l8 : Option Value} {x : Int32} (hd : decode cc pc = .ok (.iload 9, 2)) (k : jV cc own d X b (pc + 2) (l0 :: l1 :: l2 :: l3 :: l4 :: l5 :: l6 :: l7 :: l8 :: some (.int x) :: r) (.int x :: st) h) : jV cc own d X b pc (l0 :: l1 :: l2 :: l3 :: l4 :: l5 :: l6 :: l7 :: l8 :: some (.int x) :: r) st h := eg_iload hd rfl k
theorem e_al9 {l0 l1 l2 l3 l4 l5 l6 l7 l8 : Option Value} {x : Nat} (hd : decode cc pc = .ok (.aload 9, 2)) (k : jV cc own d X b (pc + 2) (l0 :: l1 :: l2 :: l3 :: l4 :: l5 :: l6 :: l7 :: l8 :: some (.ref x) :: r) (.ref x :: st) h) : jV cc own d X b pc (l0 :: l1 :: l2 :: l3 :: l4 :: l5 :: l6 :: l7 :: l8 :: some (.ref x) :: r) st h := eg_aload hd rfl k
theorem e_is9 {l0 l1 l2 l3 l4 l5 l6 l7 l8 : Option Value} {z : Option Value} {x : Int32} (hd : decode cc pc = .ok (.istore 9, 2)) (hn : jnl l8 = true) (k : jV cc own d X b (pc + 2) (l0 :: l1 :: l2 :: l3 :: l4 :: l5 :: l6 :: l7 :: l8 :: some (.int x) :: r) st h) : jV cc own d X b pc (l0 :: l1 :: l2 :: l3 :: l4 :: l5 :: l6 :: l7 :: l8 :: z :: r) (.int x :: st) h := eg_istore hd (by show 9 < List.length _; simp only [List.length_cons]; omega) (jn_at (i := 8) rfl hn) k
theorem e_as9 {l0 l1 l2 l3 l4 l5 l6 l7 l8 : Option Value} {z : Option Value} {x : Nat} (hd : decode cc pc = .ok (.astore 9, 2)) (hn : jnl l8 = true) (k : jV cc own d X b (pc + 2) (l0 :: l1 :: l2 :: l3 :: l4 :: l5 :: l6 :: l7 :: l8 :: some (.ref x) :: r) st h) : jV cc own d X b pc (l0 :: l1 :: l2 :: l3 :: l4 :: l5 :: l6 :: l7 :: l8 :: z :: r) (.ref x :: st) h := eg_astore hd (by show 9 < List.length _; simp only [List.length_cons]; omega) (jn_at (i := 8) rfl hn) k
theorem e_inc9 {l0 l1 l2 l3 l4 l5 l6 l7 l8 : Option Value} {n : Int} {x : Int32} (c : Int32) (hd : decode cc pc = .ok (.iinc 9 n, 3)) (hc : Int32.ofInt n = c) (hn : jnl l8 = true) (k : jV cc own d X b (pc + 3) (l0 :: l1 :: l2 :: l3 :: l4 :: l5 :: l6 :: l7 :: l8 :: some (.int (x + c)) :: r) st h) : jV cc own d X b pc (l0 :: l1 :: l2 :: l3 :: l4 :: l5 :: l6 :: l7 :: l8 :: some (.int x) :: r) st h := eg_iinc (v := x + c) hd rfl (by rw [hc]) (jn_at (i := 8) rfl hn) k
theorem e_ll9 {l0 l1 l2 l3 l4 l5 l6 l7 l8 : Option Value} {x : Int64} (hd : decode cc pc = .ok (.lload 9, 2)) (k : jV cc own d X b (pc + 2) (l0 :: l1 :: l2 :: l3 :: l4 :: l5 :: l6 :: l7 :: l8 :: some (.long x) :: r) (.long x :: st) h) : jV cc own d X b pc (l0 :: l1 :: l2 :: l3 :: l4 :: l5 :: l6 :: l7 :: l8 :: some (.long x) :: r) st h := eg_lload hd rfl k
theorem e_ls9 {l0 l1 l2 l3 l4 l5 l6 l7 l8 : Option Value} {z z2 : Option Value} {x : Int64} (hd : decode cc pc = .ok (.lstore 9, 2)) (hn : jnl l8 = true) (k : jV cc own d X b (pc + 2) (l0 :: l1 :: l2 :: l3 :: l4 :: l5 :: l6 :: l7 :: l8 :: some (.long x) :: none :: r) st h) : jV cc own d X b pc (l0 :: l1 :: l2 :: l3 :: l4 :: l5 :: l6 :: l7 :: l8 :: z :: z2 :: r) (.long x :: st) h := eg_lstore hd (by show 9 + 1 < List.length _; simp only [List.length_cons]; omega) (jn_at (i := 8) rfl hn) k
theorem e_il10 {l0 l1 l2 l3 l4 l5 l6 l7 l8 l9 : Option Value} {x : Int32} (hd : decode cc pc = .ok (.iload 10, 2)) (k : jV cc own d X b (pc + 2) (l0 :: l1 :: l2 :: l3 :: l4 :: l5 :: l6 :: l7 :: l8 :: l9 :: some (.int x) :: r) (.int x :: st) h) : jV cc own d X b pc (l0 :: l1 :: l2 :: l3 :: l4 :: l5 :: l6 :: l7 :: l8 :: l9 :: some (.int x) :: r) st h := eg_iload hd rfl k
theorem e_al10 {l0 l1 l2 l3 l4 l5 l6 l7 l8 l9 : Option Value} {x : Nat} (hd : decode cc pc = .ok (.aload 10, 2)) (k : jV cc own d X b (pc + 2) (l0 :: l1 :: l2 :: l3 :: l4 :: l5 :: l6 :: l7 :: l8 :: l9 :: some (.ref x) :: r) (.ref x :: st) h) : jV cc own d X b pc (l0 :: l1 :: l2 :: l3 :: l4 :: l5 :: l6 :: l7 :: l8 :: l9 :: some (.ref x) :: r) st h := eg_aload hd rfl k
theorem e_is10 {l0 l1 l2 l3 l4 l5 l6 l7 l8 l9 : Option Value} {z : Option Value} {x : Int32} (hd : decode cc pc = .ok (.istore 10, 2)) (hn : jnl l9 = true) (k : jV cc own d X b (pc + 2) (l0 :: l1 :: l2 :: l3 :: l4 :: l5 :: l6 :: l7 :: l8 :: l9 :: some (.int x) :: r) st h) : jV cc own d X b pc (l0 :: l1 :: l2 :: l3 :: l4 :: l5 :: l6 :: l7 :: l8 :: l9 :: z :: r) (.int x :: st) h := eg_istore hd (by show 10 < List.length _; simp only [List.length_cons]; omega) (jn_at (i := 9) rfl hn) k
theorem e_as10 {l0 l1 l2 l3 l4 l5 l6 l7 l8 l9 : Option Value} {z : Option Value} {x : Nat} (hd : decode cc pc = .ok (.astore 10, 2)) (hn : jnl l9 = true) (k : jV cc own d X b (pc + 2) (l0 :: l1 :: l2 :: l3 :: l4 :: l5 :: l6 :: l7 :: l8 :: l9 :: some (.ref x) :: r) st h) : jV cc own d X b pc (l0 :: l1 :: l2 :: l3 :: l4 :: l5 :: l6 :: l7 :: l8 :: l9 :: z :: r) (.ref x :: st) h := eg_astore hd (by show 10 < List.length _; simp only [List.length_cons]; omega) (jn_at (i := 9) rfl hn) k
theorem e_inc10 {l0 l1 l2 l3 l4 l5 l6 l7 l8 l9 : Option Value} {n : Int} {x : Int32} (c : Int32) (hd : decode cc pc = .ok (.iinc 10 n, 3)) (hc : Int32.ofInt n = c) (hn : jnl l9 = true) (k : jV cc own d X b (pc + 3) (l0 :: l1 :: l2 :: l3 :: l4 :: l5 :: l6 :: l7 :: l8 :: l9 :: some (.int (x + c)) :: r) st h) : jV cc own d X b pc (l0 :: l1 :: l2 :: l3 :: l4 :: l5 :: l6 :: l7 :: l8 :: l9 :: some (.int x) :: r) st h := eg_iinc (v := x + c) hd rfl (by rw [hc]) (jn_at (i := 9) rfl hn) k
theorem e_ll10 {l0 l1 l2 l3 l4 l5 l6 l7 l8 l9 : Option Value} {x : Int64} (hd : decode cc pc = .ok (.lload 10, 2)) (k : jV cc own d X b (pc + 2) (l0 :: l1 :: l2 :: l3 :: l4 :: l5 :: l6 :: l7 :: l8 :: l9 :: some (.long x) :: r) (.long x :: st) h) : jV cc own d X b pc (l0 :: l1 :: l2 :: l3 :: l4 :: l5 :: l6 :: l7 :: l8 :: l9 :: some (.long x) :: r) st h := eg_lload hd rfl k
theorem e_ls10 {l0 l1 l2 l3 l4 l5 l6 l7 l8 l9 : Option Value} {z z2 : Option Value} {x : Int64} (hd : decode cc pc = .ok (.lstore 10, 2)) (hn : jnl l9 = true) (k : jV cc own d X b (pc + 2) (l0 :: l1 :: l2 :: l3 :: l4 :: l5 :: l6 :: l7 :: l8 :: l9 :: some (.long x) :: none :: r) st h) : jV cc own d X b pc (l0 :: l1 :: l2 :: l3 :: l4 :: l5 :: l6 :: l7 :: l8 :: l9 :: z :: z2 :: r) (.long x :: st) h := eg_lstore hd (by show 10 + 1 < List.length _; simp only [List.length_cons]; omega) (jn_at (i := 9) rfl hn) k
theorem e_il11 {l0 l1 l2 l3 l4 l5 l6 l7 l8 l9 l10 : Option Value} {x : Int32} (hd : decode cc pc = .ok (.iload 11, 2)) (k : jV cc own d X b (pc + 2) (l0 :: l1 :: l2 :: l3 :: l4 :: l5 :: l6 :: l7 :: l8 :: l9 :: l10 :: some (.int x) :: r) (.int x :: st) h) : jV cc own d X b pc (l0 :: l1 :: l2 :: l3 :: l4 :: l5 :: l6 :: l7 :: l8 :: l9 :: l10 :: some (.int x) :: r) st h := eg_iload hd rfl k
theorem e_al11 {l0 l1 l2 l3 l4 l5 l6 l7 l8 l9 l10 : Option Value} {x : Nat} (hd : decode cc pc = .ok (.aload 11, 2)) (k : jV cc own d X b (pc + 2) (l0 :: l1 :: l2 :: l3 :: l4 :: l5 :: l6 :: l7 :: l8 :: l9 :: l10 :: some (.ref x) :: r) (.ref x :: st) h) : jV cc own d X b pc (l0 :: l1 :: l2 :: l3 :: l4 :: l5 :: l6 :: l7 :: l8 :: l9 :: l10 :: some (.ref x) :: r) st h := eg_aload hd rfl k
theorem e_is11 {l0 l1 l2 l3 l4 l5 l6 l7 l8 l9 l10 : Option Value} {z : Option Value} {x : Int32} (hd : decode cc pc = .ok (.istore 11, 2)) (hn : jnl l10 = true) (k : jV cc own d X b (pc + 2) (l0 :: l1 :: l2 :: l3 :: l4 :: l5 :: l6 :: l7 :: l8 :: l9 :: l10 :: some (.int x) :: r) st h) : jV cc own d X b pc (l0 :: l1 :: l2 :: l3 :: l4 :: l5 :: l6 :: l7 :: l8 :: l9 :: l10 :: z :: r) (.int x :: st) h := eg_istore hd (by show 11 < List.length _; simp only [List.length_cons]; omega) (jn_at (i := 10) rfl hn) k
theorem e_as11 {l0 l1 l2 l3 l4 l5 l6 l7 l8 l9 l10 : Option Value} {z : Option Value} {x : Nat} (hd : decode cc pc = .ok (.astore 11, 2)) (hn : jnl l10 = true) (k : jV cc own d X b (pc + 2) (l0 :: l1 :: l2 :: l3 :: l4 :: l5 :: l6 :: l7 :: l8 :: l9 :: l10 :: some (.ref x) :: r) st h) : jV cc own d X b pc (l0 :: l1 :: l2 :: l3 :: l4 :: l5 :: l6 :: l7 :: l8 :: l9 :: l10 :: z :: r) (.ref x :: st) h := eg_astore hd (by show 11 < List.length _; simp only [List.length_cons]; omega) (jn_at (i := 10) rfl hn) k
theorem e_inc11 {l0 l1 l2 l3 l4 l5 l6 l7 l8 l9 l10 : Option Value} {n : Int} {x : Int32} (c : Int32) (hd : decode cc pc = .ok (.iinc 11 n, 3)) (hc : Int32.ofInt n = c) (hn : jnl l10 = true) (k : jV cc own d X b (pc + 3) (l0 :: l1 :: l2 :: l3 :: l4 :: l5 :: l6 :: l7 :: l8 :: l9 :: l10 :: some (.int (x + c)) :: r) st h) : jV cc own d X b pc (l0 :: l1 :: l2 :: l3 :: l4 :: l5 :: l6 :: l7 :: l8 :: l9 :: l10 :: some (.int x) :: r) st h := eg_iinc (v := x + c) hd rfl (by rw [hc]) (jn_at (i := 10) rfl hn) k
theorem e_ll11 {l0 l1 l2 l3 l4 l5 l6 l7 l8 l9 l10 : Option Value} {x : Int64} (hd : decode cc pc = .ok (.lload 11, 2)) (k : jV cc own d X b (pc + 2) (l0 :: l1 :: l2 :: l3 :: l4 :: l5 :: l6 :: l7 :: l8 :: l9 :: l10 :: some (.long x) :: r) (.long x :: st) h) : jV cc own d X b pc (l0 :: l1 :: l2 :: l3 :: l4 :: l5 :: l6 :: l7 :: l8 :: l9 :: l10 :: some (.long x) :: r) st h := eg_lload hd rfl k
theorem e_ls11 {l0 l1 l2 l3 l4 l5 l6 l7 l8 l9 l10 : Option Value} {z z2 : Option Value} {x : Int64} (hd : decode cc pc = .ok (.lstore 11, 2)) (hn : jnl l10 = true) (k : jV cc own d X b (pc + 2) (l0 :: l1 :: l2 :: l3 :: l4 :: l5 :: l6 :: l7 :: l8 :: l9 :: l10 :: some (.long x) :: none :: r) st h) : jV cc own d X b pc (l0 :: l1 :: l2 :: l3 :: l4 :: l5 :: l6 :: l7 :: l8 :: l9 :: l10 :: z :: z2 :: r) (.long x :: st) h := eg_lstore hd (by show 11 + 1 < List.length _; simp only [List.length_cons]; omega) (jn_at (i := 10) rfl hn) k
theorem e_il12 {l0 l1 l2 l3 l4 l5 l6 l7 l8 l9 l10 l11 : Option Value} {x : Int32} (hd : decode cc pc = .ok (.iload 12, 2)) (k : jV cc own d X b (pc + 2) (l0 :: l1 :: l2 :: l3 :: l4 :: l5 :: l6 :: l7 :: l8 :: l9 :: l10 :: l11 :: some (.int x) :: r) (.int x :: st) h) : jV cc own d X b pc (l0 :: l1 :: l2 :: l3 :: l4 :: l5 :: l6 :: l7 :: l8 :: l9 :: l10 :: l11 :: some (.int x) :: r) st h := eg_iload hd rfl k
theorem e_al12 {l0 l1 l2 l3 l4 l5 l6 l7 l8 l9 l10 l11 : Option Value} {x : Nat} (hd : decode cc pc = .ok (.aload 12, 2)) (k : jV cc own d X b (pc + 2) (l0 :: l1 :: l2 :: l3 :: l4 :: l5 :: l6 :: l7 :: l8 :: l9 :: l10 :: l11 :: some (.ref x) :: r) (.ref x :: st) h) : jV cc own d X b pc (l0 :: l1 :: l2 :: l3 :: l4 :: l5 :: l6 :: l7 :: l8 :: l9 :: l10 :: l11 :: some (.ref x) :: r) st h := eg_aload hd rfl k
theorem e_is12 {l0 l1 l2 l3 l4 l5 l6 l7 l8 l9 l10 l11 : Option Value} {z : Option Value} {x : Int32} (hd : decode cc pc = .ok (.istore 12, 2)) (hn : jnl l11 = true) (k : jV cc own d X b (pc + 2) (l0 :: l1 :: l2 :: l3 :: l4 :: l5 :: l6 :: l7 :: l8 :: l9 :: l10 :: l11 :: some (.int x) :: r) st h) : jV cc own d X b pc (l0 :: l1 :: l2 :: l3 :: l4 :: l5 :: l6 :: l7 :: l8 :: l9 :: l10 :: l11 :: z :: r) (.int x :: st) h := eg_istore hd (by show 12 < List.length _; simp only [List.length_cons]; omega) (jn_at (i := 11) rfl hn) k
theorem e_as12 {l0 l1 l2 l3 l4 l5 l6 l7 l8 l9 l10 l11 : Option Value} {z : Option Value} {x : Nat} (hd : decode cc pc = .ok (.astore 12, 2)) (hn : jnl l11 = true) (k : jV cc own d X b (pc + 2) (l0 :: l1 :: l2 :: l3 :: l4 :: l5 :: l6 :: l7 :: l8 :: l9 :: l10 :: l11 :: some (.ref x) :: r) st h) : jV cc own d X b pc (l0 :: l1 :: l2 :: l3 :: l4 :: l5 :: l6 :: l7 :: l8 :: l9 :: l10 :: l11 :: z :: r) (.ref x :: st) h := eg_astore hd (by show 12 < List.length _; simp only [List.length_cons]; omega) (jn_at (i := 11) rfl hn) k
theorem e_inc12 {l0 l1 l2 l3 l4 l5 l6 l7 l8 l9 l10 l11 : Option Value} {n : Int} {x : Int32} (c : Int32) (hd : decode cc pc = .ok (.iinc 12 n, 3)) (hc : Int32.ofInt n = c) (hn : jnl l11 = true) (k : jV cc own d X b (pc + 3) (l0 :: l1 :: l2 :: l3 :: l4 :: l5 :: l6 :: l7 :: l8 :: l9 :: l10 :: l11 :: some (.int (x + c)) :: r) st h) : jV cc own d X b pc (l0 :: l1 :: l2 :: l3 :: l4 :: l5 :: l6 :: l7 :: l8 :: l9 :: l10 :: l11 :: some (.int x) :: r) st h := eg_iinc (v := x + c) hd rfl (by rw [hc]) (jn_at (i := 11) rfl hn) k
theorem e_ll12 {l0 l1 l2 l3 l4 l5 l6 l7 l8 l9 l10 l11 : Option Value} {x : Int64} (hd : decode cc pc = .ok (.lload 12, 2)) (k : jV cc own d X b (pc + 2) (l0 :: l1 :: l2 :: l3 :: l4 :: l5 :: l6 :: l7 :: l8 :: l9 :: l10 :: l11 :: some (.long x) :: r) (.long x :: st) h) : jV cc own d X b pc (l0 :: l1 :: l2 :: l3 :: l4 :: l5 :: l6 :: l7 :: l8 :: l9 :: l10 :: l11 :: some (.long x) :: r) st h := eg_lload hd rfl k
theorem e_ls12 {l0 l1 l2 l3 l4 l5 l6 l7 l8 l9 l10 l11 : Option Value} {z z2 : Option Value} {x : Int64} (hd : decode cc pc = .ok (.lstore 12, 2)) (hn : jnl l11 = true) (k : jV cc own d X b (pc + 2) (l0 :: l1 :: l2 :: l3 :: l4 :: l5 :: l6 :: l7 :: l8 :: l9 :: l10 :: l11 :: some (.long x) :: none :: r) st h) : jV cc own d X b pc (l0 :: l1 :: l2 :: l3 :: l4 :: l5 :: l6 :: l7 :: l8 :: l9 :: l10 :: l11 :: z :: z2 :: r) (.long x :: st) h := eg_lstore hd (by show 12 + 1 < List.length _; simp only [List.length_cons]; omega) (jn_at (i := 11) rfl hn) k
theorem e_il13 {l0 l1 l2 l3 l4 l5 l6 l7 l8 l9 l10 l11 l12 : Option Value} {x : Int32} (hd : decode cc pc = .ok (.iload 13, 2)) (k : jV cc own d X b (pc + 2) (l0 :: l1 :: l2 :: l3 :: l4 :: l5 :: l6 :: l7 :: l8 :: l9 :: l10 :: l11 :: l12 :: some (.int x) :: r) (.int x :: st) h) : jV cc own d X b pc (l0 :: l1 :: l2 :: l3 :: l4 :: l5 :: l6 :: l7 :: l8 :: l9 :: l10 :: l11 :: l12 :: some (.int x) :: r) st h := eg_iload hd rfl k
theorem e_al13 {l0 l1 l2 l3 l4 l5 l6 l7 l8 l9 l10 l11 l12 : Option Value} {x : Nat} (hd : decode cc pc = .ok (.aload 13, 2)) (k : jV cc own d X b (pc + 2) (l0 :: l1 :: l2 :: l3 :: l4 :: l5 :: l6 :: l7 :: l8 :: l9 :: l10 :: l11 :: l12 :: some (.ref x) :: r) (.ref x :: st) h) : jV cc own d X b pc (l0 :: l1 :: l2 :: l3 :: l4 :: l5 :: l6 :: l7 :: l8 :: l9 :: l10 :: l11 :: l12 :: some (.ref x) :: r) st h := eg_aload hd rfl k
theorem e_is13 {l0 l1 l2 l3 l4 l5 l6 l7 l8 l9 l10 l11 l12 : Option Value} {z : Option Value} {x : Int32} (hd : decode cc pc = .ok (.istore 13, 2)) (hn : jnl l12 = true) (k : jV cc own d X b (pc + 2) (l0 :: l1 :: l2 :: l3 :: l4 :: l5 :: l6 :: l7 :: l8 :: l9 :: l10 :: l11 :: l12 :: some (.int x) :: r) st h) : jV cc own d X b pc (l0 :: l1 :: l2 :: l3 :: l4 :: l5 :: l6 :: l7 :: l8 :: l9 :: l10 :: l11 :: l12 :: z :: r) (.int x :: st) h := eg_istore hd (by show 13 < List.length _; simp only [List.length_cons]; omega) (jn_at (i := 12) rfl hn) k
theorem e_as13 {l0 l1 l2 l3 l4 l5 l6 l7 l8 l9 l10 l11 l12 : Option Value} {z : Option Value} {x : Nat} (hd : decode cc pc = .ok (.astore 13, 2)) (hn : jnl l12 = true) (k : jV cc own d X b (pc + 2) (l0 :: l1 :: l2 :: l3 :: l4 :: l5 :: l6 :: l7 :: l8 :: l9 :: l10 :: l11 :: l12 :: some (.ref x) :: r) st h) : jV cc own d X b pc (l0 :: l1 :: l2 :: l3 :: l4 :: l5 :: l6 :: l7 :: l8 :: l9 :: l10 :: l11 :: l12 :: z :: r) (.ref x :: st) h := eg_astore hd (by show 13 < List.length _; simp only [List.length_cons]; omega) (jn_at (i := 12) rfl hn) k
theorem e_inc13 {l0 l1 l2 l3 l4 l5 l6 l7 l8 l9 l10 l11 l12 : Option Value} {n : Int} {x : Int32} (c : Int32) (hd : decode cc pc = .ok (.iinc 13 n, 3)) (hc : Int32.ofInt n = c) (hn : jnl l12 = true) (k : jV cc own d X b (pc + 3) (l0 :: l1 :: l2 :: l3 :: l4 :: l5 :: l6 :: l7 :: l8 :: l9 :: l10 :: l11 :: l12 :: some (.int (x + c)) :: r) st h) : jV cc own d X b pc (l0 :: l1 :: l2 :: l3 :: l4 :: l5 :: l6 :: l7 :: l8 :: l9 :: l10 :: l11 :: l12 :: some (.int x) :: r) st h := eg_iinc (v := x + c) hd rfl (by rw [hc]) (jn_at (i := 12) rfl hn) k
theorem e_ll13 {l0 l1 l2 l3 l4 l5 l6 l7 l8 l9 l10 l11 l12 : Option Value} {x : Int64} (hd : decode cc pc = .ok (.lload 13, 2)) (k : jV cc own d X b (pc + 2) (l0 :: l1 :: l2 :: l3 :: l4 :: l5 :: l6 :: l7 :: l8 :: l9 :: l10 :: l11 :: l12 :: some (.long x) :: r) (.long x :: st) h) : jV cc own d X b pc (l0 :: l1 :: l2 :: l3 :: l4 :: l5 :: l6 :: l7 :: l8 :: l9 :: l10 :: l11 :: l12 :: some (.long x) :: r) st h := eg_lload hd rfl k
theorem e_ls13 {l0 l1 l2 l3 l4 l5 l6 l7 l8 l9 l10 l11 l12 : Option Value} {z z2 : Option Value} {x : Int64} (hd : decode cc pc = .ok (.lstore 13, 2)) (hn : jnl l12 = true) (k : jV cc own d X b (pc + 2) (l0 :: l1 :: l2 :: l3 :: l4 :: l5 :: l6 :: l7 :: l8 :: l9 :: l10 :: l11 :: l12 :: some (.long x) :: none :: r) st h) : jV cc own d X b pc (l0 :: l1 :: l2 :: l3 :: l4 :: l5 :: l6 :: l7 :: l8 :: l9 :: l10 :: l11 :: l12 :: z :: z2 :: r) (.long x :: st) h := eg_lstore hd (by show 13 + 1 < List.length _; simp only [List.length_cons]; omega) (jn_at (i := 12) rfl hn) k
theorem e_il14 {l0 l1 l2 l3 l4 l5 l6 l7 l8 l9 l10 l11 l12 l13 : Option Value} {x : Int32} (hd : decode cc pc = .ok (.iload 14, 2)) (k : jV cc own d X b (pc + 2) (l0 :: l1 :: l2 :: l3 :: l4 :: l5 :: l6 :: l7 :: l8 :: l9 :: l10 :: l11 :: l12 :: l13 :: some (.int x) :: r) (.int x :: st) h) : jV cc own d X b pc (l0 :: l1 :: l2 :: l3 :: l4 :: l5 :: l6 :: l7 :: l8 :: l9 :: l10 :: l11 :: l12 :: l13 :: some (.int x) :: r) st h := eg_iload hd rfl k
theorem e_al14 {l0 l1 l2 l3 l4 l5 l6 l7 l8 l9 l10 l11 l12 l13 : Option Value} {x : Nat} (hd : decode cc pc = .ok (.aload 14, 2)) (k : jV cc own d X b (pc + 2) (l0 :: l1 :: l2 :: l3 :: l4 :: l5 :: l6 :: l7 :: l8 :: l9 :: l10 :: l11 :: l12 :: l13 :: some (.ref x) :: r) (.ref x :: st) h) : jV cc own d X b pc (l0 :: l1 :: l2 :: l3 :: l4 :: l5 :: l6 :: l7 :: l8 :: l9 :: l10 :: l11 :: l12 :: l13 :: some (.ref x) :: r) st h := eg_aload hd rfl k
theorem e_is14 {l0 l1 l2 l3 l4 l5 l6 l7 l8 l9 l10 l11 l12 l13 : Option Value} {z : Option Value} {x : Int32} (hd : decode cc pc = .ok (.istore 14, 2)) (hn : jnl l13 = true) (k : jV cc own d X b (pc + 2) (l0 :: l1 :: l2 :: l3 :: l4 :: l5 :: l6 :: l7 :: l8 :: l9 :: l10 :: l11 :: l12 :: l13 :: some (.int x) :: r) st h) : jV cc own d X b pc (l0 :: l1 :: l2 :: l3 :: l4 :: l5 :: l6 :: l7 :: l8 :: l9 :: l10 :: l11 :: l12 :: l13 :: z :: r) (.int x :: st) h := eg_istore hd (by show 14 < List.length _; simp only [List.length_cons]; omega) (jn_at (i := 13) rfl hn) k
theorem e_as14 {l0 l1 l2 l3 l4 l5 l6 l7 l8 l9 l10 l11 l12 l13 : Option Value} {z : Option Value} {x : Nat} (hd : decode cc pc = .ok (.astore 14, 2)) (hn : jnl l13 = true) (k : jV cc own d X b (pc + 2) (l0 :: l1 :: l2 :: l3 :: l4 :: l5 :: l6 :: l7 :: l8 :: l9 :: l10 :: l11 :: l12 :: l13 :: some (.ref x) :: r) st h) : jV cc own d X b pc (l0 :: l1 :: l2 :: l3 :: l4 :: l5 :: l6 :: l7 :: l8 :: l9 :: l10 :: l11 :: l12 :: l13 :: z :: r) (.ref x :: st) h := eg_astore hd (by show 14 < List.length _; simp only [List.length_cons]; omega) (jn_at (i := 13) rfl hn) k
theorem e_inc14 {l0 l1 l2 l3 l4 l5 l6 l7 l8 l9 l10 l11 l12 l13 : Option Value} {n : Int} {x : Int32} (c : Int32) (hd : decode cc pc = .ok (.iinc 14 n, 3)) (hc : Int32.ofInt n = c) (hn : jnl l13 = true) (k : jV cc own d X b (pc + 3) (l0 :: l1 :: l2 :: l3 :: l4 :: l5 :: l6 :: l7 :: l8 :: l9 :: l10 :: l11 :: l12 :: l13 :: some (.int (x + c)) :: r) st h) : jV cc own d X b pc (l0 :: l1 :: l2 :: l3 :: l4 :: l5 :: l6 :: l7 :: l8 :: l9 :: l10 :: l11 :: l12 :: l13 :: some (.int x) :: r) st h := eg_iinc (v := x + c) hd rfl (by rw [hc]) (jn_at (i := 13) rfl hn) k
theorem e_ll14 {l0 l1 l2 l3 l4 l5 l6 l7 l8 l9 l10 l11 l12 l13 : Option Value} {x : Int64} (hd : decode cc pc = .ok (.lload 14, 2)) (k : jV cc own d X b (pc + 2) (l0 :: l1 :: l2 :: l3 :: l4 :: l5 :: l6 :: l7 :: l8 :: l9 :: l10 :: l11 :: l12 :: l13 :: some (.long x) :: r) (.long x :: st) h) : jV cc own d X b pc (l0 :: l1 :: l2 :: l3 :: l4 :: l5 :: l6 :: l7 :: l8 :: l9 :: l10 :: l11 :: l12 :: l13 :: some (.long x) :: r) st h := eg_lload hd rfl k
theorem e_ls14 {l0 l1 l2 l3 l4 l5 l6 l7 l8 l9 l10 l11 l12 l13 : Option Value} {z z2 : Option Value} {x : Int64} (hd : decode cc pc = .ok (.lstore 14, 2)) (hn : jnl l13 = true) (k : jV cc own d X b (pc + 2) (l0 :: l1 :: l2 :: l3 :: l4 :: l5 :: l6 :: l7 :: l8 :: l9 :: l10 :: l11 :: l12 :: l13 :: some (.long x) :: none :: r) st h) : jV cc own d X b pc (l0 :: l1 :: l2 :: l3 :: l4 :: l5 :: l6 :: l7 :: l8 :: l9 :: l10 :: l11 :: l12 :: l13 :: z :: z2 :: r) (.long x :: st) h := eg_lstore hd (by show 14 + 1 < List.length _; simp only [List.length_cons]; omega) (jn_at (i := 13) rfl hn) k
theorem e_il15 {l0 l1 l2 l3 l4 l5 l6 l7 l8 l9 l10 l11 l12 l13 l14 : Option Value} {x : Int32} (hd : decode cc pc = .ok (.iload 15, 2)) (k : jV cc own d X b (pc + 2) (l0 :: l1 :: l2 :: l3 :: l4 :: l5 :: l6 :: l7 :: l8 :: l9 :: l10 :: l11 :: l12 :: l13 :: l14 :: some (.int x) :: r) (.int x :: st) h) : jV cc own d X b pc (l0 :: l1 :: l2 :: l3 :: l4 :: l5 :: l6 :: l7 :: l8 :: l9 :: l10 :: l11 :: l12 :: l13 :: l14 :: some (.int x) :: r) st h := eg_iload hd rfl k
theorem e_al15 {l0 l1 l2 l3 l4 l5 l6 l7 l8 l9 l10 l11 l12 l13 l14 : Option Value} {x : Nat} (hd : decode cc pc = .ok (.aload 15, 2)) (k : jV cc own d X b (pc + 2) (l0 :: l1 :: l2 :: l3 :: l4 :: l5 :: l6 :: l7 :: l8 :: l9 :: l10 :: l11 :: l12 :: l13 :: l14 :: some (.ref x) :: r) (.ref x :: st) h) : jV cc own d X b pc (l0 :: l1 :: l2 :: l3 :: l4 :: l5 :: l6 :: l7 :: l8 :: l9 :: l10 :: l11 :: l12 :: l13 :: l14 :: some (.ref x) :: r) st h := eg_aload hd rfl k
theorem e_is15 {l0 l1 l2 l3 l4 l5 l6 l7 l8 l9 l10 l11 l12 l13 l14 : Option Value} {z : Option Value} {x : Int32} (hd : decode cc pc = .ok (.istore 15, 2)) (hn : jnl l14 = true) (k : jV cc own d X b (pc + 2) (l0 :: l1 :: l2 :: l3 :: l4 :: l5 :: l6 :: l7 :: l8 :: l9 :: l10 :: l11 :: l12 :: l13 :: l14 :: some (.int x) :: r) st h) : jV cc own d X b pc (l0 :: l1 :: l2 :: l3 :: l4 :: l5 :: l6 :: l7 :: l8 :: l9 :: l10 :: l11 :: l12 :: l13 :: l14 :: z :: r) (.int x :: st) h := eg_istore hd (by show 15 < List.length _; simp only [List.length_cons]; omega) (jn_at (i := 14) rfl hn) k
theorem e_as15 {l0 l1 l2 l3 l4 l5 l6 l7 l8 l9 l10 l11 l12 l13 l14 : Option Value} {z : Option Value} {x : Nat} (hd : decode cc pc = .ok (.astore 15, 2)) (hn : jnl l14 = true) (k : jV cc own d X b (pc + 2) (l0 :: l1 :: l2 :: l3 :: l4 :: l5 :: l6 :: l7 :: l8 :: l9 :: l10 :: l11 :: l12 :: l13 :: l14 :: some (.ref x) :: r) st h) : jV cc own d X b pc (l0 :: l1 :: l2 :: l3 :: l4 :: l5 :: l6 :: l7 :: l8 :: l9 :: l10 :: l11 :: l12 :: l13 :: l14 :: z :: r) (.ref x :: st) h := eg_astore hd (by show 15 < List.length _; simp only [List.length_cons]; omega) (jn_at (i := 14) rfl hn) k
theorem e_inc15 {l0 l1 l2 l3 l4 l5 l6 l7 l8 l9 l10 l11 l12 l13 l14 : Option Value} {n : Int} {x : Int32} (c : Int32) (hd : decode cc pc = .ok (.iinc 15 n, 3)) (hc : Int32.ofInt n = c) (hn : jnl l14 = true) (k : jV cc own d X b (pc + 3) (l0 :: l1 :: l2 :: l3 :: l4 :: l5 :: l6 :: l7 :: l8 :: l9 :: l10 :: l11 :: l12 :: l13 :: l14 :: some (.int (x + c)) :: r) st h) : jV cc own d X b pc (l0 :: l1 :: l2 :: l3 :: l4 :: l5 :: l6 :: l7 :: l8 :: l9 :: l10 :: l11 :: l12 :: l13 :: l14 :: some (.int x) :: r) st h := eg_iinc (v := x + c) hd rfl (by rw [hc]) (jn_at (i := 14) rfl hn) k
theorem e_ll15 {l0 l1 l2 l3 l4 l5 l6 l7 l8 l9 l10 l11 l12 l13 l14 : Option Value} {x : Int64} (hd : decode cc pc = .ok (.lload 15, 2)) (k : jV cc own d X b (pc + 2) (l0 :: l1 :: l2 :: l3 :: l4 :: l5 :: l6 :: l7 :: l8 :: l9 :: l10 :: l11 :: l12 :: l13 :: l14 :: some (.long x) :: r) (.long x :: st) h) : jV cc own d X b pc (l0 :: l1 :: l2 :: l3 :: l4 :: l5 :: l6 :: l7 :: l8 :: l9 :: l10 :: l11 :: l12 :: l13 :: l14 :: some (.long x) :: r) st h := eg_lload hd rfl k
theorem e_ls15 {l0 l1 l2 l3 l4 l5 l6 l7 l8 l9 l10 l11 l12 l13 l14 : Option Value} {z z2 : Option Value} {x : Int64} (hd : decode cc pc = .ok (.lstore 15, 2)) (hn : jnl l14 = true) (k : jV cc own d X b (pc + 2) (l0 :: l1 :: l2 :: l3 :: l4 :: l5 :: l6 :: l7 :: l8 :: l9 :: l10 :: l11 :: l12 :: l13 :: l14 :: some (.long x) :: none :: r) st h) : jV cc own d X b pc (l0 :: l1 :: l2 :: l3 :: l4 :: l5 :: l6 :: l7 :: l8 :: l9 :: l10 :: l11 :: l12 :: l13 :: l14 :: z :: z2 :: r) (.long x :: st) h := eg_lstore hd (by show 15 + 1 < List.length _; simp only [List.length_cons]; omega) (jn_at (i := 14) rfl hn) k
end JP
end
section
/-! rows of the judgement that read and write cells, make them, call and return -/
/-- what a class' table says -/
def jCl (ci : Nat) (C : String) (T : u_T) (N : Nat) (ty : Nat → FieldType) : Prop := vwCl[ci]? = some (C, T, N) ∧ (∀ w ∈ u_ws C T N, w ∈ jT) ∧ (∀ k, k < N → parseFieldDescriptor (T k).2.2.1 = some (ty k)) ∧ (∀ a, a < N → ∀ b, b < N → a ≠ b → (T a).2.1 ≠ (T b).2.1)
/-- a field by the pool of a class: class number, place, type, final -/
def jFl (own : String) (i ci k : Nat) (t : FieldType) (fin : Bool) : Prop := ∃ (C : String) (T : u_T) (N : Nat) (ty : Nat → FieldType), jCl ci C T N ty ∧ k < N ∧ Cond.fieldLink own i (T k).1 (T k).2.1 (T k).2.2.1 ∈ jT ∧ ty k = t ∧ (T k).2.2.2 = fin ∧ (T k).1 = C
/-- calls by the pool of a class -/
def jCv (own : String) (i : Nat) (y : MethodName) (yc : ByteArray) (maxL : Nat) (ret : Option FieldType) (np : Nat) : Prop := Cond.methodLink own i y ∈ jT ∧ Cond.instanceMethod y ∈ jT ∧ Cond.selects y.cls y y ∈ jT ∧ Cond.initialized y.cls ∈ jT ∧ Cond.code y yc maxL ret ∈ jT ∧ (y.cls ≠ "java/lang/invoke/MethodHandle" ∧ y.cls ≠ "java/lang/invoke/VarHandle" ∧ (parseMethodDescriptor y.desc).map (fun d => d.parameters.length) = some np) ∧ maxL ≤ 40
def jCs (own : String) (i : Nat) (y : MethodName) (yc : ByteArray) (maxL : Nat) (ret : Option FieldType) (np : Nat) : Prop := Cond.methodLink own i y ∈ jT ∧ Cond.static y ∈ jT ∧ Cond.initialized y.cls ∈ jT ∧ Cond.code y yc maxL ret ∈ jT ∧ (y.cls ≠ "java/lang/invoke/MethodHandle" ∧ y.cls ≠ "java/lang/invoke/VarHandle" ∧ (parseMethodDescriptor y.desc).map (fun d => d.parameters.length) = some np) ∧ maxL ≤ 40
def jCi (own : String) (i : Nat) (y : MethodName) (yc : ByteArray) (maxL : Nat) (np : Nat) : Prop := Cond.methodLink own i y ∈ jT ∧ Cond.instanceMethod y ∈ jT ∧ Cond.initialized y.cls ∈ jT ∧ Cond.code y yc maxL none ∈ jT ∧ y.name = "<init>" ∧ (y.cls ≠ "java/lang/invoke/MethodHandle" ∧ y.cls ≠ "java/lang/invoke/VarHandle" ∧ (parseMethodDescriptor y.desc).map (fun d => d.parameters.length) = some np) ∧ maxL ≤ 40
/-- a private static of a nest mate -/
def jCn (own : String) (i : Nat) (y : MethodName) (host : String) (yc : ByteArray) (maxL : Nat) (ret : Option FieldType) (np : Nat) : Prop := (∀ (g : jG) (U : State) (H : Heap), jK g U H → va_Nw (.methodLinkNest own i y host) U) ∧ Cond.static y ∈ jT ∧ Cond.initialized y.cls ∈ jT ∧ Cond.code y yc maxL ret ∈ jT ∧ (y.cls ≠ "java/lang/invoke/MethodHandle" ∧ y.cls ≠ "java/lang/invoke/VarHandle" ∧ (parseMethodDescriptor y.desc).map (fun d => d.parameters.length) = some np) ∧ maxL ≤ 40
def jBud (b bc b' : jB) : Prop := jbk b = jbk b' + jbk bc ∧ jbn b = jbn b' + jbn bc ∧ bc.isSome = b.isSome ∧ b'.isSome = b.isSome
theorem jBud0 : jBud none none none := ⟨rfl, rfl, rfl, rfl⟩
theorem jBud1 {k n mc ms : Nat} : jBud (some (k + mc, n + ms)) (some (mc, ms)) (some (k, n)) := ⟨rfl, rfl, rfl, rfl⟩
section JE
variable {cc : ByteArray} {own : String} {d : Nat} {X : jX} {b : jB} {pc : Nat} {ls : List (Option Value)} {st : List Value} {h : jH}
theorem e_get {i o ci k : Nat} {t : FieldType} {fin : Bool} {fs : List Value} {v : Value} (hd : decode cc pc = .ok (.getfield i, 3)) (hf : jFl own i ci k t fin) (hc : h[o]? = some (jO ci fs)) (hv : fs[k]? = some v)
    (k : jV cc own d X b (pc + 3) ls (v :: st) h) : jV cc own d X b pc ls (.ref o :: st) h := by
  obtain ⟨l, g, p, e, R, s, m, args, below, meth, c, Q⟩ := X
  intro ok H locs a k' n' h1 h2 hR hz hS hL
  obtain ⟨C, T, N, ty, ⟨f1, f2, f3, f4⟩, f5, f6, f7, f8, f9⟩ := hf
  exact va_get ok.1 ok.2.1 ok.2.2.2.1 f2 ok.2.2.1 ok.2.2.2.2.2.2.2.1 hR.2 o (jws_at hc) f1 _ f5 (ok.2.2.2.1 _ f6) (fun x hx => hx) (v := jval g v) (by rw [List.getElem?_map, hv]; rfl) hd (k ok H locs a k' n' h1 h2 hR hz hS hL)
theorem e_put {i o ci k : Nat} {t : FieldType} {fs : List Value} {v : Value} (hd : decode cc pc = .ok (.putfield i, 3)) (hf : jFl own i ci k t false) (hc : h[o]? = some (jO ci fs)) (hl : k < fs.length) (hv : ∀ g : jG, narrow t (jval g v) = jval g v ∧ fits t (jval g v) = true)
    (kk : jV cc own d X b (pc + 3) ls st (h.set o (jO ci (fs.set k v)))) : jV cc own d X b pc ls (v :: .ref o :: st) h := by
  obtain ⟨l, g, p, e, R, s, m, args, below, meth, c, Q⟩ := X
  intro ok H locs a k' n' h1 h2 hR hz hS hL
  obtain ⟨C, T, N, ty, ⟨f1, f2, f3, f4⟩, f5, f6, rfl, f8, f9⟩ := hf
  have hap := va_apart (own := own) ok.2.2.2.1 f2 ty f3 f4 ok.2.2.2.2.2.2.2.1 f1
  obtain ⟨r, q0, cell, q1, q2, q3, q4⟩ := hR.2 o _ (jws_at hc)
  have hr : r = (C, T, N) := Option.some.inj (q0.symm.trans f1)
  subst hr
  obtain ⟨hSl, hfc, kC, hkC, hkind⟩ := ok.2.2.2.2.2.2.2.1.1 ci _ f1
  obtain ⟨cf, kf, fi, f, hi, hsl⟩ := hSl k f5
  have hlay := ok.2.2.2.1 _ (f2 _ (u_in_lay f5))
  unfold u_lay at hlay
  rw [if_neg (by rw [f8]; decide)] at hlay
  have hst := (u_facts hfc hkC (u_lays ok.2.2.2.1 f2 f5) hi).1
  have h6 := u_store hfc hkC hkind hlay hi (f3 k f5) (hv g).1 (hv g).2
  refine W.putK ok.1 ok.2.1 (f := f) ⟨ok.2.2.1, ok.2.2.2.1 _ f6, ⟨_, _, _, hi⟩, hst⟩ (by rw [q2]; exact h6) q1 q3 (by rw [hsl]; exact k2_hasslot (q4 k f5)) rfl rfl hd fun H' e1 e2 e3 => ?_
  rw [hsl] at e1 ⊢
  have hat : va_at g.2.2.1 vwCl (jad g o, jcell g (jO ci (fs.set k v))) H' := by
    refine ⟨_, f1, t_OB.to (V := updV (vp_V (fs.map (jval g))) k (jval g v)) ⟨_, e1, q2, q3, t_set q4 hap f5 _⟩ (fun j _ => ?_)⟩
    show updV (vp_V (fs.map (jval g))) k (jval g v) j = vp_V ((fs.set k v).map (jval g)) j
    rw [List.map_set]
    exact vp_updV_set (by simpa using hl) _ j
  exact kk ok H' _ a k' n' h1 h2 (jRep_set hR hc hat e3) (fun z => by rw [e2, hz z]; simp) (hS.put e2 e3 ((jws_D hR.1).2 o _ (jws_at hc))) hL
theorem e_putF {i o ci k : Nat} {t : FieldType} {fs : List Value} {v : Value} (hd : decode cc pc = .ok (.putfield i, 3)) (hf : jFl own i ci k t true) (hX : jInit X) (hown : ∀ C T N, vwCl[ci]? = some (C, T, N) → C = own) (hc : h[o]? = some (jO ci fs)) (hl : k < fs.length) (hv : ∀ g : jG, narrow t (jval g v) = jval g v ∧ fits t (jval g v) = true)
    (kk : jV cc own d X b (pc + 3) ls st (h.set o (jO ci (fs.set k v)))) : jV cc own d X b pc ls (v :: .ref o :: st) h := by
  obtain ⟨l, g, p, e, R, s, m, args, below, meth, c, Q⟩ := X
  intro ok H locs a k' n' h1 h2 hR hz hS hL
  obtain ⟨C, T, N, ty, ⟨f1, f2, f3, f4⟩, f5, f6, rfl, f8, f9⟩ := hf
  have hC := hown C T N f1
  have hap := va_apart (own := own) ok.2.2.2.1 f2 ty f3 f4 ok.2.2.2.2.2.2.2.1 f1
  obtain ⟨r, q0, cell, q1, q2, q3, q4⟩ := hR.2 o _ (jws_at hc)
  have hr : r = (C, T, N) := Option.some.inj (q0.symm.trans f1)
  subst hr
  obtain ⟨hSl, hfc, kC, hkC, hkind⟩ := ok.2.2.2.2.2.2.2.1.1 ci _ f1
  obtain ⟨cf, kf, fi, f, hi, hsl⟩ := hSl k f5
  have hlay := ok.2.2.2.1 _ (f2 _ (u_in_lay f5))
  unfold u_lay at hlay
  rw [if_pos f8] at hlay
  have hst := (u_facts hfc hkC (u_lays ok.2.2.2.1 f2 f5) hi).1
  have hcf : m.cls = cf := by
    obtain ⟨_, _, c', _, _, _, -, -, hf', -, -, -, hown2, -⟩ := Cond.laysFinal_spec hlay
    have e1 : c' = cf := by have := hi.symm.trans hf'; simp at this; exact this.1.symm
    rw [f9, hC] at hown2
    rw [← e1]; exact Option.some.inj (ok.2.2.1.symm.trans hown2)
  have h6 := u_fits hfc hkC hkind (Or.inr hlay) hi (f3 k f5) (hv g).1 (hv g).2
  refine W.putFinK ok.1 ok.2.1 ok.2.2.1 (ok.2.2.2.1 _ f6) hi hst hcf hX (by rw [q2]; exact h6) q1 q3 (by rw [hsl]; exact k2_hasslot (q4 k f5)) rfl rfl hd fun H' e1 e2 e3 => ?_
  rw [hsl] at e1 ⊢
  have hat : va_at g.2.2.1 vwCl (jad g o, jcell g (jO ci (fs.set k v))) H' := by
    refine ⟨_, f1, t_OB.to (V := updV (vp_V (fs.map (jval g))) k (jval g v)) ⟨_, e1, q2, q3, t_set q4 hap f5 _⟩ (fun j _ => ?_)⟩
    show updV (vp_V (fs.map (jval g))) k (jval g v) j = vp_V ((fs.set k v).map (jval g)) j
    rw [List.map_set]
    exact vp_updV_set (by simpa using hl) _ j
  exact kk ok H' _ a k' n' h1 h2 (jRep_set hR hc hat e3) (fun z => by rw [e2, hz z]; simp) (hS.put e2 e3 ((jws_D hR.1).2 o _ (jws_at hc))) hL
theorem e_iald {o n : Nat} {f : Nat → Int32} {i : Int32} (hd : decode cc pc = .ok (.iaload, 1)) (hc : h[o]? = some (jI n f)) (hi : vp_in i n) (k : jV cc own d X b (pc + 1) ls (.int (f i.toNatClampNeg) :: st) h) : jV cc own d X b pc ls (.int i :: .ref o :: st) h := by
  obtain ⟨l, g, p, e, R, s, m, args, below, meth, c, Q⟩ := X
  intro ok H locs a k' n' h1 h2 hR hz hS hL
  exact va_iald ok.1 ok.2.1 ok.2.2.2.2.2.2.2.1 hR.2 o 0 (jws_at hc) rfl hi hd (k ok H locs a k' n' h1 h2 hR hz hS hL)
theorem e_zald {o n : Nat} {f : Nat → Int32} {i : Int32} (hd : decode cc pc = .ok (.baload, 1)) (hc : h[o]? = some (jZ n f)) (hi : vp_in i n) (k : jV cc own d X b (pc + 1) ls (.int (f i.toNatClampNeg) :: st) h) : jV cc own d X b pc ls (.int i :: .ref o :: st) h := by
  obtain ⟨l, g, p, e, R, s, m, args, below, meth, c, Q⟩ := X
  intro ok H locs a k' n' h1 h2 hR hz hS hL
  exact va_zald ok.1 ok.2.1 ok.2.2.2.2.2.2.2.1 hR.2 o 1 (jws_at hc) rfl hi hd (k ok H locs a k' n' h1 h2 hR hz hS hL)
theorem e_aald {o n q : Nat} {f : Nat → Option Nat} {i : Int32} (hd : decode cc pc = .ok (.aaload, 1)) (hc : h[o]? = some (jR n f)) (hi : vp_in i n) (hq : f i.toNatClampNeg = some q) (k : jV cc own d X b (pc + 1) ls (.ref q :: st) h) : jV cc own d X b pc ls (.int i :: .ref o :: st) h := by
  obtain ⟨l, g, p, e, R, s, m, args, below, meth, c, Q⟩ := X
  intro ok H locs a k' n' h1 h2 hR hz hS hL
  refine va_aldq ok.1 ok.2.1 ok.2.2.2.2.2.2.2.1 hR.2 o 2 (jws_at hc) rfl hi hd ?_
  have e1 : va_rf ((f i.toNatClampNeg).map (jad g)) = jval g (.ref q) := by rw [hq]; rfl
  rw [e1]
  exact k ok H locs a k' n' h1 h2 hR hz hS hL
theorem jarr_at {n : Nat} {i : Int32} (hi : vp_in i n) : ¬ (i < 0 ∨ n ≤ i.toNatClampNeg) := hi
theorem e_iast {o n : Nat} {f : Nat → Int32} {i x : Int32} (hd : decode cc pc = .ok (.iastore, 1)) (hc : h[o]? = some (jI n f)) (hi : vp_in i n) (k : jV cc own d X b (pc + 1) ls st (h.set o (jI n (upd f i.toNatClampNeg x)))) : jV cc own d X b pc ls (.int x :: .int i :: .ref o :: st) h := by
  obtain ⟨l, g, p, e, R, s, m, args, below, meth, c, Q⟩ := X
  intro ok H locs a k' n' h1 h2 hR hz hS hL
  have hcell : H[jad g o]? = some (vp_cell g.2.2.2.1 (n, .inl f)) := hR.2 o _ (jws_at hc)
  refine W.iast ok.1 ok.2.1 hcell ((ok.2.2.2.2.2.2.2.1.2 0 _ rfl).1 n (fun j => .int (f j))) (fun q => by cases q) (by show ¬ (i < 0 ∨ (arrV _ _ _).slots.size ≤ _); rw [arrV_size]; exact hi) rfl rfl hd fun H' e1 e2 e3 => ?_
  have hat : va_at g.2.2.1 vwCl (jad g o, jcell g (jI n (upd f i.toNatClampNeg x))) H' := by
    show H'[jad g o]? = some (vp_cell _ _)
    rw [e1]
    show some (Cell.setSlot (vp_cell _ (n, .inl f)) _ _) = some (vp_cell _ (n, .inl _))
    rw [vp_cell_i, vp_cell_i, arrV_store]
    congr 2
    funext q
    by_cases hq : q = i.toNatClampNeg
    · subst hq; simp [updV, upd]
    · simp [updV, upd, hq]
  exact k ok H' _ a k' n' h1 h2 (jRep_set hR hc hat e3) (fun z => by rw [e2, hz z]; simp) (hS.put e2 e3 ((jws_D hR.1).2 o _ (jws_at hc))) hL
theorem e_zast {o n : Nat} {f : Nat → Int32} {i x : Int32} (hd : decode cc pc = .ok (.bastore, 1)) (hc : h[o]? = some (jZ n f)) (hi : vp_in i n) (hx : narrow .boolean (.int x) = .int x) (k : jV cc own d X b (pc + 1) ls st (h.set o (jZ n (upd f i.toNatClampNeg x)))) : jV cc own d X b pc ls (.int x :: .int i :: .ref o :: st) h := by
  obtain ⟨l, g, p, e, R, s, m, args, below, meth, c, Q⟩ := X
  intro ok H locs a k' n' h1 h2 hR hz hS hL
  have hcell : H[jad g o]? = some (vp_cell g.2.2.2.2.1 (n, .inl f)) := hR.2 o _ (jws_at hc)
  refine W.zast ok.1 ok.2.1 hcell ((ok.2.2.2.2.2.2.2.1.2 1 _ rfl).1 n (fun j => .int (f j))) (fun q => by cases q) (by show ¬ (i < 0 ∨ (arrV _ _ _).slots.size ≤ _); rw [arrV_size]; exact hi) rfl rfl hd fun H' e1 e2 e3 => ?_
  have hat : va_at g.2.2.1 vwCl (jad g o, jcell g (jZ n (upd f i.toNatClampNeg x))) H' := by
    show H'[jad g o]? = some (vp_cell _ _)
    rw [e1, hx]
    show some (Cell.setSlot (vp_cell _ (n, .inl f)) _ _) = some (vp_cell _ (n, .inl _))
    rw [vp_cell_i, vp_cell_i, arrV_store]
    congr 2
    funext q
    by_cases hq : q = i.toNatClampNeg
    · subst hq; simp [updV, upd]
    · simp [updV, upd, hq]
  exact k ok H' _ a k' n' h1 h2 (jRep_set hR hc hat e3) (fun z => by rw [e2, hz z]; simp) (hS.put e2 e3 ((jws_D hR.1).2 o _ (jws_at hc))) hL
theorem e_aast {o n v : Nat} {f : Nat → Option Nat} {i : Int32} {fs : List Value} (hd : decode cc pc = .ok (.aastore, 1)) (hc : h[o]? = some (jR n f)) (hi : vp_in i n) (hq : h[v]? = some (jO 3 fs)) (k : jV cc own d X b (pc + 1) ls st (h.set o (jR n (va_up f i.toNatClampNeg (some v))))) : jV cc own d X b pc ls (.ref v :: .int i :: .ref o :: st) h := by
  obtain ⟨l, g, p, e, R, s, m, args, below, meth, c, Q⟩ := X
  intro ok H locs a k' n' h1 h2 hR hz hS hL
  have hlt : i.toNatClampNeg < n := Nat.not_le.mp fun q => hi (Or.inr q)
  have h0 : ¬ i < 0 := fun q => hi (Or.inl q)
  obtain ⟨r', hr', cellV, g1, g2, g3, -⟩ := hR.2 v _ (jws_at hq)
  have hcls := (ok.2.2.2.2.2.2.2.1.1 3 _ rfl).2
  obtain ⟨kA, comp, k1, k2, k3, -⟩ := (ok.2.2.2.2.2.2.2.1.2 2 _ rfl).2
  have hcomp : comp = g.2.2.1.1 3 := Option.some.inj (k3.symm.trans hcls.1)
  subst hcomp
  obtain ⟨kC, hkC, -⟩ := id hcls.2
  have hcell : H[jad g o]? = some (vp_cell g.2.2.2.2.2 (n, .inr (.inr (.inr (.inr (fun k => (f k).map (jad g))))))) := hR.2 o _ (jws_at hc)
  refine W.aast ok.1 ok.2.1 hcell (fun q h => by cases h) (fun h => by cases h) k1 k2 rfl hkC ⟨h0, by show _ < (arrV _ _ _).slots.size; rw [arrV_size]; exact hlt⟩ g1 (fun q h => by rw [g3] at h; cases h) (by rw [g2]; exact hkC) (by rw [g2]; exact va_assign hcls) rfl rfl hd fun H' e1 e2 e3 => ?_
  have hat : va_at g.2.2.1 vwCl (jad g o, jcell g (jR n (va_up f i.toNatClampNeg (some v)))) H' := by
    show H'[jad g o]? = some (vp_cell _ _)
    rw [e1]
    show some (Cell.setSlot (vp_cell _ (n, .inr (.inr (.inr (.inr (fun k => (f k).map (jad g))))))) _ _) = some (vp_cell _ (n, .inr (.inr (.inr (.inr _)))))
    rw [vp_cell_q, vp_cell_q, arrV_store]
    congr 2
    funext q
    by_cases hq : q = i.toNatClampNeg
    · subst hq; simp [updV, va_up, va_rf]
    · simp [updV, va_up, hq]
  exact k ok H' _ a k' n' h1 h2 (jRep_set hR hc hat e3) (fun z => by rw [e2, hz z]; simp) (hS.put e2 e3 ((jws_D hR.1).2 o _ (jws_at hc))) hL
end JE
end
section
/-! rows of the judgement: statics, making, calls, returns -/
section JS
variable {cc : ByteArray} {own : String} {d : Nat} {X : jX} {b : jB} {pc : Nat} {ls : List (Option Value)} {st : List Value} {h : jH}
theorem e_gets {i : Nat} (j : Nat) {q : String × String × Nat × List Int32} (hd : decode cc pc = .ok (.getstatic i, 3)) (hq : jtabs[j]? = some q) (hl : Cond.fieldLink own i q.1 q.2.1 "[I" ∈ jT) (k : jV cc own d X b (pc + 3) ls (.ref (1000 + j) :: st) h) : jV cc own d X b pc ls st h := by
  obtain ⟨l, g, p, e, R, s, m, args, below, meth, c, Q⟩ := X
  intro ok H locs a k' n' h1 h2 hR hz hS hL
  have e1 : jval g (.ref (1000 + j)) = .ref (g.2.1 (1000 + j)) := by
    show Value.ref (jad g (1000 + j)) = _
    simp only [jad]
    rw [if_neg (by omega)]
  have kk := k ok H locs a k' n' h1 h2 hR hz hS hL
  rw [List.map_cons, e1] at kk
  exact va_gets ok.1 ok.2.1 (ok.2.2.2.2.2.2.2.2.1 j q hq).1 hS ok.2.2.1 (ok.2.2.2.1 _ hl) (fun x hx => hx) hd kk
theorem e_sald (j : Nat) {q : String × String × Nat × List Int32} {i : Int32} (hd : decode cc pc = .ok (.iaload, 1)) (hq : jtabs[j]? = some q) (hi : vp_in i q.2.2.1) (k : jV cc own d X b (pc + 1) ls (.int (q.2.2.2.getD i.toNatClampNeg 0) :: st) h) : jV cc own d X b pc ls (.int i :: .ref (1000 + j) :: st) h := by
  obtain ⟨l, g, p, e, R, s, m, args, below, meth, c, Q⟩ := X
  intro ok H locs a k' n' h1 h2 hR hz hS hL
  have e1 : jval g (.ref (1000 + j)) = .ref (g.2.1 (1000 + j)) := by
    show Value.ref (jad g (1000 + j)) = _
    simp only [jad]
    rw [if_neg (by omega)]
  have kk := k ok H locs a k' n' h1 h2 hR hz hS hL
  rw [List.map_cons, List.map_cons, e1]
  exact va_ti ok.1 ok.2.1 (ok.2.2.2.2.2.2.2.2.1 j q hq).2 hS hi rfl hd kk
/-- System.arraycopy between two int arrays -/
theorem e_copy {i a0 a1 n0 n1 : Nat} {f f1 : Nat → Int32} {sp dp n : Int32} (hd : decode cc pc = .ok (.invokestatic i, 3)) (hl : Cond.methodLink own i arraycopyName ∈ jT) (hw : Cond.native arraycopyName ∈ jT ∧ Cond.static arraycopyName ∈ jT ∧ Cond.initialized "java/lang/System" ∈ jT) (hc0 : h[a0]? = some (jI n0 f)) (hc1 : h[a1]? = some (jI n1 f1))
    (q1 : ¬ sp < 0) (q2 : ¬ dp < 0) (q3 : ¬ n < 0) (q4 : sp.toNatClampNeg + n.toNatClampNeg ≤ n0) (q5 : dp.toNatClampNeg + n.toNatClampNeg ≤ n1) (hdd : 1 ≤ d) (hsum : (st.map fun v => v.category).sum ≤ 8)
    (k : jV cc own d X none (pc + 3) ls st (h.set a1 (jI n1 (va_cpy f f1 sp.toNatClampNeg dp.toNatClampNeg n.toNatClampNeg)))) : jV cc own d X none pc ls (.int n :: .int dp :: .ref a1 :: .int sp :: .ref a0 :: st) h := by
  obtain ⟨l, g, p, e, R, s, m, args, below, meth, c, Q⟩ := X
  intro ok H locs a k' n' h1 h2 hR hz hS hL
  have hfr : 1 ≤ R.frames := Nat.le_trans hdd ok.2.2.2.2.2.1
  have hlo : 64 ≤ R.locals := Nat.le_trans (by omega) ok.2.2.2.2.2.2.1
  have hs2 : ((st.map (jval g)).map fun v => v.category).sum ≤ 8 := by
    rw [List.map_map]
    have : (fun v => (v : Value).category) ∘ jval g = fun v => v.category := by funext v; exact jval_cat g v
    rw [this]; exact hsum
  refine va_copyi (ty := .int) ok.1 ok.2.1 (by rw [hL.2.1]) ok.2.2.1 (ok.2.2.2.1 _ hl) (ok.2.2.2.1 _ hw.1) (ok.2.2.2.1 _ hw.2.1) (ok.2.2.2.1 _ hw.2.2) ok.2.2.2.2.2.2.2.1 hR.2 (jws_D hR.1) hS a0 a1 0 0 (jws_at hc0) (jws_at hc1) rfl rfl rfl q1 q2 q3 q4 q5 (fun i _ => rfl) hfr ?_ hd (fun H1 locs1 w1 w2 w3 => ?_)
  · have e0 : nativeFrameWords "java/lang/System" "arraycopy" 5 + 11 ≤ 56 := by decide +kernel
    omega
  · have e1 : (jws g h).set a1 (jad g a1, .inl (g.2.2.2.1, n1, .inl (va_cpy f f1 sp.toNatClampNeg dp.toNatClampNeg n.toNatClampNeg))) = jws g (h.set a1 (jI n1 (va_cpy f f1 sp.toNatClampNeg dp.toNatClampNeg n.toNatClampNeg))) := jws_set (c := jI n1 (va_cpy f f1 sp.toNatClampNeg dp.toNatClampNeg n.toNatClampNeg))
    rw [e1] at w1
    exact k ok H1 locs1 a k' n' h1 h2 ⟨by simp; exact hR.1, w1⟩ (fun z => by cases z) w3 hL
/-- Object's constructor -/
theorem e_obj {i o : Nat} (hd : decode cc pc = .ok (.invokespecial i, 3)) (hl : Cond.methodLink own i Lib.objectInit ∈ jT) (hw : Cond.instanceMethod Lib.objectInit ∈ jT ∧ Cond.code Lib.objectInit ⟨#[0xb1]⟩ 1 none ∈ jT) (hdd : 1 ≤ d) (hsum : (st.map fun v => v.category).sum ≤ 8)
    (k : jV cc own d X b (pc + 3) ls st h) : jV cc own d X b pc ls (.ref o :: st) h := by
  obtain ⟨l, g, p, e, R, s, m, args, below, meth, c, Q⟩ := X
  intro ok H locs a k' n' h1 h2 hR hz hS hL
  have hfr : 1 ≤ R.frames := Nat.le_trans hdd ok.2.2.2.2.2.1
  have hlo : 64 ≤ R.locals := Nat.le_trans (by omega) ok.2.2.2.2.2.2.1
  have hs2 : ((st.map (jval g)).map fun v => v.category).sum ≤ 8 := by
    rw [List.map_map]
    have : (fun v => (v : Value).category) ∘ jval g = fun v => v.category := by funext v; exact jval_cat g v
    rw [this]; exact hsum
  refine W.objInit ok.1 ok.2.1 ok.2.2.1 (ok.2.2.2.1 _ hl) (ok.2.2.2.1 _ hw.1) (ok.2.2.2.1 _ hw.2) rfl (by show a.size = _; rw [hL.2.1]) rfl hd hfr ?_ (k ok H locs a k' n' h1 h2 hR hz hS hL)
  show 2 * 0 + _ + 12 ≤ _
  omega
theorem e_newa {n : Int32} {N K M : Nat} (hd : decode cc pc = .ok (.newarray .int, 2)) (ha : Cond.arrayClass .int ∈ jT) (hn : ¬ n < 0) (hN : n.toNatClampNeg = N) (hN2 : N ≤ 100000) (hl : h.length < 1000)
    (k : jV cc own d X (some (K, M)) (pc + 2) ls (.ref h.length :: st) (h ++ [jI N (fun _ => 0)])) : jV cc own d X (some (K + 1, M + N)) pc ls (.int n :: st) h := by
  obtain ⟨l, g, p, e, R, s, m, args, below, meth, c, Q⟩ := X
  intro ok H locs a k' n' h1 h2 hR hz hS hL
  have hk : k' + (K + 1) ≤ R.cells := h1
  have hm : n' + (M + N) ≤ R.slots := h2
  have hz := hz rfl
  refine va_newaK (atype := .int) ok.1 ok.2.1 (ok.2.2.2.1 _ ha) rfl hd rfl hn hN (by show N * 4 ≤ _; omega) (by omega) (by omega) rfl fun H1 cA e1 z1 o1 hAr hNm => ?_
  have hcA : cA = g.2.2.2.1 := by
    have := (ok.2.2.2.2.2.2.2.1.2 0 _ rfl).2
    exact Option.some.inj (hNm.symm.trans this)
  subst hcA
  have e2 : jval g (.ref h.length) = .ref H.size := by
    show Value.ref (jad g h.length) = _
    simp only [jad]
    rw [if_pos hl, hz]
  have kk := k ok H1 locs a (k' + 1) (n' + N) (by show k' + 1 + K ≤ _; omega) (by show n' + N + M ≤ _; omega) (jRep_push (c := jI N (fun _ => 0)) hR hl hz e1 o1) (fun _ => by rw [z1, hz]; simp; omega) ⟨Nat.le_trans hS.1 (by omega), fun x q1 q2 => (o1 x (Nat.lt_of_lt_of_le q1 hS.1)).trans (hS.2.1 x q1 q2), hS.2.2⟩ hL
  rw [List.map_cons, e2] at kk
  exact kk
theorem e_newz {n : Int32} {N K M : Nat} (hd : decode cc pc = .ok (.newarray .boolean, 2)) (ha : Cond.arrayClass .boolean ∈ jT) (hn : ¬ n < 0) (hN : n.toNatClampNeg = N) (hN2 : N ≤ 100000) (hl : h.length < 1000)
    (k : jV cc own d X (some (K, M)) (pc + 2) ls (.ref h.length :: st) (h ++ [jZ N (fun _ => 0)])) : jV cc own d X (some (K + 1, M + N)) pc ls (.int n :: st) h := by
  obtain ⟨l, g, p, e, R, s, m, args, below, meth, c, Q⟩ := X
  intro ok H locs a k' n' h1 h2 hR hz hS hL
  have hk : k' + (K + 1) ≤ R.cells := h1
  have hm : n' + (M + N) ≤ R.slots := h2
  have hz := hz rfl
  refine va_newaK (atype := .boolean) ok.1 ok.2.1 (ok.2.2.2.1 _ ha) rfl hd rfl hn hN (by show N * 1 ≤ _; omega) (by omega) (by omega) rfl fun H1 cA e1 z1 o1 hAr hNm => ?_
  have hcA : cA = g.2.2.2.2.1 := by
    have := (ok.2.2.2.2.2.2.2.1.2 1 _ rfl).2
    exact Option.some.inj (hNm.symm.trans this)
  subst hcA
  have e2 : jval g (.ref h.length) = .ref H.size := by
    show Value.ref (jad g h.length) = _
    simp only [jad]
    rw [if_pos hl, hz]
  have kk := k ok H1 locs a (k' + 1) (n' + N) (by show k' + 1 + K ≤ _; omega) (by show n' + N + M ≤ _; omega) (jRep_push (c := jZ N (fun _ => 0)) hR hl hz e1 o1) (fun _ => by rw [z1, hz]; simp; omega) ⟨Nat.le_trans hS.1 (by omega), fun x q1 q2 => (o1 x (Nat.lt_of_lt_of_le q1 hS.1)).trans (hS.2.1 x q1 q2), hS.2.2⟩ hL
  rw [List.map_cons, e2] at kk
  exact kk
theorem e_newr {i : Nat} {n : Int32} {N K M : Nat} (hd : decode cc pc = .ok (.anewarray i, 3)) (hc : Cond.classLink own i "BellowsWords$House" ∈ jT) (hn : ¬ n < 0) (hN : n.toNatClampNeg = N) (hN2 : N ≤ 100000) (hl : h.length < 1000)
    (k : jV cc own d X (some (K, M)) (pc + 3) ls (.ref h.length :: st) (h ++ [jR N (fun _ => none)])) : jV cc own d X (some (K + 1, M + N)) pc ls (.int n :: st) h := by
  obtain ⟨l, g, p, e, R, s, m, args, below, meth, c, Q⟩ := X
  intro ok H locs a k' n' h1 h2 hR hz hS hL
  have hk : k' + (K + 1) ≤ R.cells := h1
  have hm : n' + (M + N) ≤ R.slots := h2
  subst hN
  replace hz := hz rfl
  refine W.anew ok.1 ok.2.1 ok.2.2.1 (ok.2.2.2.1 _ hc) (va_AO.use ok.2.2.2.2.2.2.2.2.2.2.2.1) rfl hd rfl hn (by omega) (by omega) (by omega) fun cA kA comp f1 f2 f3 f4 => ?_
  have hcA : cA = g.2.2.2.2.2 := by
    obtain ⟨kA, comp, -, -, -, k4⟩ := (ok.2.2.2.2.2.2.2.1.2 2 _ rfl).2
    exact Option.some.inj (f1.symm.trans k4)
  subst hcA
  generalize hH1 : H.push ({ cls := g.2.2.2.2.2, slots := Array.replicate n.toNatClampNeg .null, vm := .none } : Cell) = H1
  have z1 : H1.size = H.size + 1 := by rw [← hH1, Array.size_push]
  have e1 : H1[H.size]? = some (arrV g.2.2.2.2.2 n.toNatClampNeg (fun _ => .null)) := by rw [← hH1, Array.getElem?_push_size, ← arrV_new]
  have o1 : ∀ q, q < H.size → H1[q]? = H[q]? := by
    intro q hq
    rw [← hH1, Array.getElem?_push, if_neg (Nat.ne_of_lt hq)]
  have e2 : jval g (.ref h.length) = .ref H.size := by
    show Value.ref (jad g h.length) = _
    simp only [jad]
    rw [if_pos hl, hz]
  have kk := k ok H1 locs a (k' + 1) (n' + n.toNatClampNeg) (by show k' + 1 + K ≤ _; omega) (by show n' + n.toNatClampNeg + M ≤ _; omega) (jRep_push (c := jR n.toNatClampNeg (fun _ => none)) hR hl hz e1 o1) (fun _ => by rw [z1, hz]; simp; omega) ⟨Nat.le_trans hS.1 (by omega), fun x q1 q2 => (o1 x (Nat.lt_of_lt_of_le q1 hS.1)).trans (hS.2.1 x q1 q2), hS.2.2⟩ hL
  rw [List.map_cons, e2] at kk
  exact kk
theorem e_new {i ci N K M : Nat} {C : String} {T : u_T} {ty : Nat → FieldType} (fs : List Value) (hd : decode cc pc = .ok (.new i, 3)) (hC : jCl ci C T N ty) (hc : Cond.classLink own i C ∈ jT) (hi : Cond.instantiable C N ∈ jT) (hin : Cond.initialized C ∈ jT) (hfs : ∀ j, j < N → defaultValue (ty j) = vp_V fs j) (hfs2 : ∀ g : jG, fs.map (jval g) = fs) (hl : h.length < 1000)
    (k : jV cc own d X (some (K, M)) (pc + 3) ls (.ref h.length :: st) (h ++ [jO ci fs])) : jV cc own d X (some (K + 1, M + N)) pc ls st h := by
  obtain ⟨l, g, p, e, R, s, m, args, below, meth, c, Q⟩ := X
  intro ok H locs a k' n' h1 h2 hR hz hS hL
  have hk : k' + (K + 1) ≤ R.cells := h1
  have hm : n' + (M + N) ≤ R.slots := h2
  have hz := hz rfl
  obtain ⟨f1, f2, f3, f4⟩ := hC
  have hKn := ok.2.2.2.2.2.2.2.1.1 ci _ f1
  refine W.newcK ok.1 ok.2.1 ok.2.2.1 (ok.2.2.2.1 _ hc) (ok.2.2.2.1 _ hi) (ok.2.2.2.1 _ hin) rfl hd (by omega) (by omega) hKn.2.1 rfl fun H1 kC hkC e1 z1 o1 => ?_
  have hat : va_at g.2.2.1 vwCl (H.size, jcell g (jO ci fs)) H1 := by
    refine ⟨_, f1, (u_born ty ok.2.2.2.1 f2 hKn hkC e1 f3).to (fun j hj => ?_)⟩
    show _ = vp_V (fs.map (jval g)) j
    rw [hfs2]
    exact hfs j hj
  have e2 : jval g (.ref h.length) = .ref H.size := by
    show Value.ref (jad g h.length) = _
    simp only [jad]
    rw [if_pos hl, hz]
  have kk := k ok H1 locs a (k' + 1) (n' + N) (by show k' + 1 + K ≤ _; omega) (by show n' + N + M ≤ _; omega) (jRep_push (c := jO ci fs) hR hl hz hat o1) (fun _ => by rw [z1, hz]; simp; omega) ⟨Nat.le_trans hS.1 (by omega), fun x q1 q2 => (o1 x (Nat.lt_of_lt_of_le q1 hS.1)).trans (hS.2.1 x q1 q2), hS.2.2⟩ hL
  rw [List.map_cons, e2] at kk
  exact kk
/-- behind a call -/
theorem jrun {p : Program} {l : Launch} {e : Env} {R : Room} {s : State} {m : MethodId} {args : Array Value} {below : List Frame} {meth : Method} {c : Code} {H : Heap} {locs : List Loc} {k n mc ms pc : Nat} {a : Array Slot} {st0 rest : List Value} {g : jG} {b : jB} {post : Option Value → jH → Prop} {av : Array Value} {Q : State → Prop}
    (hr : va_Run p l e R s m args below meth c H locs k n mc ms (F0 m pc a st0) rest (jQc g b post av) (jA g)) (hS : va_S (jA g) s.heap H locs)
    (kk : ∀ (v : Option Value) (h' : jH) (H1 : Heap) (locs1 : List Loc), post v h' → jRep g h' H1 → (b.isSome = true → H1.size = g.1 + h'.length) → va_S (jA g) s.heap H1 locs1 → W p l e R s m args below meth c H1 locs1 (k + mc) (n + ms) Q (F0 m (pc + 3) a ((v.map (jval g)).toList ++ rest))) : W p l e R s m args below meth c H locs k n Q (F0 m pc a st0) := by
  intro T hT X
  obtain ⟨v, st₀, t, T', L, h0, X', hL, e1, e2, ⟨⟨v', h', hv, hp, hR, hz⟩, hz1, hk⟩, st⟩ := hr T hT X
  cases hv
  rw [h0] at hz1 hk
  obtain ⟨t2, a1, b1⟩ := kk v' h' T'.heap (locs ++ L) hp (by rw [e1]; exact hR) (fun z => by rw [e1]; exact hz z)
    ⟨Nat.le_trans hS.1 (by rw [e1]; exact hz1), fun q h1 h2 => by rw [e1, hk q (Nat.lt_of_lt_of_le h1 hS.1) h2]; exact hS.2.1 q h1 h2, fun q hq => by
      rcases List.mem_append.mp hq with h | h
      · exact hS.2.2 q h
      · exact hL q h⟩ T' rfl X'
  exact ⟨t2, st t2 a1, b1⟩
theorem jmap_toList (g : jG) (v : Option Value) (st : List Value) : (v.map (jval g)).toList ++ st.map (jval g) = (v.toList ++ st).map (jval g) := by cases v <;> rfl
theorem jblind {g : jG} {b : jB} {h : jH} {av : List Value} : FrameBlind (va_Pc av (fun U => jRep g h U.heap ∧ (b.isSome = true → U.heap.size = g.1 + h.length) ∧ jK g U U.heap)) := fun a U f mk q => by
  obtain ⟨q1, q2, q3, q4⟩ := q
  exact ⟨q1, q2, q3, va_K.moved (u := U) (U := U.calling f mk a) (Vm.Alike.refl U.vm) q4.1, fun j x hx => ⟨va_Z.moved (u := U) (U := U.calling f mk a) (Vm.Alike.refl U.vm) (q4.2.1 j x hx).1, va_T.moved (u := U) (U := U.calling f mk a) (Vm.Alike.refl U.vm) (q4.2.1 j x hx).2⟩, va_Nw.same rfl rfl q4.2.2.1, va_Nw.same rfl rfl q4.2.2.2.1, va_AO.moved (u := U) (U := U.calling f mk a) (Vm.Alike.refl U.vm) q4.2.2.2.2.1, q4.2.2.2.2.2⟩
theorem jsum8 {g : jG} {st : List Value} (hsum : (st.map fun v => v.category).sum ≤ 8) : ((st.map (jval g)).map fun v => v.category).sum ≤ 8 := by
  rw [List.map_map]
  have : (fun v => (v : Value).category) ∘ jval g = fun v => v.category := by funext v; exact jval_cat g v
  rw [this]; exact hsum
theorem jmem_code {y : MethodName} {yc : ByteArray} {maxL : Nat} {ret : Option FieldType} (h : Cond.code y yc maxL ret ∈ jT) : ∀ w ∈ Cond.code y yc maxL ret :: jT, w ∈ jT := fun w hw => (List.mem_cons.mp hw).elim (fun e => e ▸ h) id
/-- a call of a static method of ours -/
theorem e_cs {i maxL np dc : Nat} {y : MethodName} {yc : ByteArray} {ret : Option FieldType} {bc b' : jB} {As st0 : List Value} {post : Option Value → jH → Prop} (hd : decode cc pc = .ok (.invokestatic i, 3)) (hf : jCs own i y yc maxL ret np) (hM : jM y yc maxL ret dc bc As h post) (hdc : dc + 1 ≤ d) (hn : As.length = np) (hst : st0 = As.reverse ++ st) (hsum : (st.map fun v => v.category).sum ≤ 8) (hb : jBud b bc b')
    (k : ∀ (v : Option Value) (h' : jH), post v h' → jV cc own d X b' (pc + 3) ls (v.toList ++ st) h') : jV cc own d X b pc ls st0 h := by
  obtain ⟨l, g, p, e, R, s, m, args, below, meth, c, Q⟩ := X
  intro ok H locs a k' n' h1 h2 hR hz hS hL
  obtain ⟨f1, f2, f3, f4, f5, f6⟩ := hf
  obtain ⟨b1, b2, b3, b4⟩ := hb
  have hfr := ok.2.2.2.2.2.1
  have hlo := ok.2.2.2.2.2.2.1
  have hG : GoodIn jT (va_wsS own i y (Cond.code y yc maxL ret :: jT)) := jT_in (fun w hw => by
    rcases List.mem_append.mp hw with h | h
    · simp only [List.mem_cons, List.not_mem_nil, or_false] at h
      rcases h with rfl | rfl | rfl <;> assumption
    · exact jmem_code f4 w h)
  subst hst
  refine jrun (g := g) (b := bc) (post := post) (rest := st.map (jval g)) (va_runS (As := As.map (jval g)) (rest := st.map (jval g)) (n := np) (nL := c.maxLocals) ⟨ok.1, ok.2.1, rfl, ok.2.2.1, ok.2.2.2.1⟩ (hM l g) (va_cwS np ok.2.2.2.1 hG rfl rfl rfl f5 ⟨?_, ?_⟩) ⟨jblind, fun U hU hW => ⟨rfl, ?_, ?_, ?_⟩⟩ rfl (by simp; exact hn) (by show a.size = _; exact hL.2.1) (by simp) (lv_room (jsum8 hsum)) hd ⟨by omega, by omega⟩) hS (fun v h' H1 locs1 hp hR1 hz1 hS1 => ?_)
  · show dc + 1 ≤ R.frames; omega
  · show 8 + (maxL + 11) + 64 * dc ≤ R.locals; omega
  · rw [hU]; exact hR
  · rw [hU]; exact fun z => hz (by rw [← b3]; exact z)
  · exact jK_moved hW ok.2.2.2.2.2.2.2 (by rw [hU]; exact hS.1) (fun q q1 q2 => by rw [hU]; exact hS.2.1 q q1 q2)
  · rw [jmap_toList]
    exact k v h' hp ok H1 locs1 a (k' + jbk bc) (n' + jbn bc) (by omega) (by omega) hR1 (fun z => hz1 (by rw [b3, ← b4]; exact z)) hS1 hL
/-- a call of a private static method of a nest mate -/
theorem e_cn {i maxL np dc : Nat} {y : MethodName} {host : String} {yc : ByteArray} {ret : Option FieldType} {bc b' : jB} {As st0 : List Value} {post : Option Value → jH → Prop} (hd : decode cc pc = .ok (.invokestatic i, 3)) (hf : jCn own i y host yc maxL ret np) (hM : jM y yc maxL ret dc bc As h post) (hdc : dc + 1 ≤ d) (hn : As.length = np) (hst : st0 = As.reverse ++ st) (hsum : (st.map fun v => v.category).sum ≤ 8) (hb : jBud b bc b')
    (k : ∀ (v : Option Value) (h' : jH), post v h' → jV cc own d X b' (pc + 3) ls (v.toList ++ st) h') : jV cc own d X b pc ls st0 h := by
  obtain ⟨l, g, p, e, R, s, m, args, below, meth, c, Q⟩ := X
  intro ok H locs a k' n' h1 h2 hR hz hS hL
  obtain ⟨f1, f2, f3, f4, f5, f6⟩ := hf
  obtain ⟨b1, b2, b3, b4⟩ := hb
  have hfr := ok.2.2.2.2.2.1
  have hlo := ok.2.2.2.2.2.2.1
  have hG : GoodIn jT (Cond.code y yc maxL ret :: jT) := jT_in (jmem_code f4)
  subst hst
  refine jrun (g := g) (b := bc) (post := post) (rest := st.map (jval g)) (va_runSN (As := As.map (jval g)) (rest := st.map (jval g)) (n := np) (nL := c.maxLocals) ⟨ok.1, ok.2.1, rfl, ok.2.2.1, ok.2.2.2.1⟩ (hM l g) ⟨va_cnB np ok.2.2.2.1 hG rfl rfl rfl (f1 g s s.heap ok.2.2.2.2.2.2.2) (ok.2.2.2.1 _ f3) f5 ⟨?_, ?_⟩, ok.2.2.2.1 _ f2, trivial⟩ ⟨jblind, fun U hU hW => ⟨rfl, ?_, ?_, ?_⟩⟩ rfl (by simp; exact hn) (by show a.size = _; exact hL.2.1) (by simp) (lv_room (jsum8 hsum)) hd ⟨by omega, by omega⟩) hS (fun v h' H1 locs1 hp hR1 hz1 hS1 => ?_)
  · show dc + 1 ≤ R.frames; omega
  · show 8 + (maxL + 11) + 64 * dc ≤ R.locals; omega
  · rw [hU]; exact hR
  · rw [hU]; exact fun z => hz (by rw [← b3]; exact z)
  · exact jK_moved hW ok.2.2.2.2.2.2.2 (by rw [hU]; exact hS.1) (fun q q1 q2 => by rw [hU]; exact hS.2.1 q q1 q2)
  · rw [jmap_toList]
    exact k v h' hp ok H1 locs1 a (k' + jbk bc) (n' + jbn bc) (by omega) (by omega) hR1 (fun z => hz1 (by rw [b3, ← b4]; exact z)) hS1 hL
/-- a call of a method of an object -/
theorem e_cv {i maxL np dc o ci N : Nat} {y : MethodName} {yc : ByteArray} {T : u_T} {ret : Option FieldType} {bc b' : jB} {As st0 fs : List Value} {post : Option Value → jH → Prop} (hd : decode cc pc = .ok (.invokevirtual i, 3)) (hf : jCv own i y yc maxL ret np) (hM : jM y yc maxL ret dc bc (.ref o :: As) h post) (hdc : dc + 1 ≤ d) (hn : As.length = np) (hst : st0 = As.reverse ++ .ref o :: st) (hsum : (st.map fun v => v.category).sum ≤ 8) (hb : jBud b bc b') (hC : vwCl[ci]? = some (y.cls, T, N)) (hc : h[o]? = some (jO ci fs))
    (k : ∀ (v : Option Value) (h' : jH), post v h' → jV cc own d X b' (pc + 3) ls (v.toList ++ st) h') : jV cc own d X b pc ls st0 h := by
  obtain ⟨l, g, p, e, R, s, m, args, below, meth, c, Q⟩ := X
  intro ok H locs a k' n' h1 h2 hR hz hS hL
  obtain ⟨f1, f2, f3, f4, f5, f6, f7⟩ := hf
  obtain ⟨b1, b2, b3, b4⟩ := hb
  have hfr := ok.2.2.2.2.2.1
  have hlo := ok.2.2.2.2.2.2.1
  have hG : GoodIn jT (wsV own i y.cls y (Cond.code y yc maxL ret :: jT)) := jT_in (fun w hw => by
    rcases List.mem_append.mp hw with h | h
    · simp only [List.mem_cons, List.not_mem_nil, or_false] at h
      rcases h with rfl | rfl | rfl | rfl <;> assumption
    · exact jmem_code f5 w h)
  subst hst
  refine jrun (g := g) (b := bc) (post := post) (rest := st.map (jval g)) (va_runV (As := As.map (jval g)) (rest := st.map (jval g)) (n := np) (nL := c.maxLocals) (b := jad g o) ⟨ok.1, ok.2.1, rfl, ok.2.2.1, ok.2.2.2.1⟩ (hM l g) (cwV np ok.2.2.2.1 hG rfl rfl rfl ⟨rfl, f6⟩ ⟨?_, ?_⟩) ⟨jblind, va_recv ok.2.2.2.2.2.2.2.1 hR.2 hC (jws_at hc), fun U hU hW => ⟨rfl, ?_, ?_, ?_⟩⟩ rfl (by simp; exact hn) (by show a.size = _; exact hL.2.1) (by simp [jval]) (lv_room (jsum8 hsum)) hd ⟨by omega, by omega⟩) hS (fun v h' H1 locs1 hp hR1 hz1 hS1 => ?_)
  · show dc + 1 ≤ R.frames; omega
  · show 8 + (maxL + 11) + 64 * dc ≤ R.locals; omega
  · rw [hU]; exact hR
  · rw [hU]; exact fun z => hz (by rw [← b3]; exact z)
  · exact jK_moved hW ok.2.2.2.2.2.2.2 (by rw [hU]; exact hS.1) (fun q q1 q2 => by rw [hU]; exact hS.2.1 q q1 q2)
  · rw [jmap_toList]
    exact k v h' hp ok H1 locs1 a (k' + jbk bc) (n' + jbn bc) (by omega) (by omega) hR1 (fun z => hz1 (by rw [b3, ← b4]; exact z)) hS1 hL
/-- a call of a constructor of ours -/
theorem e_ci {i maxL np dc o : Nat} {y : MethodName} {yc : ByteArray} {bc b' : jB} {As st0 : List Value} {post : Option Value → jH → Prop} (hd : decode cc pc = .ok (.invokespecial i, 3)) (hf : jCi own i y yc maxL np) (hM : jM y yc maxL none dc bc (.ref o :: As) h post) (hdc : dc + 1 ≤ d) (hn : As.length = np) (hst : st0 = As.reverse ++ .ref o :: st) (hsum : (st.map fun v => v.category).sum ≤ 8) (hb : jBud b bc b')
    (k : ∀ (v : Option Value) (h' : jH), post v h' → jV cc own d X b' (pc + 3) ls (v.toList ++ st) h') : jV cc own d X b pc ls st0 h := by
  obtain ⟨l, g, p, e, R, s, m, args, below, meth, c, Q⟩ := X
  intro ok H locs a k' n' h1 h2 hR hz hS hL
  obtain ⟨f1, f2, f3, f4, f5, f6, f7⟩ := hf
  obtain ⟨b1, b2, b3, b4⟩ := hb
  have hfr := ok.2.2.2.2.2.1
  have hlo := ok.2.2.2.2.2.2.1
  have hG : GoodIn jT (Cond.code y yc maxL none :: jT) := jT_in (jmem_code f4)
  subst hst
  refine jrun (g := g) (b := bc) (post := post) (rest := st.map (jval g)) (va_runI (As := As.map (jval g)) (rest := st.map (jval g)) (n := np) (nL := c.maxLocals) (b := jad g o) ⟨ok.1, ok.2.1, rfl, ok.2.2.1, ok.2.2.2.1⟩ (hM l g) (cwI np ok.2.2.2.1 hG rfl rfl rfl (ok.2.2.2.1 _ f3) (ok.2.2.2.1 _ f1) (ok.2.2.2.1 _ f2) f5 f6 ⟨?_, ?_⟩) ⟨jblind, fun U hU hW => ⟨rfl, ?_, ?_, ?_⟩⟩ rfl (by simp; exact hn) (by show a.size = _; exact hL.2.1) (by simp [jval]) (lv_room (jsum8 hsum)) hd ⟨by omega, by omega⟩) hS (fun v h' H1 locs1 hp hR1 hz1 hS1 => ?_)
  · show dc + 1 ≤ R.frames; omega
  · show 8 + (maxL + 11) + 64 * dc ≤ R.locals; omega
  · rw [hU]; exact hR
  · rw [hU]; exact fun z => hz (by rw [← b3]; exact z)
  · exact jK_moved hW ok.2.2.2.2.2.2.2 (by rw [hU]; exact hS.1) (fun q q1 q2 => by rw [hU]; exact hS.2.1 q q1 q2)
  · rw [jmap_toList]
    exact k v h' hp ok H1 locs1 a (k' + jbk bc) (n' + jbn bc) (by omega) (by omega) hR1 (fun z => hz1 (by rw [b3, ← b4]; exact z)) hS1 hL
/-- returns -/
theorem e_iret {b0 : jB} {post : Option Value → jH → Prop} {x : Int32} (hX : jRet X (some .int) b0 post) (hd : decode cc pc = .ok (.ireturn, 1)) (hp : post (some (.int x)) h) (hb : b0.isSome = true → b.isSome = true) : jV cc own d X b pc ls [.int x] h := by
  obtain ⟨l, g, p, e, R, s, m, args, below, meth, c, Q⟩ := X
  intro ok H locs a k' n' h1 h2 hR hz hS hL
  obtain ⟨r1, r2, r3, rfl⟩ := hX
  refine W.widen (k := jbk b0) (n := jbn b0) (by omega) (by omega) ?_
  exact W.iret ok.1 ok.2.1 r1 (fun t ht _ => ⟨⟨some (.int x), h, rfl, hp, by rw [ht]; exact hR, fun z => by rw [ht]; exact hz (hb z)⟩, hS.F ht⟩) (fun q hq => hS.2.2 q hq) hd ok.2.2.2.2.1
theorem e_zret {b0 : jB} {post : Option Value → jH → Prop} {x : Int32} (hX : jRet X (some .boolean) b0 post) (hd : decode cc pc = .ok (.ireturn, 1)) (hx : narrow .boolean (.int x) = .int x) (hp : post (some (.int x)) h) (hb : b0.isSome = true → b.isSome = true) : jV cc own d X b pc ls [.int x] h := by
  obtain ⟨l, g, p, e, R, s, m, args, below, meth, c, Q⟩ := X
  intro ok H locs a k' n' h1 h2 hR hz hS hL
  obtain ⟨r1, r2, r3, rfl⟩ := hX
  refine W.widen (k := jbk b0) (n := jbn b0) (by omega) (by omega) ?_
  exact W.zret ok.1 ok.2.1 r1 hx (fun t ht _ => ⟨⟨some (.int x), h, rfl, hp, by rw [ht]; exact hR, fun z => by rw [ht]; exact hz (hb z)⟩, hS.F ht⟩) (fun q hq => hS.2.2 q hq) hd ok.2.2.2.2.1
theorem e_ret {b0 : jB} {post : Option Value → jH → Prop} (hX : jRet X none b0 post) (hd : decode cc pc = .ok (.return_, 1)) (hp : post none h) (hb : b0.isSome = true → b.isSome = true) : jV cc own d X b pc ls [] h := by
  obtain ⟨l, g, p, e, R, s, m, args, below, meth, c, Q⟩ := X
  intro ok H locs a k' n' h1 h2 hR hz hS hL
  obtain ⟨r1, r2, r3, rfl⟩ := hX
  refine W.widen (k := jbk b0) (n := jbn b0) (by omega) (by omega) ?_
  exact W.vret ok.1 ok.2.1 r1 (fun t ht _ => ⟨⟨none, h, rfl, hp, by rw [ht]; exact hR, fun z => by rw [ht]; exact hz (hb z)⟩, hS.F ht⟩) (fun q hq => hS.2.2 q hq) hd ok.2.2.2.2.1
theorem e_aret {b0 : jB} {post : Option Value → jH → Prop} {o : Nat} {C : String} (hX : jRet X (some (.object C)) b0 post) (hd : decode cc pc = .ok (.areturn, 1)) (hp : post (some (.ref o)) h) (hb : b0.isSome = true → b.isSome = true) : jV cc own d X b pc ls [.ref o] h := by
  obtain ⟨l, g, p, e, R, s, m, args, below, meth, c, Q⟩ := X
  intro ok H locs a k' n' h1 h2 hR hz hS hL
  obtain ⟨r1, r2, r3, rfl⟩ := hX
  refine W.widen (k := jbk b0) (n := jbn b0) (by omega) (by omega) ?_
  exact W.aret ok.1 ok.2.1 r1 (Or.inl ⟨_, rfl⟩) (Or.inr ⟨_, rfl⟩) (fun t ht _ => ⟨⟨some (.ref o), h, rfl, hp, by rw [ht]; exact hR, fun z => by rw [ht]; exact hz (hb z)⟩, hS.F ht⟩) (fun q hq => hS.2.2 q hq) hd ok.2.2.2.2.1
end JS
end
section
theorem jm_0 {w : Cond} (i : Nat) (h : (k2_sels lw_privs)[i]? = some w) (hg : goodWord w = true) : w ∈ jT := List.mem_filter.mpr ⟨List.mem_append_left _ (List.mem_of_getElem? h), hg⟩
theorem jm_1 {w : Cond} (i : Nat) (h : tables_1_1[i]? = some w) (hg : goodWord w = true) : w ∈ jT := List.mem_filter.mpr ⟨List.mem_append_right _ (show w ∈ tables_1 from List.mem_append_left _ (List.mem_of_getElem? h)), hg⟩
theorem jm_2 {w : Cond} (i : Nat) (h : tables_1_2[i]? = some w) (hg : goodWord w = true) : w ∈ jT := List.mem_filter.mpr ⟨List.mem_append_right _ (show w ∈ tables_1 from List.mem_append_right _ (List.mem_append_left _ (List.mem_of_getElem? h))), hg⟩
theorem jm_3 {w : Cond} (i : Nat) (h : tables_1_3[i]? = some w) (hg : goodWord w = true) : w ∈ jT := List.mem_filter.mpr ⟨List.mem_append_right _ (show w ∈ tables_1 from List.mem_append_right _ (List.mem_append_right _ (List.mem_append_left _ (List.mem_of_getElem? h)))), hg⟩
theorem jm_4 {w : Cond} (i : Nat) (h : tables_1_4[i]? = some w) (hg : goodWord w = true) : w ∈ jT := List.mem_filter.mpr ⟨List.mem_append_right _ (show w ∈ tables_1 from List.mem_append_right _ (List.mem_append_right _ (List.mem_append_right _ (List.mem_append_left _ (List.mem_of_getElem? h))))), hg⟩
theorem jm_5 {w : Cond} (i : Nat) (h : tables_1_5[i]? = some w) (hg : goodWord w = true) : w ∈ jT := List.mem_filter.mpr ⟨List.mem_append_right _ (show w ∈ tables_1 from List.mem_append_right _ (List.mem_append_right _ (List.mem_append_right _ (List.mem_append_right _ (List.mem_of_getElem? h))))), hg⟩
theorem t_209 : Cond.laysFinal RX0 RX0 "before" "[LBellowsWords$House;" ∈ jT := jm_1 150 (by decide +kernel) rfl
theorem t_211 : Cond.lays RX0 RX0 "next" "I" ∈ jT := jm_1 152 (by decide +kernel) rfl
theorem t_213 : Cond.lays RX0 RX0 "kept" "I" ∈ jT := jm_1 154 (by decide +kernel) rfl
theorem u_in_X0 : ∀ w ∈ u_ws RX0 TX0 3, w ∈ jT := by
  have e : u_ws RX0 TX0 3 = [Cond.laysFinal RX0 RX0 "before" "[LBellowsWords$House;", Cond.lays RX0 RX0 "next" "I", Cond.lays RX0 RX0 "kept" "I"] := rfl
  rw [e]
  refine List.forall_mem_cons.mpr ⟨t_209, ?_⟩
  refine List.forall_mem_cons.mpr ⟨t_211, ?_⟩
  refine List.forall_mem_cons.mpr ⟨t_213, ?_⟩
  exact fun _ h => absurd h List.not_mem_nil
theorem clX0 : jCl 0 RX0 TX0 3 tyX0 := ⟨rfl, u_in_X0, tyX0_ok, nmX0⟩
theorem t_244 : Cond.laysFinal RX1 RX1 "numbers" "[I" ∈ jT := jm_1 185 (by decide +kernel) rfl
theorem t_246 : Cond.lays RX1 RX1 "traced" "I" ∈ jT := jm_1 187 (by decide +kernel) rfl
theorem u_in_X1 : ∀ w ∈ u_ws RX1 TX1 2, w ∈ jT := by
  have e : u_ws RX1 TX1 2 = [Cond.laysFinal RX1 RX1 "numbers" "[I", Cond.lays RX1 RX1 "traced" "I"] := rfl
  rw [e]
  refine List.forall_mem_cons.mpr ⟨t_244, ?_⟩
  refine List.forall_mem_cons.mpr ⟨t_246, ?_⟩
  exact fun _ h => absurd h List.not_mem_nil
theorem clX1 : jCl 1 RX1 TX1 2 tyX1 := ⟨rfl, u_in_X1, tyX1_ok, nmX1⟩
theorem t_227 : Cond.laysFinal RX2 RX2 "trial" "LBellowsWords$House;" ∈ jT := jm_1 168 (by decide +kernel) rfl
theorem t_229 : Cond.laysFinal RX2 RX2 "oneGets" "[I" ∈ jT := jm_1 170 (by decide +kernel) rfl
theorem t_231 : Cond.laysFinal RX2 RX2 "otherGets" "[I" ∈ jT := jm_1 172 (by decide +kernel) rfl
theorem u_in_X2 : ∀ w ∈ u_ws RX2 TX2 3, w ∈ jT := by
  have e : u_ws RX2 TX2 3 = [Cond.laysFinal RX2 RX2 "trial" "LBellowsWords$House;", Cond.laysFinal RX2 RX2 "oneGets" "[I", Cond.laysFinal RX2 RX2 "otherGets" "[I"] := rfl
  rw [e]
  refine List.forall_mem_cons.mpr ⟨t_227, ?_⟩
  refine List.forall_mem_cons.mpr ⟨t_229, ?_⟩
  refine List.forall_mem_cons.mpr ⟨t_231, ?_⟩
  exact fun _ h => absurd h List.not_mem_nil
theorem clX2 : jCl 2 RX2 TX2 3 tyX2 := ⟨rfl, u_in_X2, tyX2_ok, nmX2⟩
theorem t_151 : Cond.lays RX3 RX3 "day" "I" ∈ jT := jm_1 92 (by decide +kernel) rfl
theorem t_153 : Cond.lays RX3 RX3 "warm" "I" ∈ jT := jm_1 94 (by decide +kernel) rfl
theorem t_155 : Cond.lays RX3 RX3 "takes" "I" ∈ jT := jm_1 96 (by decide +kernel) rfl
theorem t_157 : Cond.lays RX3 RX3 "hearths" "I" ∈ jT := jm_1 98 (by decide +kernel) rfl
theorem t_159 : Cond.lays RX3 RX3 "pairs" "I" ∈ jT := jm_1 100 (by decide +kernel) rfl
theorem t_161 : Cond.laysFinal RX3 RX3 "fire" "[I" ∈ jT := jm_1 102 (by decide +kernel) rfl
theorem t_163 : Cond.laysFinal RX3 RX3 "kinds" "[I" ∈ jT := jm_1 104 (by decide +kernel) rfl
theorem t_165 : Cond.laysFinal RX3 RX3 "breath" "[I" ∈ jT := jm_1 106 (by decide +kernel) rfl
theorem t_167 : Cond.laysFinal RX3 RX3 "place" "[I" ∈ jT := jm_1 108 (by decide +kernel) rfl
theorem t_169 : Cond.laysFinal RX3 RX3 "pegIn" "[I" ∈ jT := jm_1 110 (by decide +kernel) rfl
theorem t_171 : Cond.laysFinal RX3 RX3 "blown" "[I" ∈ jT := jm_1 112 (by decide +kernel) rfl
theorem u_in_X3 : ∀ w ∈ u_ws RX3 TX3 11, w ∈ jT := by
  have e : u_ws RX3 TX3 11 = [Cond.lays RX3 RX3 "day" "I", Cond.lays RX3 RX3 "warm" "I", Cond.lays RX3 RX3 "takes" "I", Cond.lays RX3 RX3 "hearths" "I", Cond.lays RX3 RX3 "pairs" "I", Cond.laysFinal RX3 RX3 "fire" "[I", Cond.laysFinal RX3 RX3 "kinds" "[I", Cond.laysFinal RX3 RX3 "breath" "[I", Cond.laysFinal RX3 RX3 "place" "[I", Cond.laysFinal RX3 RX3 "pegIn" "[I", Cond.laysFinal RX3 RX3 "blown" "[I"] := rfl
  rw [e]
  refine List.forall_mem_cons.mpr ⟨t_151, ?_⟩
  refine List.forall_mem_cons.mpr ⟨t_153, ?_⟩
  refine List.forall_mem_cons.mpr ⟨t_155, ?_⟩
  refine List.forall_mem_cons.mpr ⟨t_157, ?_⟩
  refine List.forall_mem_cons.mpr ⟨t_159, ?_⟩
  refine List.forall_mem_cons.mpr ⟨t_161, ?_⟩
  refine List.forall_mem_cons.mpr ⟨t_163, ?_⟩
  refine List.forall_mem_cons.mpr ⟨t_165, ?_⟩
  refine List.forall_mem_cons.mpr ⟨t_167, ?_⟩
  refine List.forall_mem_cons.mpr ⟨t_169, ?_⟩
  refine List.forall_mem_cons.mpr ⟨t_171, ?_⟩
  exact fun _ h => absurd h List.not_mem_nil
theorem clX3 : jCl 3 RX3 TX3 11 tyX3 := ⟨rfl, u_in_X3, tyX3_ok, nmX3⟩
theorem t_90 : Cond.laysFinal RX4 RX4 "lanes" "[I" ∈ jT := jm_1 31 (by decide +kernel) rfl
theorem t_92 : Cond.laysFinal RX4 RX4 "lengths" "[I" ∈ jT := jm_1 33 (by decide +kernel) rfl
theorem t_94 : Cond.laysFinal RX4 RX4 "items" "[I" ∈ jT := jm_1 35 (by decide +kernel) rfl
theorem u_in_X4 : ∀ w ∈ u_ws RX4 TX4 3, w ∈ jT := by
  have e : u_ws RX4 TX4 3 = [Cond.laysFinal RX4 RX4 "lanes" "[I", Cond.laysFinal RX4 RX4 "lengths" "[I", Cond.laysFinal RX4 RX4 "items" "[I"] := rfl
  rw [e]
  refine List.forall_mem_cons.mpr ⟨t_90, ?_⟩
  refine List.forall_mem_cons.mpr ⟨t_92, ?_⟩
  refine List.forall_mem_cons.mpr ⟨t_94, ?_⟩
  exact fun _ h => absurd h List.not_mem_nil
theorem clX4 : jCl 4 RX4 TX4 3 tyX4 := ⟨rfl, u_in_X4, tyX4_ok, nmX4⟩
theorem t_183 : Cond.laysFinal RX5 RX5 "draft" "LBellowsWords$House;" ∈ jT := jm_1 124 (by decide +kernel) rfl
theorem t_185 : Cond.laysFinal RX5 RX5 "bytes" "[I" ∈ jT := jm_1 126 (by decide +kernel) rfl
theorem t_187 : Cond.lays RX5 RX5 "length" "I" ∈ jT := jm_1 128 (by decide +kernel) rfl
theorem t_189 : Cond.lays RX5 RX5 "at" "I" ∈ jT := jm_1 130 (by decide +kernel) rfl
theorem t_191 : Cond.lays RX5 RX5 "latestFault" "I" ∈ jT := jm_1 132 (by decide +kernel) rfl
theorem u_in_X5 : ∀ w ∈ u_ws RX5 TX5 5, w ∈ jT := by
  have e : u_ws RX5 TX5 5 = [Cond.laysFinal RX5 RX5 "draft" "LBellowsWords$House;", Cond.laysFinal RX5 RX5 "bytes" "[I", Cond.lays RX5 RX5 "length" "I", Cond.lays RX5 RX5 "at" "I", Cond.lays RX5 RX5 "latestFault" "I"] := rfl
  rw [e]
  refine List.forall_mem_cons.mpr ⟨t_183, ?_⟩
  refine List.forall_mem_cons.mpr ⟨t_185, ?_⟩
  refine List.forall_mem_cons.mpr ⟨t_187, ?_⟩
  refine List.forall_mem_cons.mpr ⟨t_189, ?_⟩
  refine List.forall_mem_cons.mpr ⟨t_191, ?_⟩
  exact fun _ h => absurd h List.not_mem_nil
theorem clX5 : jCl 5 RX5 TX5 5 tyX5 := ⟨rfl, u_in_X5, tyX5_ok, nmX5⟩
theorem t_257 : Cond.laysFinal RX6 RX6 "rows" "LBellowsWords$Rows;" ∈ jT := jm_1 198 (by decide +kernel) rfl
theorem t_259 : Cond.laysFinal RX6 RX6 "tape" "LBellowsWords$Tape;" ∈ jT := jm_1 200 (by decide +kernel) rfl
theorem t_261 : Cond.laysFinal RX6 RX6 "now" "LBellowsWords$House;" ∈ jT := jm_1 202 (by decide +kernel) rfl
theorem t_263 : Cond.laysFinal RX6 RX6 "acts" "LBellowsWords$Acts;" ∈ jT := jm_1 204 (by decide +kernel) rfl
theorem t_265 : Cond.laysFinal RX6 RX6 "images" "[LBellowsWords$House;" ∈ jT := jm_1 206 (by decide +kernel) rfl
theorem t_267 : Cond.laysFinal RX6 RX6 "foreteller" "LBellowsWords$Foreteller;" ∈ jT := jm_1 208 (by decide +kernel) rfl
theorem t_269 : Cond.laysFinal RX6 RX6 "asker" "LBellowsWords$Asker;" ∈ jT := jm_1 210 (by decide +kernel) rfl
theorem t_271 : Cond.lays RX6 RX6 "finding" "I" ∈ jT := jm_1 212 (by decide +kernel) rfl
theorem u_in_X6 : ∀ w ∈ u_ws RX6 TX6 8, w ∈ jT := by
  have e : u_ws RX6 TX6 8 = [Cond.laysFinal RX6 RX6 "rows" "LBellowsWords$Rows;", Cond.laysFinal RX6 RX6 "tape" "LBellowsWords$Tape;", Cond.laysFinal RX6 RX6 "now" "LBellowsWords$House;", Cond.laysFinal RX6 RX6 "acts" "LBellowsWords$Acts;", Cond.laysFinal RX6 RX6 "images" "[LBellowsWords$House;", Cond.laysFinal RX6 RX6 "foreteller" "LBellowsWords$Foreteller;", Cond.laysFinal RX6 RX6 "asker" "LBellowsWords$Asker;", Cond.lays RX6 RX6 "finding" "I"] := rfl
  rw [e]
  refine List.forall_mem_cons.mpr ⟨t_257, ?_⟩
  refine List.forall_mem_cons.mpr ⟨t_259, ?_⟩
  refine List.forall_mem_cons.mpr ⟨t_261, ?_⟩
  refine List.forall_mem_cons.mpr ⟨t_263, ?_⟩
  refine List.forall_mem_cons.mpr ⟨t_265, ?_⟩
  refine List.forall_mem_cons.mpr ⟨t_267, ?_⟩
  refine List.forall_mem_cons.mpr ⟨t_269, ?_⟩
  refine List.forall_mem_cons.mpr ⟨t_271, ?_⟩
  exact fun _ h => absurd h List.not_mem_nil
theorem clX6 : jCl 6 RX6 TX6 8 tyX6 := ⟨rfl, u_in_X6, tyX6_ok, nmX6⟩
theorem t_774 : Cond.laysFinal RX7 RX7 "lane" "[I" ∈ jT := jm_3 235 (by decide +kernel) rfl
theorem t_776 : Cond.laysFinal RX7 RX7 "many" "[I" ∈ jT := jm_3 237 (by decide +kernel) rfl
theorem t_778 : Cond.laysFinal RX7 RX7 "items" "[I" ∈ jT := jm_3 239 (by decide +kernel) rfl
theorem t_780 : Cond.laysFinal RX7 RX7 "spare" "[I" ∈ jT := jm_4 1 (by decide +kernel) rfl
theorem t_782 : Cond.lays RX7 RX7 "status" "I" ∈ jT := jm_4 3 (by decide +kernel) rfl
theorem t_784 : Cond.laysFinal RX7 RX7 "tape" "[I" ∈ jT := jm_4 5 (by decide +kernel) rfl
theorem t_786 : Cond.lays RX7 RX7 "taped" "I" ∈ jT := jm_4 7 (by decide +kernel) rfl
theorem t_788 : Cond.lays RX7 RX7 "faultKind" "I" ∈ jT := jm_4 9 (by decide +kernel) rfl
theorem t_790 : Cond.lays RX7 RX7 "faultPlace" "I" ∈ jT := jm_4 11 (by decide +kernel) rfl
theorem t_792 : Cond.lays RX7 RX7 "at" "I" ∈ jT := jm_4 13 (by decide +kernel) rfl
theorem t_794 : Cond.lays RX7 RX7 "start" "I" ∈ jT := jm_4 15 (by decide +kernel) rfl
theorem t_796 : Cond.lays RX7 RX7 "token" "I" ∈ jT := jm_4 17 (by decide +kernel) rfl
theorem t_798 : Cond.lays RX7 RX7 "value" "I" ∈ jT := jm_4 19 (by decide +kernel) rfl
theorem t_800 : Cond.laysFinal RX7 RX7 "now" "[I" ∈ jT := jm_4 21 (by decide +kernel) rfl
theorem t_802 : Cond.laysFinal RX7 RX7 "draft" "[I" ∈ jT := jm_4 23 (by decide +kernel) rfl
theorem t_804 : Cond.laysFinal RX7 RX7 "tried" "[I" ∈ jT := jm_4 25 (by decide +kernel) rfl
theorem t_806 : Cond.laysFinal RX7 RX7 "past" "[I" ∈ jT := jm_4 27 (by decide +kernel) rfl
theorem t_808 : Cond.lays RX7 RX7 "acts" "I" ∈ jT := jm_4 29 (by decide +kernel) rfl
theorem t_810 : Cond.laysFinal RX7 RX7 "images" "[I" ∈ jT := jm_4 31 (by decide +kernel) rfl
theorem t_812 : Cond.laysFinal RX7 RX7 "kept" "[Z" ∈ jT := jm_4 33 (by decide +kernel) rfl
theorem t_814 : Cond.laysFinal RX7 RX7 "fires" "[I" ∈ jT := jm_4 35 (by decide +kernel) rfl
theorem t_816 : Cond.laysFinal RX7 RX7 "blown" "[I" ∈ jT := jm_4 37 (by decide +kernel) rfl
theorem t_818 : Cond.laysFinal RX7 RX7 "ones" "[I" ∈ jT := jm_4 39 (by decide +kernel) rfl
theorem t_820 : Cond.laysFinal RX7 RX7 "others" "[I" ∈ jT := jm_4 41 (by decide +kernel) rfl
theorem t_822 : Cond.laysFinal RX7 RX7 "trace" "[I" ∈ jT := jm_4 43 (by decide +kernel) rfl
theorem t_824 : Cond.lays RX7 RX7 "traced" "I" ∈ jT := jm_4 45 (by decide +kernel) rfl
theorem u_in_X7 : ∀ w ∈ u_ws RX7 TX7 26, w ∈ jT := by
  have e : u_ws RX7 TX7 26 = [Cond.laysFinal RX7 RX7 "lane" "[I", Cond.laysFinal RX7 RX7 "many" "[I", Cond.laysFinal RX7 RX7 "items" "[I", Cond.laysFinal RX7 RX7 "spare" "[I", Cond.lays RX7 RX7 "status" "I", Cond.laysFinal RX7 RX7 "tape" "[I", Cond.lays RX7 RX7 "taped" "I", Cond.lays RX7 RX7 "faultKind" "I", Cond.lays RX7 RX7 "faultPlace" "I", Cond.lays RX7 RX7 "at" "I", Cond.lays RX7 RX7 "start" "I", Cond.lays RX7 RX7 "token" "I", Cond.lays RX7 RX7 "value" "I", Cond.laysFinal RX7 RX7 "now" "[I", Cond.laysFinal RX7 RX7 "draft" "[I", Cond.laysFinal RX7 RX7 "tried" "[I", Cond.laysFinal RX7 RX7 "past" "[I", Cond.lays RX7 RX7 "acts" "I", Cond.laysFinal RX7 RX7 "images" "[I", Cond.laysFinal RX7 RX7 "kept" "[Z", Cond.laysFinal RX7 RX7 "fires" "[I", Cond.laysFinal RX7 RX7 "blown" "[I", Cond.laysFinal RX7 RX7 "ones" "[I", Cond.laysFinal RX7 RX7 "others" "[I", Cond.laysFinal RX7 RX7 "trace" "[I", Cond.lays RX7 RX7 "traced" "I"] := rfl
  rw [e]
  refine List.forall_mem_cons.mpr ⟨t_774, ?_⟩
  refine List.forall_mem_cons.mpr ⟨t_776, ?_⟩
  refine List.forall_mem_cons.mpr ⟨t_778, ?_⟩
  refine List.forall_mem_cons.mpr ⟨t_780, ?_⟩
  refine List.forall_mem_cons.mpr ⟨t_782, ?_⟩
  refine List.forall_mem_cons.mpr ⟨t_784, ?_⟩
  refine List.forall_mem_cons.mpr ⟨t_786, ?_⟩
  refine List.forall_mem_cons.mpr ⟨t_788, ?_⟩
  refine List.forall_mem_cons.mpr ⟨t_790, ?_⟩
  refine List.forall_mem_cons.mpr ⟨t_792, ?_⟩
  refine List.forall_mem_cons.mpr ⟨t_794, ?_⟩
  refine List.forall_mem_cons.mpr ⟨t_796, ?_⟩
  refine List.forall_mem_cons.mpr ⟨t_798, ?_⟩
  refine List.forall_mem_cons.mpr ⟨t_800, ?_⟩
  refine List.forall_mem_cons.mpr ⟨t_802, ?_⟩
  refine List.forall_mem_cons.mpr ⟨t_804, ?_⟩
  refine List.forall_mem_cons.mpr ⟨t_806, ?_⟩
  refine List.forall_mem_cons.mpr ⟨t_808, ?_⟩
  refine List.forall_mem_cons.mpr ⟨t_810, ?_⟩
  refine List.forall_mem_cons.mpr ⟨t_812, ?_⟩
  refine List.forall_mem_cons.mpr ⟨t_814, ?_⟩
  refine List.forall_mem_cons.mpr ⟨t_816, ?_⟩
  refine List.forall_mem_cons.mpr ⟨t_818, ?_⟩
  refine List.forall_mem_cons.mpr ⟨t_820, ?_⟩
  refine List.forall_mem_cons.mpr ⟨t_822, ?_⟩
  refine List.forall_mem_cons.mpr ⟨t_824, ?_⟩
  exact fun _ h => absurd h List.not_mem_nil
theorem clX7 : jCl 7 RX7 TX7 26 tyX7 := ⟨rfl, u_in_X7, tyX7_ok, nmX7⟩
theorem t_85 : Cond.fieldLink RX4 9 RX4 "lanes" "[I" ∈ jT := jm_1 26 (by decide +kernel) rfl
theorem fX4_9 : jFl RX4 9 4 0 (.array .int) true := ⟨_, _, _, _, clX4, by decide, t_85, rfl, rfl, rfl⟩
theorem t_86 : Cond.fieldLink RX6 89 RX4 "lanes" "[I" ∈ jT := jm_1 27 (by decide +kernel) rfl
theorem fX6_89 : jFl RX6 89 4 0 (.array .int) true := ⟨_, _, _, _, clX4, by decide, t_86, rfl, rfl, rfl⟩
theorem t_87 : Cond.fieldLink RX4 13 RX4 "lengths" "[I" ∈ jT := jm_1 28 (by decide +kernel) rfl
theorem fX4_13 : jFl RX4 13 4 1 (.array .int) true := ⟨_, _, _, _, clX4, by decide, t_87, rfl, rfl, rfl⟩
theorem t_88 : Cond.fieldLink RX4 16 RX4 "items" "[I" ∈ jT := jm_1 29 (by decide +kernel) rfl
theorem fX4_16 : jFl RX4 16 4 2 (.array .int) true := ⟨_, _, _, _, clX4, by decide, t_88, rfl, rfl, rfl⟩
theorem t_89 : Cond.fieldLink RX6 93 RX4 "items" "[I" ∈ jT := jm_1 30 (by decide +kernel) rfl
theorem fX6_93 : jFl RX6 93 4 2 (.array .int) true := ⟨_, _, _, _, clX4, by decide, t_89, rfl, rfl, rfl⟩
theorem t_110 : Cond.fieldLink RX3 34 RX3 "day" "I" ∈ jT := jm_1 51 (by decide +kernel) rfl
theorem fX3_34 : jFl RX3 34 3 0 (.int) false := ⟨_, _, _, _, clX3, by decide, t_110, rfl, rfl, rfl⟩
theorem t_111 : Cond.fieldLink RX5 32 RX3 "day" "I" ∈ jT := jm_1 52 (by decide +kernel) rfl
theorem fX5_32 : jFl RX5 32 3 0 (.int) false := ⟨_, _, _, _, clX3, by decide, t_111, rfl, rfl, rfl⟩
theorem t_112 : Cond.fieldLink RX6 145 RX3 "day" "I" ∈ jT := jm_1 53 (by decide +kernel) rfl
theorem fX6_145 : jFl RX6 145 3 0 (.int) false := ⟨_, _, _, _, clX3, by decide, t_112, rfl, rfl, rfl⟩
theorem t_113 : Cond.fieldLink RX3 37 RX3 "warm" "I" ∈ jT := jm_1 54 (by decide +kernel) rfl
theorem fX3_37 : jFl RX3 37 3 1 (.int) false := ⟨_, _, _, _, clX3, by decide, t_113, rfl, rfl, rfl⟩
theorem t_114 : Cond.fieldLink RX5 59 RX3 "warm" "I" ∈ jT := jm_1 55 (by decide +kernel) rfl
theorem fX5_59 : jFl RX5 59 3 1 (.int) false := ⟨_, _, _, _, clX3, by decide, t_114, rfl, rfl, rfl⟩
theorem t_115 : Cond.fieldLink RX2 101 RX3 "warm" "I" ∈ jT := jm_1 56 (by decide +kernel) rfl
theorem fX2_101 : jFl RX2 101 3 1 (.int) false := ⟨_, _, _, _, clX3, by decide, t_115, rfl, rfl, rfl⟩
theorem t_116 : Cond.fieldLink RX6 176 RX3 "warm" "I" ∈ jT := jm_1 57 (by decide +kernel) rfl
theorem fX6_176 : jFl RX6 176 3 1 (.int) false := ⟨_, _, _, _, clX3, by decide, t_116, rfl, rfl, rfl⟩
theorem t_117 : Cond.fieldLink RX3 40 RX3 "takes" "I" ∈ jT := jm_1 58 (by decide +kernel) rfl
theorem fX3_40 : jFl RX3 40 3 2 (.int) false := ⟨_, _, _, _, clX3, by decide, t_117, rfl, rfl, rfl⟩
theorem t_118 : Cond.fieldLink RX5 62 RX3 "takes" "I" ∈ jT := jm_1 59 (by decide +kernel) rfl
theorem fX5_62 : jFl RX5 62 3 2 (.int) false := ⟨_, _, _, _, clX3, by decide, t_118, rfl, rfl, rfl⟩
theorem t_119 : Cond.fieldLink RX6 279 RX3 "takes" "I" ∈ jT := jm_1 60 (by decide +kernel) rfl
theorem fX6_279 : jFl RX6 279 3 2 (.int) false := ⟨_, _, _, _, clX3, by decide, t_119, rfl, rfl, rfl⟩
theorem t_120 : Cond.fieldLink RX3 30 RX3 "hearths" "I" ∈ jT := jm_1 61 (by decide +kernel) rfl
theorem fX3_30 : jFl RX3 30 3 3 (.int) false := ⟨_, _, _, _, clX3, by decide, t_120, rfl, rfl, rfl⟩
theorem t_121 : Cond.fieldLink RX5 35 RX3 "hearths" "I" ∈ jT := jm_1 62 (by decide +kernel) rfl
theorem fX5_35 : jFl RX5 35 3 3 (.int) false := ⟨_, _, _, _, clX3, by decide, t_121, rfl, rfl, rfl⟩
theorem t_122 : Cond.fieldLink RX6 135 RX3 "hearths" "I" ∈ jT := jm_1 63 (by decide +kernel) rfl
theorem fX6_135 : jFl RX6 135 3 3 (.int) false := ⟨_, _, _, _, clX3, by decide, t_122, rfl, rfl, rfl⟩
theorem t_123 : Cond.fieldLink RX3 43 RX3 "pairs" "I" ∈ jT := jm_1 64 (by decide +kernel) rfl
theorem fX3_43 : jFl RX3 43 3 4 (.int) false := ⟨_, _, _, _, clX3, by decide, t_123, rfl, rfl, rfl⟩
theorem t_124 : Cond.fieldLink RX5 38 RX3 "pairs" "I" ∈ jT := jm_1 65 (by decide +kernel) rfl
theorem fX5_38 : jFl RX5 38 3 4 (.int) false := ⟨_, _, _, _, clX3, by decide, t_124, rfl, rfl, rfl⟩
theorem t_125 : Cond.fieldLink RX2 55 RX3 "pairs" "I" ∈ jT := jm_1 66 (by decide +kernel) rfl
theorem fX2_55 : jFl RX2 55 3 4 (.int) false := ⟨_, _, _, _, clX3, by decide, t_125, rfl, rfl, rfl⟩
theorem t_126 : Cond.fieldLink RX6 276 RX3 "pairs" "I" ∈ jT := jm_1 67 (by decide +kernel) rfl
theorem fX6_276 : jFl RX6 276 3 4 (.int) false := ⟨_, _, _, _, clX3, by decide, t_126, rfl, rfl, rfl⟩
theorem t_127 : Cond.fieldLink RX3 11 RX3 "fire" "[I" ∈ jT := jm_1 68 (by decide +kernel) rfl
theorem fX3_11 : jFl RX3 11 3 5 (.array .int) true := ⟨_, _, _, _, clX3, by decide, t_127, rfl, rfl, rfl⟩
theorem t_128 : Cond.fieldLink RX2 49 RX3 "fire" "[I" ∈ jT := jm_1 69 (by decide +kernel) rfl
theorem fX2_49 : jFl RX2 49 3 5 (.array .int) true := ⟨_, _, _, _, clX3, by decide, t_128, rfl, rfl, rfl⟩
theorem t_129 : Cond.fieldLink RX5 74 RX3 "fire" "[I" ∈ jT := jm_1 70 (by decide +kernel) rfl
theorem fX5_74 : jFl RX5 74 3 5 (.array .int) true := ⟨_, _, _, _, clX3, by decide, t_129, rfl, rfl, rfl⟩
theorem t_130 : Cond.fieldLink RX6 173 RX3 "fire" "[I" ∈ jT := jm_1 71 (by decide +kernel) rfl
theorem fX6_173 : jFl RX6 173 3 5 (.array .int) true := ⟨_, _, _, _, clX3, by decide, t_130, rfl, rfl, rfl⟩
theorem t_131 : Cond.fieldLink RX3 15 RX3 "kinds" "[I" ∈ jT := jm_1 72 (by decide +kernel) rfl
theorem fX3_15 : jFl RX3 15 3 6 (.array .int) true := ⟨_, _, _, _, clX3, by decide, t_131, rfl, rfl, rfl⟩
theorem t_132 : Cond.fieldLink RX1 17 RX3 "kinds" "[I" ∈ jT := jm_1 73 (by decide +kernel) rfl
theorem fX1_17 : jFl RX1 17 3 6 (.array .int) true := ⟨_, _, _, _, clX3, by decide, t_132, rfl, rfl, rfl⟩
theorem t_133 : Cond.fieldLink RX5 81 RX3 "kinds" "[I" ∈ jT := jm_1 74 (by decide +kernel) rfl
theorem fX5_81 : jFl RX5 81 3 6 (.array .int) true := ⟨_, _, _, _, clX3, by decide, t_133, rfl, rfl, rfl⟩
theorem t_134 : Cond.fieldLink RX2 113 RX3 "kinds" "[I" ∈ jT := jm_1 75 (by decide +kernel) rfl
theorem fX2_113 : jFl RX2 113 3 6 (.array .int) true := ⟨_, _, _, _, clX3, by decide, t_134, rfl, rfl, rfl⟩
theorem t_135 : Cond.fieldLink RX6 256 RX3 "kinds" "[I" ∈ jT := jm_1 76 (by decide +kernel) rfl
theorem fX6_256 : jFl RX6 256 3 6 (.array .int) true := ⟨_, _, _, _, clX3, by decide, t_135, rfl, rfl, rfl⟩
theorem t_136 : Cond.fieldLink RX3 18 RX3 "breath" "[I" ∈ jT := jm_1 77 (by decide +kernel) rfl
theorem fX3_18 : jFl RX3 18 3 7 (.array .int) true := ⟨_, _, _, _, clX3, by decide, t_136, rfl, rfl, rfl⟩
theorem t_137 : Cond.fieldLink RX1 36 RX3 "breath" "[I" ∈ jT := jm_1 78 (by decide +kernel) rfl
theorem fX1_36 : jFl RX1 36 3 7 (.array .int) true := ⟨_, _, _, _, clX3, by decide, t_137, rfl, rfl, rfl⟩
theorem t_138 : Cond.fieldLink RX5 87 RX3 "breath" "[I" ∈ jT := jm_1 79 (by decide +kernel) rfl
theorem fX5_87 : jFl RX5 87 3 7 (.array .int) true := ⟨_, _, _, _, clX3, by decide, t_138, rfl, rfl, rfl⟩
theorem t_139 : Cond.fieldLink RX6 185 RX3 "breath" "[I" ∈ jT := jm_1 80 (by decide +kernel) rfl
theorem fX6_185 : jFl RX6 185 3 7 (.array .int) true := ⟨_, _, _, _, clX3, by decide, t_139, rfl, rfl, rfl⟩
theorem t_140 : Cond.fieldLink RX2 116 RX3 "breath" "[I" ∈ jT := jm_1 81 (by decide +kernel) rfl
theorem fX2_116 : jFl RX2 116 3 7 (.array .int) true := ⟨_, _, _, _, clX3, by decide, t_140, rfl, rfl, rfl⟩
theorem t_141 : Cond.fieldLink RX3 21 RX3 "place" "[I" ∈ jT := jm_1 82 (by decide +kernel) rfl
theorem fX3_21 : jFl RX3 21 3 8 (.array .int) true := ⟨_, _, _, _, clX3, by decide, t_141, rfl, rfl, rfl⟩
theorem t_142 : Cond.fieldLink RX1 39 RX3 "place" "[I" ∈ jT := jm_1 83 (by decide +kernel) rfl
theorem fX1_39 : jFl RX1 39 3 8 (.array .int) true := ⟨_, _, _, _, clX3, by decide, t_142, rfl, rfl, rfl⟩
theorem t_143 : Cond.fieldLink RX2 52 RX3 "place" "[I" ∈ jT := jm_1 84 (by decide +kernel) rfl
theorem fX2_52 : jFl RX2 52 3 8 (.array .int) true := ⟨_, _, _, _, clX3, by decide, t_143, rfl, rfl, rfl⟩
theorem t_144 : Cond.fieldLink RX5 90 RX3 "place" "[I" ∈ jT := jm_1 85 (by decide +kernel) rfl
theorem fX5_90 : jFl RX5 90 3 8 (.array .int) true := ⟨_, _, _, _, clX3, by decide, t_144, rfl, rfl, rfl⟩
theorem t_145 : Cond.fieldLink RX6 170 RX3 "place" "[I" ∈ jT := jm_1 86 (by decide +kernel) rfl
theorem fX6_170 : jFl RX6 170 3 8 (.array .int) true := ⟨_, _, _, _, clX3, by decide, t_145, rfl, rfl, rfl⟩
theorem t_146 : Cond.fieldLink RX3 24 RX3 "pegIn" "[I" ∈ jT := jm_1 87 (by decide +kernel) rfl
theorem fX3_24 : jFl RX3 24 3 9 (.array .int) true := ⟨_, _, _, _, clX3, by decide, t_146, rfl, rfl, rfl⟩
theorem t_147 : Cond.fieldLink RX5 93 RX3 "pegIn" "[I" ∈ jT := jm_1 88 (by decide +kernel) rfl
theorem fX5_93 : jFl RX5 93 3 9 (.array .int) true := ⟨_, _, _, _, clX3, by decide, t_147, rfl, rfl, rfl⟩
theorem t_148 : Cond.fieldLink RX6 161 RX3 "pegIn" "[I" ∈ jT := jm_1 89 (by decide +kernel) rfl
theorem fX6_161 : jFl RX6 161 3 9 (.array .int) true := ⟨_, _, _, _, clX3, by decide, t_148, rfl, rfl, rfl⟩
theorem t_149 : Cond.fieldLink RX2 106 RX3 "pegIn" "[I" ∈ jT := jm_1 90 (by decide +kernel) rfl
theorem fX2_106 : jFl RX2 106 3 9 (.array .int) true := ⟨_, _, _, _, clX3, by decide, t_149, rfl, rfl, rfl⟩
theorem t_150 : Cond.fieldLink RX3 27 RX3 "blown" "[I" ∈ jT := jm_1 91 (by decide +kernel) rfl
theorem fX3_27 : jFl RX3 27 3 10 (.array .int) true := ⟨_, _, _, _, clX3, by decide, t_150, rfl, rfl, rfl⟩
theorem t_174 : Cond.fieldLink RX5 12 RX5 "draft" "LBellowsWords$House;" ∈ jT := jm_1 115 (by decide +kernel) rfl
theorem fX5_12 : jFl RX5 12 5 0 (.object "BellowsWords$House") true := ⟨_, _, _, _, clX5, by decide, t_174, rfl, rfl, rfl⟩
theorem t_175 : Cond.fieldLink RX6 125 RX5 "draft" "LBellowsWords$House;" ∈ jT := jm_1 116 (by decide +kernel) rfl
theorem fX6_125 : jFl RX6 125 5 0 (.object "BellowsWords$House") true := ⟨_, _, _, _, clX5, by decide, t_175, rfl, rfl, rfl⟩
theorem t_176 : Cond.fieldLink RX5 18 RX5 "bytes" "[I" ∈ jT := jm_1 117 (by decide +kernel) rfl
theorem fX5_18 : jFl RX5 18 5 1 (.array .int) true := ⟨_, _, _, _, clX5, by decide, t_176, rfl, rfl, rfl⟩
theorem t_177 : Cond.fieldLink RX5 22 RX5 "length" "I" ∈ jT := jm_1 118 (by decide +kernel) rfl
theorem fX5_22 : jFl RX5 22 5 2 (.int) false := ⟨_, _, _, _, clX5, by decide, t_177, rfl, rfl, rfl⟩
theorem t_178 : Cond.fieldLink RX6 118 RX5 "length" "I" ∈ jT := jm_1 119 (by decide +kernel) rfl
theorem fX6_118 : jFl RX6 118 5 2 (.int) false := ⟨_, _, _, _, clX5, by decide, t_178, rfl, rfl, rfl⟩
theorem t_179 : Cond.fieldLink RX5 26 RX5 "at" "I" ∈ jT := jm_1 120 (by decide +kernel) rfl
theorem fX5_26 : jFl RX5 26 5 3 (.int) false := ⟨_, _, _, _, clX5, by decide, t_179, rfl, rfl, rfl⟩
theorem t_180 : Cond.fieldLink RX6 122 RX5 "at" "I" ∈ jT := jm_1 121 (by decide +kernel) rfl
theorem fX6_122 : jFl RX6 122 5 3 (.int) false := ⟨_, _, _, _, clX5, by decide, t_180, rfl, rfl, rfl⟩
theorem t_181 : Cond.fieldLink RX5 29 RX5 "latestFault" "I" ∈ jT := jm_1 122 (by decide +kernel) rfl
theorem fX5_29 : jFl RX5 29 5 4 (.int) false := ⟨_, _, _, _, clX5, by decide, t_181, rfl, rfl, rfl⟩
theorem t_182 : Cond.fieldLink RX6 138 RX5 "latestFault" "I" ∈ jT := jm_1 123 (by decide +kernel) rfl
theorem fX6_138 : jFl RX6 138 5 4 (.int) false := ⟨_, _, _, _, clX5, by decide, t_182, rfl, rfl, rfl⟩
theorem t_205 : Cond.fieldLink RX0 11 RX0 "before" "[LBellowsWords$House;" ∈ jT := jm_1 146 (by decide +kernel) rfl
theorem fX0_11 : jFl RX0 11 0 0 (.array (.object "BellowsWords$House")) true := ⟨_, _, _, _, clX0, by decide, t_205, rfl, rfl, rfl⟩
theorem t_206 : Cond.fieldLink RX0 16 RX0 "next" "I" ∈ jT := jm_1 147 (by decide +kernel) rfl
theorem fX0_16 : jFl RX0 16 0 1 (.int) false := ⟨_, _, _, _, clX0, by decide, t_206, rfl, rfl, rfl⟩
theorem t_207 : Cond.fieldLink RX0 20 RX0 "kept" "I" ∈ jT := jm_1 148 (by decide +kernel) rfl
theorem fX0_20 : jFl RX0 20 0 2 (.int) false := ⟨_, _, _, _, clX0, by decide, t_207, rfl, rfl, rfl⟩
theorem t_208 : Cond.fieldLink RX6 179 RX0 "kept" "I" ∈ jT := jm_1 149 (by decide +kernel) rfl
theorem fX6_179 : jFl RX6 179 0 2 (.int) false := ⟨_, _, _, _, clX0, by decide, t_208, rfl, rfl, rfl⟩
theorem t_224 : Cond.fieldLink RX2 12 RX2 "trial" "LBellowsWords$House;" ∈ jT := jm_1 165 (by decide +kernel) rfl
theorem fX2_12 : jFl RX2 12 2 0 (.object "BellowsWords$House") true := ⟨_, _, _, _, clX2, by decide, t_224, rfl, rfl, rfl⟩
theorem t_225 : Cond.fieldLink RX2 18 RX2 "oneGets" "[I" ∈ jT := jm_1 166 (by decide +kernel) rfl
theorem fX2_18 : jFl RX2 18 2 1 (.array .int) true := ⟨_, _, _, _, clX2, by decide, t_225, rfl, rfl, rfl⟩
theorem t_226 : Cond.fieldLink RX2 22 RX2 "otherGets" "[I" ∈ jT := jm_1 167 (by decide +kernel) rfl
theorem fX2_22 : jFl RX2 22 2 2 (.array .int) true := ⟨_, _, _, _, clX2, by decide, t_226, rfl, rfl, rfl⟩
theorem t_240 : Cond.fieldLink RX1 9 RX1 "numbers" "[I" ∈ jT := jm_1 181 (by decide +kernel) rfl
theorem fX1_9 : jFl RX1 9 1 0 (.array .int) true := ⟨_, _, _, _, clX1, by decide, t_240, rfl, rfl, rfl⟩
theorem t_241 : Cond.fieldLink RX6 270 RX1 "numbers" "[I" ∈ jT := jm_1 182 (by decide +kernel) rfl
theorem fX6_270 : jFl RX6 270 1 0 (.array .int) true := ⟨_, _, _, _, clX1, by decide, t_241, rfl, rfl, rfl⟩
theorem t_242 : Cond.fieldLink RX1 13 RX1 "traced" "I" ∈ jT := jm_1 183 (by decide +kernel) rfl
theorem fX1_13 : jFl RX1 13 1 1 (.int) false := ⟨_, _, _, _, clX1, by decide, t_242, rfl, rfl, rfl⟩
theorem t_243 : Cond.fieldLink RX6 267 RX1 "traced" "I" ∈ jT := jm_1 184 (by decide +kernel) rfl
theorem fX6_267 : jFl RX6 267 1 1 (.int) false := ⟨_, _, _, _, clX1, by decide, t_243, rfl, rfl, rfl⟩
theorem t_249 : Cond.fieldLink RX6 10 RX6 "rows" "LBellowsWords$Rows;" ∈ jT := jm_1 190 (by decide +kernel) rfl
theorem fX6_10 : jFl RX6 10 6 0 (.object "BellowsWords$Rows") true := ⟨_, _, _, _, clX6, by decide, t_249, rfl, rfl, rfl⟩
theorem t_250 : Cond.fieldLink RX6 19 RX6 "tape" "LBellowsWords$Tape;" ∈ jT := jm_1 191 (by decide +kernel) rfl
theorem fX6_19 : jFl RX6 19 6 1 (.object "BellowsWords$Tape") true := ⟨_, _, _, _, clX6, by decide, t_250, rfl, rfl, rfl⟩
theorem t_251 : Cond.fieldLink RX6 26 RX6 "now" "LBellowsWords$House;" ∈ jT := jm_1 192 (by decide +kernel) rfl
theorem fX6_26 : jFl RX6 26 6 2 (.object "BellowsWords$House") true := ⟨_, _, _, _, clX6, by decide, t_251, rfl, rfl, rfl⟩
theorem t_252 : Cond.fieldLink RX6 33 RX6 "acts" "LBellowsWords$Acts;" ∈ jT := jm_1 193 (by decide +kernel) rfl
theorem fX6_33 : jFl RX6 33 6 3 (.object "BellowsWords$Acts") true := ⟨_, _, _, _, clX6, by decide, t_252, rfl, rfl, rfl⟩
theorem t_253 : Cond.fieldLink RX6 37 RX6 "images" "[LBellowsWords$House;" ∈ jT := jm_1 194 (by decide +kernel) rfl
theorem fX6_37 : jFl RX6 37 6 4 (.array (.object "BellowsWords$House")) true := ⟨_, _, _, _, clX6, by decide, t_253, rfl, rfl, rfl⟩
theorem t_254 : Cond.fieldLink RX6 44 RX6 "foreteller" "LBellowsWords$Foreteller;" ∈ jT := jm_1 195 (by decide +kernel) rfl
theorem fX6_44 : jFl RX6 44 6 5 (.object "BellowsWords$Foreteller") true := ⟨_, _, _, _, clX6, by decide, t_254, rfl, rfl, rfl⟩
theorem t_255 : Cond.fieldLink RX6 51 RX6 "asker" "LBellowsWords$Asker;" ∈ jT := jm_1 196 (by decide +kernel) rfl
theorem fX6_51 : jFl RX6 51 6 6 (.object "BellowsWords$Asker") true := ⟨_, _, _, _, clX6, by decide, t_255, rfl, rfl, rfl⟩
theorem t_256 : Cond.fieldLink RX6 55 RX6 "finding" "I" ∈ jT := jm_1 197 (by decide +kernel) rfl
theorem fX6_55 : jFl RX6 55 6 7 (.int) false := ⟨_, _, _, _, clX6, by decide, t_256, rfl, rfl, rfl⟩
theorem t_631 : Cond.fieldLink RX2 73 "BellowsWords$Foreteller" "LEAST_SUPPOSED" "[I" ∈ jT := jm_3 92 (by decide +kernel) rfl
theorem gX2_73 : Cond.fieldLink RX2 73 "BellowsWords$Foreteller" "LEAST_SUPPOSED" "[I" ∈ jT := t_631
theorem t_633 : Cond.fieldLink RX2 76 "BellowsWords$Foreteller" "MOST_SUPPOSED" "[I" ∈ jT := jm_3 94 (by decide +kernel) rfl
theorem gX2_76 : Cond.fieldLink RX2 76 "BellowsWords$Foreteller" "MOST_SUPPOSED" "[I" ∈ jT := t_633
theorem t_702 : Cond.fieldLink RX6 283 "BellowsWords" "PARENT" "[I" ∈ jT := jm_3 163 (by decide +kernel) rfl
theorem gX6_283 : Cond.fieldLink RX6 283 "BellowsWords" "PARENT" "[I" ∈ jT := t_702
theorem t_712 : Cond.fieldLink RX1 22 "BellowsWords$Asker" "SIZE_BODY" "[I" ∈ jT := jm_3 173 (by decide +kernel) rfl
theorem gX1_22 : Cond.fieldLink RX1 22 "BellowsWords$Asker" "SIZE_BODY" "[I" ∈ jT := t_712
theorem t_714 : Cond.fieldLink RX1 25 "BellowsWords$Asker" "MARK_BODY" "[I" ∈ jT := jm_3 175 (by decide +kernel) rfl
theorem gX1_25 : Cond.fieldLink RX1 25 "BellowsWords$Asker" "MARK_BODY" "[I" ∈ jT := t_714
theorem t_748 : Cond.fieldLink RX7 7 RX7 "lane" "[I" ∈ jT := jm_3 209 (by decide +kernel) rfl
theorem fX7_7 : jFl RX7 7 7 0 (.array .int) true := ⟨_, _, _, _, clX7, by decide, t_748, rfl, rfl, rfl⟩
theorem t_749 : Cond.fieldLink RX7 13 RX7 "many" "[I" ∈ jT := jm_3 210 (by decide +kernel) rfl
theorem fX7_13 : jFl RX7 13 7 1 (.array .int) true := ⟨_, _, _, _, clX7, by decide, t_749, rfl, rfl, rfl⟩
theorem t_750 : Cond.fieldLink RX7 16 RX7 "items" "[I" ∈ jT := jm_3 211 (by decide +kernel) rfl
theorem fX7_16 : jFl RX7 16 7 2 (.array .int) true := ⟨_, _, _, _, clX7, by decide, t_750, rfl, rfl, rfl⟩
theorem t_751 : Cond.fieldLink RX7 19 RX7 "spare" "[I" ∈ jT := jm_3 212 (by decide +kernel) rfl
theorem fX7_19 : jFl RX7 19 7 3 (.array .int) true := ⟨_, _, _, _, clX7, by decide, t_751, rfl, rfl, rfl⟩
theorem t_752 : Cond.fieldLink RX7 60 RX7 "status" "I" ∈ jT := jm_3 213 (by decide +kernel) rfl
theorem fX7_60 : jFl RX7 60 7 4 (.int) false := ⟨_, _, _, _, clX7, by decide, t_752, rfl, rfl, rfl⟩
theorem t_753 : Cond.fieldLink RX7 22 RX7 "tape" "[I" ∈ jT := jm_3 214 (by decide +kernel) rfl
theorem fX7_22 : jFl RX7 22 7 5 (.array .int) true := ⟨_, _, _, _, clX7, by decide, t_753, rfl, rfl, rfl⟩
theorem t_754 : Cond.fieldLink RX7 91 RX7 "taped" "I" ∈ jT := jm_3 215 (by decide +kernel) rfl
theorem fX7_91 : jFl RX7 91 7 6 (.int) false := ⟨_, _, _, _, clX7, by decide, t_754, rfl, rfl, rfl⟩
theorem t_755 : Cond.fieldLink RX7 117 RX7 "faultKind" "I" ∈ jT := jm_3 216 (by decide +kernel) rfl
theorem fX7_117 : jFl RX7 117 7 7 (.int) false := ⟨_, _, _, _, clX7, by decide, t_755, rfl, rfl, rfl⟩
theorem t_756 : Cond.fieldLink RX7 110 RX7 "faultPlace" "I" ∈ jT := jm_3 217 (by decide +kernel) rfl
theorem fX7_110 : jFl RX7 110 7 8 (.int) false := ⟨_, _, _, _, clX7, by decide, t_756, rfl, rfl, rfl⟩
theorem t_757 : Cond.fieldLink RX7 95 RX7 "at" "I" ∈ jT := jm_3 218 (by decide +kernel) rfl
theorem fX7_95 : jFl RX7 95 7 9 (.int) false := ⟨_, _, _, _, clX7, by decide, t_757, rfl, rfl, rfl⟩
theorem t_758 : Cond.fieldLink RX7 98 RX7 "start" "I" ∈ jT := jm_3 219 (by decide +kernel) rfl
theorem fX7_98 : jFl RX7 98 7 10 (.int) false := ⟨_, _, _, _, clX7, by decide, t_758, rfl, rfl, rfl⟩
theorem t_759 : Cond.fieldLink RX7 107 RX7 "token" "I" ∈ jT := jm_3 220 (by decide +kernel) rfl
theorem fX7_107 : jFl RX7 107 7 11 (.int) false := ⟨_, _, _, _, clX7, by decide, t_759, rfl, rfl, rfl⟩
theorem t_760 : Cond.fieldLink RX7 104 RX7 "value" "I" ∈ jT := jm_3 221 (by decide +kernel) rfl
theorem fX7_104 : jFl RX7 104 7 12 (.int) false := ⟨_, _, _, _, clX7, by decide, t_760, rfl, rfl, rfl⟩
theorem t_761 : Cond.fieldLink RX7 25 RX7 "now" "[I" ∈ jT := jm_3 222 (by decide +kernel) rfl
theorem fX7_25 : jFl RX7 25 7 13 (.array .int) true := ⟨_, _, _, _, clX7, by decide, t_761, rfl, rfl, rfl⟩
theorem t_762 : Cond.fieldLink RX7 28 RX7 "draft" "[I" ∈ jT := jm_3 223 (by decide +kernel) rfl
theorem fX7_28 : jFl RX7 28 7 14 (.array .int) true := ⟨_, _, _, _, clX7, by decide, t_762, rfl, rfl, rfl⟩
theorem t_763 : Cond.fieldLink RX7 31 RX7 "tried" "[I" ∈ jT := jm_3 224 (by decide +kernel) rfl
theorem fX7_31 : jFl RX7 31 7 15 (.array .int) true := ⟨_, _, _, _, clX7, by decide, t_763, rfl, rfl, rfl⟩
theorem t_764 : Cond.fieldLink RX7 34 RX7 "past" "[I" ∈ jT := jm_3 225 (by decide +kernel) rfl
theorem fX7_34 : jFl RX7 34 7 16 (.array .int) true := ⟨_, _, _, _, clX7, by decide, t_764, rfl, rfl, rfl⟩
theorem t_765 : Cond.fieldLink RX7 151 RX7 "acts" "I" ∈ jT := jm_3 226 (by decide +kernel) rfl
theorem fX7_151 : jFl RX7 151 7 17 (.int) false := ⟨_, _, _, _, clX7, by decide, t_765, rfl, rfl, rfl⟩
theorem t_766 : Cond.fieldLink RX7 37 RX7 "images" "[I" ∈ jT := jm_3 227 (by decide +kernel) rfl
theorem fX7_37 : jFl RX7 37 7 18 (.array .int) true := ⟨_, _, _, _, clX7, by decide, t_766, rfl, rfl, rfl⟩
theorem t_767 : Cond.fieldLink RX7 40 RX7 "kept" "[Z" ∈ jT := jm_3 228 (by decide +kernel) rfl
theorem fX7_40 : jFl RX7 40 7 19 (.array .boolean) true := ⟨_, _, _, _, clX7, by decide, t_767, rfl, rfl, rfl⟩
theorem t_768 : Cond.fieldLink RX7 44 RX7 "fires" "[I" ∈ jT := jm_3 229 (by decide +kernel) rfl
theorem fX7_44 : jFl RX7 44 7 20 (.array .int) true := ⟨_, _, _, _, clX7, by decide, t_768, rfl, rfl, rfl⟩
theorem t_769 : Cond.fieldLink RX7 47 RX7 "blown" "[I" ∈ jT := jm_3 230 (by decide +kernel) rfl
theorem fX7_47 : jFl RX7 47 7 21 (.array .int) true := ⟨_, _, _, _, clX7, by decide, t_769, rfl, rfl, rfl⟩
theorem t_770 : Cond.fieldLink RX7 50 RX7 "ones" "[I" ∈ jT := jm_3 231 (by decide +kernel) rfl
theorem fX7_50 : jFl RX7 50 7 22 (.array .int) true := ⟨_, _, _, _, clX7, by decide, t_770, rfl, rfl, rfl⟩
theorem t_771 : Cond.fieldLink RX7 53 RX7 "others" "[I" ∈ jT := jm_3 232 (by decide +kernel) rfl
theorem fX7_53 : jFl RX7 53 7 23 (.array .int) true := ⟨_, _, _, _, clX7, by decide, t_771, rfl, rfl, rfl⟩
theorem t_772 : Cond.fieldLink RX7 56 RX7 "trace" "[I" ∈ jT := jm_3 233 (by decide +kernel) rfl
theorem fX7_56 : jFl RX7 56 7 24 (.array .int) true := ⟨_, _, _, _, clX7, by decide, t_772, rfl, rfl, rfl⟩
theorem t_773 : Cond.fieldLink RX7 243 RX7 "traced" "I" ∈ jT := jm_3 234 (by decide +kernel) rfl
theorem fX7_243 : jFl RX7 243 7 25 (.int) false := ⟨_, _, _, _, clX7, by decide, t_773, rfl, rfl, rfl⟩
theorem t_284 : Cond.constant RX6 67 (-1000001) ∈ jT := jm_1 225 (by decide +kernel) rfl
theorem kX6_67 : Cond.constant RX6 67 (-1000001) ∈ jT := t_284
theorem t_289 : Cond.constant RX6 282 (-1000010) ∈ jT := jm_1 230 (by decide +kernel) rfl
theorem kX6_282 : Cond.constant RX6 282 (-1000010) ∈ jT := t_289
theorem t_344 : Cond.constant RX6 112 (-1000003) ∈ jT := jm_2 45 (by decide +kernel) rfl
theorem kX6_112 : Cond.constant RX6 112 (-1000003) ∈ jT := t_344
theorem t_400 : Cond.constant RX6 121 (-1000100) ∈ jT := jm_2 101 (by decide +kernel) rfl
theorem kX6_121 : Cond.constant RX6 121 (-1000100) ∈ jT := t_400
theorem t_422 : Cond.constant RX6 144 (-1000002) ∈ jT := jm_2 123 (by decide +kernel) rfl
theorem kX6_144 : Cond.constant RX6 144 (-1000002) ∈ jT := t_422
theorem t_559 : Cond.constant RX3 60 (-1000000) ∈ jT := jm_3 20 (by decide +kernel) rfl
theorem kX3_60 : Cond.constant RX3 60 (-1000000) ∈ jT := t_559
theorem t_560 : Cond.constant RX2 37 (-1000000) ∈ jT := jm_3 21 (by decide +kernel) rfl
theorem kX2_37 : Cond.constant RX2 37 (-1000000) ∈ jT := t_560
theorem t_593 : Cond.constant RJ6 265 (1431655765) ∈ jT := jm_3 54 (by decide +kernel) rfl
theorem kJ6_265 : Cond.constant RJ6 265 (1431655765) ∈ jT := t_593
theorem t_594 : Cond.constant RJ6 266 (858993459) ∈ jT := jm_3 55 (by decide +kernel) rfl
theorem kJ6_266 : Cond.constant RJ6 266 (858993459) ∈ jT := t_594
theorem t_595 : Cond.constant RJ6 267 (252645135) ∈ jT := jm_3 56 (by decide +kernel) rfl
theorem kJ6_267 : Cond.constant RJ6 267 (252645135) ∈ jT := t_595
theorem t_605 : Cond.constant RX6 218 (-1000000) ∈ jT := jm_3 66 (by decide +kernel) rfl
theorem kX6_218 : Cond.constant RX6 218 (-1000000) ∈ jT := t_605
theorem t_666 : Cond.constant RX6 245 (999999) ∈ jT := jm_3 127 (by decide +kernel) rfl
theorem kX6_245 : Cond.constant RX6 245 (999999) ∈ jT := t_666
theorem t_671 : Cond.constantLong RX2 95 (16807) ∈ jT := jm_3 132 (by decide +kernel) rfl
theorem kX2_95 : Cond.constantLong RX2 95 (16807) ∈ jT := t_671
theorem t_672 : Cond.constantLong RX2 97 (2147483647) ∈ jT := jm_3 133 (by decide +kernel) rfl
theorem kX2_97 : Cond.constantLong RX2 97 (2147483647) ∈ jT := t_672
theorem t_673 : Cond.constantLong RX2 99 (16) ∈ jT := jm_3 134 (by decide +kernel) rfl
theorem kX2_99 : Cond.constantLong RX2 99 (16) ∈ jT := t_673
theorem t_674 : Cond.constantLong RX2 104 (3) ∈ jT := jm_3 135 (by decide +kernel) rfl
theorem kX2_104 : Cond.constantLong RX2 104 (3) ∈ jT := t_674
theorem t_747 : Cond.constant RX7 59 (-1000000) ∈ jT := jm_3 208 (by decide +kernel) rfl
theorem kX7_59 : Cond.constant RX7 59 (-1000000) ∈ jT := t_747
theorem t_838 : Cond.constant RX7 73 (-1000001) ∈ jT := jm_4 59 (by decide +kernel) rfl
theorem kX7_73 : Cond.constant RX7 73 (-1000001) ∈ jT := t_838
theorem t_843 : Cond.constant RX7 64 (-1000010) ∈ jT := jm_4 64 (by decide +kernel) rfl
theorem kX7_64 : Cond.constant RX7 64 (-1000010) ∈ jT := t_843
theorem t_875 : Cond.constant RX7 94 (-1000003) ∈ jT := jm_4 96 (by decide +kernel) rfl
theorem kX7_94 : Cond.constant RX7 94 (-1000003) ∈ jT := t_875
theorem t_919 : Cond.constant RX7 146 (-1000100) ∈ jT := jm_4 140 (by decide +kernel) rfl
theorem kX7_146 : Cond.constant RX7 146 (-1000100) ∈ jT := t_919
theorem t_935 : Cond.constant RX7 183 (-1000002) ∈ jT := jm_4 156 (by decide +kernel) rfl
theorem kX7_183 : Cond.constant RX7 183 (-1000002) ∈ jT := t_935
theorem t_1083 : Cond.constant RX7 231 (999999) ∈ jT := jm_5 64 (by decide +kernel) rfl
theorem kX7_231 : Cond.constant RX7 231 (999999) ∈ jT := t_1083
theorem t_1084 : Cond.constantLong RX7 232 (16807) ∈ jT := jm_5 65 (by decide +kernel) rfl
theorem kX7_232 : Cond.constantLong RX7 232 (16807) ∈ jT := t_1084
theorem t_1085 : Cond.constantLong RX7 234 (2147483647) ∈ jT := jm_5 66 (by decide +kernel) rfl
theorem kX7_234 : Cond.constantLong RX7 234 (2147483647) ∈ jT := t_1085
theorem t_1086 : Cond.constantLong RX7 236 (16) ∈ jT := jm_5 67 (by decide +kernel) rfl
theorem kX7_236 : Cond.constantLong RX7 236 (16) ∈ jT := t_1086
theorem t_1087 : Cond.constantLong RX7 238 (3) ∈ jT := jm_5 68 (by decide +kernel) rfl
theorem kX7_238 : Cond.constantLong RX7 238 (3) ∈ jT := t_1087
theorem t_71 : Cond.classLink RL 7 RX6 ∈ jT := jm_1 12 (by decide +kernel) rfl
theorem lL_7 : Cond.classLink RL 7 RX6 ∈ jT := t_71
theorem t_79 : Cond.classLink RX6 7 RX4 ∈ jT := jm_1 20 (by decide +kernel) rfl
theorem lX6_7 : Cond.classLink RX6 7 RX4 ∈ jT := t_79
theorem t_98 : Cond.classLink RX6 16 RX5 ∈ jT := jm_1 39 (by decide +kernel) rfl
theorem lX6_16 : Cond.classLink RX6 16 RX5 ∈ jT := t_98
theorem t_104 : Cond.classLink RX5 9 RX3 ∈ jT := jm_1 45 (by decide +kernel) rfl
theorem lX5_9 : Cond.classLink RX5 9 RX3 ∈ jT := t_104
theorem t_194 : Cond.classLink RX6 23 RX3 ∈ jT := jm_1 135 (by decide +kernel) rfl
theorem lX6_23 : Cond.classLink RX6 23 RX3 ∈ jT := t_194
theorem t_196 : Cond.classLink RX6 30 RX0 ∈ jT := jm_1 137 (by decide +kernel) rfl
theorem lX6_30 : Cond.classLink RX6 30 RX0 ∈ jT := t_196
theorem t_202 : Cond.classLink RX0 9 RX3 ∈ jT := jm_1 143 (by decide +kernel) rfl
theorem lX0_9 : Cond.classLink RX0 9 RX3 ∈ jT := t_202
theorem t_216 : Cond.classLink RX6 41 RX2 ∈ jT := jm_1 157 (by decide +kernel) rfl
theorem lX6_41 : Cond.classLink RX6 41 RX2 ∈ jT := t_216
theorem t_222 : Cond.classLink RX2 9 RX3 ∈ jT := jm_1 163 (by decide +kernel) rfl
theorem lX2_9 : Cond.classLink RX2 9 RX3 ∈ jT := t_222
theorem t_234 : Cond.classLink RX6 48 RX1 ∈ jT := jm_1 175 (by decide +kernel) rfl
theorem lX6_48 : Cond.classLink RX6 48 RX1 ∈ jT := t_234
theorem t_741 : Cond.classLink RL 10 RX7 ∈ jT := jm_3 202 (by decide +kernel) rfl
theorem lL_10 : Cond.classLink RL 10 RX7 ∈ jT := t_741
theorem t_72 : Cond.instantiable RX6 8 ∈ jT := jm_1 13 (by decide +kernel) rfl
theorem mkX6 : Cond.instantiable RX6 8 ∈ jT := t_72
theorem t_80 : Cond.instantiable RX4 3 ∈ jT := jm_1 21 (by decide +kernel) rfl
theorem mkX4 : Cond.instantiable RX4 3 ∈ jT := t_80
theorem t_99 : Cond.instantiable RX5 5 ∈ jT := jm_1 40 (by decide +kernel) rfl
theorem mkX5 : Cond.instantiable RX5 5 ∈ jT := t_99
theorem t_105 : Cond.instantiable RX3 11 ∈ jT := jm_1 46 (by decide +kernel) rfl
theorem mkX3 : Cond.instantiable RX3 11 ∈ jT := t_105
theorem t_197 : Cond.instantiable RX0 3 ∈ jT := jm_1 138 (by decide +kernel) rfl
theorem mkX0 : Cond.instantiable RX0 3 ∈ jT := t_197
theorem t_217 : Cond.instantiable RX2 3 ∈ jT := jm_1 158 (by decide +kernel) rfl
theorem mkX2 : Cond.instantiable RX2 3 ∈ jT := t_217
theorem t_235 : Cond.instantiable RX1 2 ∈ jT := jm_1 176 (by decide +kernel) rfl
theorem mkX1 : Cond.instantiable RX1 2 ∈ jT := t_235
theorem t_742 : Cond.instantiable RX7 26 ∈ jT := jm_3 203 (by decide +kernel) rfl
theorem mkX7 : Cond.instantiable RX7 26 ∈ jT := t_742
theorem t_59 : Cond.initialized RL ∈ jT := jm_1 0 (by decide +kernel) rfl
theorem iniL : Cond.initialized RL ∈ jT := t_59
theorem t_60 : Cond.initialized RX6 ∈ jT := jm_1 1 (by decide +kernel) rfl
theorem iniX6 : Cond.initialized RX6 ∈ jT := t_60
theorem t_61 : Cond.initialized RX4 ∈ jT := jm_1 2 (by decide +kernel) rfl
theorem iniX4 : Cond.initialized RX4 ∈ jT := t_61
theorem t_62 : Cond.initialized RX5 ∈ jT := jm_1 3 (by decide +kernel) rfl
theorem iniX5 : Cond.initialized RX5 ∈ jT := t_62
theorem t_63 : Cond.initialized RX3 ∈ jT := jm_1 4 (by decide +kernel) rfl
theorem iniX3 : Cond.initialized RX3 ∈ jT := t_63
theorem t_64 : Cond.initialized RX0 ∈ jT := jm_1 5 (by decide +kernel) rfl
theorem iniX0 : Cond.initialized RX0 ∈ jT := t_64
theorem t_65 : Cond.initialized RX2 ∈ jT := jm_1 6 (by decide +kernel) rfl
theorem iniX2 : Cond.initialized RX2 ∈ jT := t_65
theorem t_66 : Cond.initialized RX1 ∈ jT := jm_1 7 (by decide +kernel) rfl
theorem iniX1 : Cond.initialized RX1 ∈ jT := t_66
theorem t_67 : Cond.initialized RX7 ∈ jT := jm_1 8 (by decide +kernel) rfl
theorem iniX7 : Cond.initialized RX7 ∈ jT := t_67
theorem t_68 : Cond.initialized RJ10 ∈ jT := jm_1 9 (by decide +kernel) rfl
theorem iniJ10 : Cond.initialized RJ10 ∈ jT := t_68
theorem t_69 : Cond.initialized RJ9 ∈ jT := jm_1 10 (by decide +kernel) rfl
theorem iniJ9 : Cond.initialized RJ9 ∈ jT := t_69
theorem t_70 : Cond.initialized RJ6 ∈ jT := jm_1 11 (by decide +kernel) rfl
theorem iniJ6 : Cond.initialized RJ6 ∈ jT := t_70
theorem t_97 : Cond.arrayClass .int ∈ jT := jm_1 38 (by decide +kernel) rfl
theorem arr_int : Cond.arrayClass .int ∈ jT := t_97
theorem t_827 : Cond.arrayClass .boolean ∈ jT := jm_4 48 (by decide +kernel) rfl
theorem arr_boolean : Cond.arrayClass .boolean ∈ jT := t_827
theorem t_77 : Cond.instanceMethod Lib.objectInit ∈ jT := jm_1 18 (by decide +kernel) rfl
theorem t_78 : Cond.code Lib.objectInit ⟨#[0xb1]⟩ 1 none ∈ jT := jm_1 19 (rfl) rfl
theorem w_obj : Cond.instanceMethod Lib.objectInit ∈ jT ∧ Cond.code Lib.objectInit ⟨#[0xb1]⟩ 1 none ∈ jT := ⟨t_77, t_78⟩
theorem t_327 : Cond.native arraycopyName ∈ jT := jm_2 28 (by decide +kernel) rfl
theorem t_326 : Cond.static arraycopyName ∈ jT := jm_2 27 (by decide +kernel) rfl
theorem w_acopy : Cond.native arraycopyName ∈ jT ∧ Cond.static arraycopyName ∈ jT ∧ Cond.initialized "java/lang/System" ∈ jT := ⟨t_327, t_326, t_68⟩
theorem t_73 : Cond.methodLink RL 9 yX6_init ∈ jT := jm_1 14 (by decide +kernel) rfl
theorem t_75 : Cond.code yX6_init cX6_init 1 (none : Option Jvm.ClassFile.FieldType) ∈ jT := jm_1 16 (rfl) rfl
theorem t_74 : Cond.instanceMethod yX6_init ∈ jT := jm_1 15 (by decide +kernel) rfl
theorem iL_9 : jCi RL 9 yX6_init cX6_init 1 0 := ⟨t_73, t_74, t_60, t_75, rfl, ⟨by decide +kernel, by decide +kernel, by decide +kernel⟩, by decide⟩
theorem t_76 : Cond.methodLink RX6 1 Lib.objectInit ∈ jT := jm_1 17 (by decide +kernel) rfl
theorem oX6_1 : Cond.methodLink RX6 1 Lib.objectInit ∈ jT := t_76
theorem t_81 : Cond.methodLink RX6 9 yX4_init ∈ jT := jm_1 22 (by decide +kernel) rfl
theorem t_83 : Cond.code yX4_init cX4_init 2 (none : Option Jvm.ClassFile.FieldType) ∈ jT := jm_1 24 (rfl) rfl
theorem t_82 : Cond.instanceMethod yX4_init ∈ jT := jm_1 23 (by decide +kernel) rfl
theorem iX6_9 : jCi RX6 9 yX4_init cX4_init 2 0 := ⟨t_81, t_82, t_61, t_83, rfl, ⟨by decide +kernel, by decide +kernel, by decide +kernel⟩, by decide⟩
theorem t_84 : Cond.methodLink RX4 1 Lib.objectInit ∈ jT := jm_1 25 (by decide +kernel) rfl
theorem oX4_1 : Cond.methodLink RX4 1 Lib.objectInit ∈ jT := t_84
theorem t_100 : Cond.methodLink RX6 18 yX5_init ∈ jT := jm_1 41 (by decide +kernel) rfl
theorem t_102 : Cond.code yX5_init cX5_init 1 (none : Option Jvm.ClassFile.FieldType) ∈ jT := jm_1 43 (rfl) rfl
theorem t_101 : Cond.instanceMethod yX5_init ∈ jT := jm_1 42 (by decide +kernel) rfl
theorem iX6_18 : jCi RX6 18 yX5_init cX5_init 1 0 := ⟨t_100, t_101, t_62, t_102, rfl, ⟨by decide +kernel, by decide +kernel, by decide +kernel⟩, by decide⟩
theorem t_103 : Cond.methodLink RX5 3 Lib.objectInit ∈ jT := jm_1 44 (by decide +kernel) rfl
theorem oX5_3 : Cond.methodLink RX5 3 Lib.objectInit ∈ jT := t_103
theorem t_106 : Cond.methodLink RX5 11 yX3_init ∈ jT := jm_1 47 (by decide +kernel) rfl
theorem t_108 : Cond.code yX3_init cX3_init 1 (none : Option Jvm.ClassFile.FieldType) ∈ jT := jm_1 49 (rfl) rfl
theorem t_107 : Cond.instanceMethod yX3_init ∈ jT := jm_1 48 (by decide +kernel) rfl
theorem iX5_11 : jCi RX5 11 yX3_init cX3_init 1 0 := ⟨t_106, t_107, t_63, t_108, rfl, ⟨by decide +kernel, by decide +kernel, by decide +kernel⟩, by decide⟩
theorem t_109 : Cond.methodLink RX3 3 Lib.objectInit ∈ jT := jm_1 50 (by decide +kernel) rfl
theorem oX3_3 : Cond.methodLink RX3 3 Lib.objectInit ∈ jT := t_109
theorem t_195 : Cond.methodLink RX6 25 yX3_init ∈ jT := jm_1 136 (by decide +kernel) rfl
theorem iX6_25 : jCi RX6 25 yX3_init cX3_init 1 0 := ⟨t_195, t_107, t_63, t_108, rfl, ⟨by decide +kernel, by decide +kernel, by decide +kernel⟩, by decide⟩
theorem t_198 : Cond.methodLink RX6 32 yX0_init ∈ jT := jm_1 139 (by decide +kernel) rfl
theorem t_200 : Cond.code yX0_init cX0_init 2 (none : Option Jvm.ClassFile.FieldType) ∈ jT := jm_1 141 (rfl) rfl
theorem t_199 : Cond.instanceMethod yX0_init ∈ jT := jm_1 140 (by decide +kernel) rfl
theorem iX6_32 : jCi RX6 32 yX0_init cX0_init 2 0 := ⟨t_198, t_199, t_64, t_200, rfl, ⟨by decide +kernel, by decide +kernel, by decide +kernel⟩, by decide⟩
theorem t_201 : Cond.methodLink RX0 1 Lib.objectInit ∈ jT := jm_1 142 (by decide +kernel) rfl
theorem oX0_1 : Cond.methodLink RX0 1 Lib.objectInit ∈ jT := t_201
theorem t_204 : Cond.methodLink RX0 15 yX3_init ∈ jT := jm_1 145 (by decide +kernel) rfl
theorem iX0_15 : jCi RX0 15 yX3_init cX3_init 1 0 := ⟨t_204, t_107, t_63, t_108, rfl, ⟨by decide +kernel, by decide +kernel, by decide +kernel⟩, by decide⟩
theorem t_218 : Cond.methodLink RX6 43 yX2_init ∈ jT := jm_1 159 (by decide +kernel) rfl
theorem t_220 : Cond.code yX2_init cX2_init 1 (none : Option Jvm.ClassFile.FieldType) ∈ jT := jm_1 161 (rfl) rfl
theorem t_219 : Cond.instanceMethod yX2_init ∈ jT := jm_1 160 (by decide +kernel) rfl
theorem iX6_43 : jCi RX6 43 yX2_init cX2_init 1 0 := ⟨t_218, t_219, t_65, t_220, rfl, ⟨by decide +kernel, by decide +kernel, by decide +kernel⟩, by decide⟩
theorem t_221 : Cond.methodLink RX2 3 Lib.objectInit ∈ jT := jm_1 162 (by decide +kernel) rfl
theorem oX2_3 : Cond.methodLink RX2 3 Lib.objectInit ∈ jT := t_221
theorem t_223 : Cond.methodLink RX2 11 yX3_init ∈ jT := jm_1 164 (by decide +kernel) rfl
theorem iX2_11 : jCi RX2 11 yX3_init cX3_init 1 0 := ⟨t_223, t_107, t_63, t_108, rfl, ⟨by decide +kernel, by decide +kernel, by decide +kernel⟩, by decide⟩
theorem t_236 : Cond.methodLink RX6 50 yX1_init ∈ jT := jm_1 177 (by decide +kernel) rfl
theorem t_238 : Cond.code yX1_init cX1_init 1 (none : Option Jvm.ClassFile.FieldType) ∈ jT := jm_1 179 (rfl) rfl
theorem t_237 : Cond.instanceMethod yX1_init ∈ jT := jm_1 178 (by decide +kernel) rfl
theorem iX6_50 : jCi RX6 50 yX1_init cX1_init 1 0 := ⟨t_236, t_237, t_66, t_238, rfl, ⟨by decide +kernel, by decide +kernel, by decide +kernel⟩, by decide⟩
theorem t_239 : Cond.methodLink RX1 1 Lib.objectInit ∈ jT := jm_1 180 (by decide +kernel) rfl
theorem oX1_1 : Cond.methodLink RX1 1 Lib.objectInit ∈ jT := t_239
theorem t_274 : Cond.methodLink RL 13 yX6_row ∈ jT := jm_1 215 (by decide +kernel) rfl
theorem t_277 : Cond.code yX6_row cX6_row 4 (some .int) ∈ jT := jm_1 218 (rfl) rfl
theorem t_275 : Cond.instanceMethod yX6_row ∈ jT := jm_1 216 (by decide +kernel) rfl
theorem t_276 : Cond.selects RX6 yX6_row yX6_row ∈ jT := jm_1 217 (by decide +kernel) rfl
theorem vL_13 : jCv RL 13 yX6_row cX6_row 4 (some .int) 3 := ⟨t_274, t_275, t_276, t_60, t_277, ⟨by decide +kernel, by decide +kernel, by decide +kernel⟩, by decide⟩
theorem t_278 : Cond.methodLink RX6 59 yX6_isRow ∈ jT := jm_1 219 (by decide +kernel) rfl
theorem t_280 : Cond.code yX6_isRow cX6_isRow 1 (some .boolean) ∈ jT := jm_1 221 (rfl) rfl
theorem t_279 : Cond.static yX6_isRow ∈ jT := jm_1 220 (by decide +kernel) rfl
theorem sX6_59 : jCs RX6 59 yX6_isRow cX6_isRow 1 (some .boolean) 1 := ⟨t_278, t_279, t_60, t_280, ⟨by decide +kernel, by decide +kernel, by decide +kernel⟩, by decide⟩
theorem t_281 : Cond.methodLink RX6 63 yX6_isWithin ∈ jT := jm_1 222 (by decide +kernel) rfl
theorem t_283 : Cond.code yX6_isWithin cX6_isWithin 3 (some .boolean) ∈ jT := jm_1 224 (rfl) rfl
theorem t_282 : Cond.static yX6_isWithin ∈ jT := jm_1 223 (by decide +kernel) rfl
theorem sX6_63 : jCs RX6 63 yX6_isWithin cX6_isWithin 3 (some .boolean) 3 := ⟨t_281, t_282, t_60, t_283, ⟨by decide +kernel, by decide +kernel, by decide +kernel⟩, by decide⟩
theorem t_285 : Cond.methodLink RX6 68 yX6_found ∈ jT := jm_1 226 (by decide +kernel) rfl
theorem t_288 : Cond.code yX6_found cX6_found 2 (some .int) ∈ jT := jm_1 229 (rfl) rfl
theorem t_287 : Cond.instanceMethod yX6_found ∈ jT := jm_1 228 (by decide +kernel) rfl
theorem t_0 : Cond.selects RX6 yX6_found yX6_found ∈ jT := jm_0 0 (by decide +kernel) rfl
theorem vX6_68 : jCv RX6 68 yX6_found cX6_found 2 (some .int) 1 := ⟨t_285, t_287, t_0, t_60, t_288, ⟨by decide +kernel, by decide +kernel, by decide +kernel⟩, by decide⟩
theorem t_290 : Cond.methodLink RX6 72 yX4_make ∈ jT := jm_1 231 (by decide +kernel) rfl
theorem t_293 : Cond.code yX4_make cX4_make 5 (none : Option Jvm.ClassFile.FieldType) ∈ jT := jm_1 234 (rfl) rfl
theorem t_291 : Cond.instanceMethod yX4_make ∈ jT := jm_1 232 (by decide +kernel) rfl
theorem t_292 : Cond.selects RX4 yX4_make yX4_make ∈ jT := jm_1 233 (by decide +kernel) rfl
theorem vX6_72 : jCv RX6 72 yX4_make cX4_make 5 (none : Option Jvm.ClassFile.FieldType) 3 := ⟨t_290, t_291, t_292, t_61, t_293, ⟨by decide +kernel, by decide +kernel, by decide +kernel⟩, by decide⟩
theorem t_294 : Cond.methodLink RX4 19 yX4_start ∈ jT := jm_1 235 (by decide +kernel) rfl
theorem t_296 : Cond.code yX4_start cX4_start 1 (some .int) ∈ jT := jm_1 237 (rfl) rfl
theorem t_295 : Cond.static yX4_start ∈ jT := jm_1 236 (by decide +kernel) rfl
theorem sX4_19 : jCs RX4 19 yX4_start cX4_start 1 (some .int) 1 := ⟨t_294, t_295, t_61, t_296, ⟨by decide +kernel, by decide +kernel, by decide +kernel⟩, by decide⟩
theorem t_297 : Cond.methodLink RX6 76 yX6_unfound ∈ jT := jm_1 238 (by decide +kernel) rfl
theorem t_300 : Cond.code yX6_unfound cX6_unfound 2 (some .int) ∈ jT := jm_2 1 (rfl) rfl
theorem t_299 : Cond.instanceMethod yX6_unfound ∈ jT := jm_2 0 (by decide +kernel) rfl
theorem t_1 : Cond.selects RX6 yX6_unfound yX6_unfound ∈ jT := jm_0 1 (by decide +kernel) rfl
theorem vX6_76 : jCv RX6 76 yX6_unfound cX6_unfound 2 (some .int) 1 := ⟨t_297, t_299, t_1, t_60, t_300, ⟨by decide +kernel, by decide +kernel, by decide +kernel⟩, by decide⟩
theorem t_301 : Cond.methodLink RL 18 yX6_set ∈ jT := jm_2 2 (by decide +kernel) rfl
theorem t_304 : Cond.code yX6_set cX6_set 4 (some .int) ∈ jT := jm_2 5 (rfl) rfl
theorem t_302 : Cond.instanceMethod yX6_set ∈ jT := jm_2 3 (by decide +kernel) rfl
theorem t_303 : Cond.selects RX6 yX6_set yX6_set ∈ jT := jm_2 4 (by decide +kernel) rfl
theorem vL_18 : jCv RL 18 yX6_set cX6_set 4 (some .int) 3 := ⟨t_301, t_302, t_303, t_60, t_304, ⟨by decide +kernel, by decide +kernel, by decide +kernel⟩, by decide⟩
theorem t_305 : Cond.methodLink RX6 79 yX4_isMissing ∈ jT := jm_2 6 (by decide +kernel) rfl
theorem t_308 : Cond.code yX4_isMissing cX4_isMissing 2 (some .boolean) ∈ jT := jm_2 9 (rfl) rfl
theorem t_306 : Cond.instanceMethod yX4_isMissing ∈ jT := jm_2 7 (by decide +kernel) rfl
theorem t_307 : Cond.selects RX4 yX4_isMissing yX4_isMissing ∈ jT := jm_2 8 (by decide +kernel) rfl
theorem vX6_79 : jCv RX6 79 yX4_isMissing cX4_isMissing 2 (some .boolean) 1 := ⟨t_305, t_306, t_307, t_61, t_308, ⟨by decide +kernel, by decide +kernel, by decide +kernel⟩, by decide⟩
theorem t_309 : Cond.methodLink RX6 82 yX4_hasPlaces ∈ jT := jm_2 10 (by decide +kernel) rfl
theorem t_312 : Cond.code yX4_hasPlaces cX4_hasPlaces 4 (some .boolean) ∈ jT := jm_2 13 (rfl) rfl
theorem t_310 : Cond.instanceMethod yX4_hasPlaces ∈ jT := jm_2 11 (by decide +kernel) rfl
theorem t_311 : Cond.selects RX4 yX4_hasPlaces yX4_hasPlaces ∈ jT := jm_2 12 (by decide +kernel) rfl
theorem vX6_82 : jCv RX6 82 yX4_hasPlaces cX4_hasPlaces 4 (some .boolean) 3 := ⟨t_309, t_310, t_311, t_61, t_312, ⟨by decide +kernel, by decide +kernel, by decide +kernel⟩, by decide⟩
theorem t_313 : Cond.methodLink RX6 85 yX4_put ∈ jT := jm_2 14 (by decide +kernel) rfl
theorem t_316 : Cond.code yX4_put cX4_put 5 (some .int) ∈ jT := jm_2 17 (rfl) rfl
theorem t_314 : Cond.instanceMethod yX4_put ∈ jT := jm_2 15 (by decide +kernel) rfl
theorem t_315 : Cond.selects RX4 yX4_put yX4_put ∈ jT := jm_2 16 (by decide +kernel) rfl
theorem vX6_85 : jCv RX6 85 yX4_put cX4_put 5 (some .int) 3 := ⟨t_313, t_314, t_315, t_61, t_316, ⟨by decide +kernel, by decide +kernel, by decide +kernel⟩, by decide⟩
theorem t_317 : Cond.methodLink RX4 23 yX4_cutToLane ∈ jT := jm_2 18 (by decide +kernel) rfl
theorem t_319 : Cond.code yX4_cutToLane cX4_cutToLane 2 (some .int) ∈ jT := jm_2 20 (rfl) rfl
theorem t_318 : Cond.static yX4_cutToLane ∈ jT := jm_2 19 (by decide +kernel) rfl
theorem sX4_23 : jCs RX4 23 yX4_cutToLane cX4_cutToLane 2 (some .int) 2 := ⟨t_317, t_318, t_61, t_319, ⟨by decide +kernel, by decide +kernel, by decide +kernel⟩, by decide⟩
theorem t_320 : Cond.methodLink RL 22 yX6_copy ∈ jT := jm_2 21 (by decide +kernel) rfl
theorem t_323 : Cond.code yX6_copy cX6_copy 6 (some .int) ∈ jT := jm_2 24 (rfl) rfl
theorem t_321 : Cond.instanceMethod yX6_copy ∈ jT := jm_2 22 (by decide +kernel) rfl
theorem t_322 : Cond.selects RX6 yX6_copy yX6_copy ∈ jT := jm_2 23 (by decide +kernel) rfl
theorem vL_22 : jCv RL 22 yX6_copy cX6_copy 6 (some .int) 5 := ⟨t_320, t_321, t_322, t_60, t_323, ⟨by decide +kernel, by decide +kernel, by decide +kernel⟩, by decide⟩
theorem t_324 : Cond.methodLink RX6 96 yX4_start ∈ jT := jm_2 25 (by decide +kernel) rfl
theorem sX6_96 : jCs RX6 96 yX4_start cX4_start 1 (some .int) 1 := ⟨t_324, t_295, t_61, t_296, ⟨by decide +kernel, by decide +kernel, by decide +kernel⟩, by decide⟩
theorem t_325 : Cond.methodLink RX6 99 arraycopyName ∈ jT := jm_2 26 (by decide +kernel) rfl
theorem aX6_99 : Cond.methodLink RX6 99 arraycopyName ∈ jT := t_325
theorem t_328 : Cond.methodLink RL 27 yX6_drop ∈ jT := jm_2 29 (by decide +kernel) rfl
theorem t_331 : Cond.code yX6_drop cX6_drop 2 (some .int) ∈ jT := jm_2 32 (rfl) rfl
theorem t_329 : Cond.instanceMethod yX6_drop ∈ jT := jm_2 30 (by decide +kernel) rfl
theorem t_330 : Cond.selects RX6 yX6_drop yX6_drop ∈ jT := jm_2 31 (by decide +kernel) rfl
theorem vL_27 : jCv RL 27 yX6_drop cX6_drop 2 (some .int) 1 := ⟨t_328, t_329, t_330, t_60, t_331, ⟨by decide +kernel, by decide +kernel, by decide +kernel⟩, by decide⟩
theorem t_332 : Cond.methodLink RX6 105 yX4_forget ∈ jT := jm_2 33 (by decide +kernel) rfl
theorem t_335 : Cond.code yX4_forget cX4_forget 2 (some .int) ∈ jT := jm_2 36 (rfl) rfl
theorem t_333 : Cond.instanceMethod yX4_forget ∈ jT := jm_2 34 (by decide +kernel) rfl
theorem t_334 : Cond.selects RX4 yX4_forget yX4_forget ∈ jT := jm_2 35 (by decide +kernel) rfl
theorem vX6_105 : jCv RX6 105 yX4_forget cX4_forget 2 (some .int) 1 := ⟨t_332, t_333, t_334, t_61, t_335, ⟨by decide +kernel, by decide +kernel, by decide +kernel⟩, by decide⟩
theorem t_336 : Cond.methodLink RL 32 yX6_feed ∈ jT := jm_2 37 (by decide +kernel) rfl
theorem t_339 : Cond.code yX6_feed cX6_feed 2 (some .int) ∈ jT := jm_2 40 (rfl) rfl
theorem t_337 : Cond.instanceMethod yX6_feed ∈ jT := jm_2 38 (by decide +kernel) rfl
theorem t_338 : Cond.selects RX6 yX6_feed yX6_feed ∈ jT := jm_2 39 (by decide +kernel) rfl
theorem vL_32 : jCv RL 32 yX6_feed cX6_feed 2 (some .int) 1 := ⟨t_336, t_337, t_338, t_60, t_339, ⟨by decide +kernel, by decide +kernel, by decide +kernel⟩, by decide⟩
theorem t_340 : Cond.methodLink RX6 108 yX5_isFull ∈ jT := jm_2 41 (by decide +kernel) rfl
theorem t_343 : Cond.code yX5_isFull cX5_isFull 1 (some .boolean) ∈ jT := jm_2 44 (rfl) rfl
theorem t_341 : Cond.instanceMethod yX5_isFull ∈ jT := jm_2 42 (by decide +kernel) rfl
theorem t_342 : Cond.selects RX5 yX5_isFull yX5_isFull ∈ jT := jm_2 43 (by decide +kernel) rfl
theorem vX6_108 : jCv RX6 108 yX5_isFull cX5_isFull 1 (some .boolean) 0 := ⟨t_340, t_341, t_342, t_62, t_343, ⟨by decide +kernel, by decide +kernel, by decide +kernel⟩, by decide⟩
theorem t_345 : Cond.methodLink RX6 113 yX5_put ∈ jT := jm_2 46 (by decide +kernel) rfl
theorem t_348 : Cond.code yX5_put cX5_put 2 (some .int) ∈ jT := jm_2 49 (rfl) rfl
theorem t_346 : Cond.instanceMethod yX5_put ∈ jT := jm_2 47 (by decide +kernel) rfl
theorem t_347 : Cond.selects RX5 yX5_put yX5_put ∈ jT := jm_2 48 (by decide +kernel) rfl
theorem vX6_113 : jCv RX6 113 yX5_put cX5_put 2 (some .int) 1 := ⟨t_345, t_346, t_347, t_62, t_348, ⟨by decide +kernel, by decide +kernel, by decide +kernel⟩, by decide⟩
theorem t_349 : Cond.methodLink RL 36 yX6_house ∈ jT := jm_2 50 (by decide +kernel) rfl
theorem t_352 : Cond.code yX6_house cX6_house 2 (some .int) ∈ jT := jm_2 53 (rfl) rfl
theorem t_350 : Cond.instanceMethod yX6_house ∈ jT := jm_2 51 (by decide +kernel) rfl
theorem t_351 : Cond.selects RX6 yX6_house yX6_house ∈ jT := jm_2 52 (by decide +kernel) rfl
theorem vL_36 : jCv RL 36 yX6_house cX6_house 2 (some .int) 0 := ⟨t_349, t_350, t_351, t_60, t_352, ⟨by decide +kernel, by decide +kernel, by decide +kernel⟩, by decide⟩
theorem t_353 : Cond.methodLink RX6 115 yX5_readWhole ∈ jT := jm_2 54 (by decide +kernel) rfl
theorem t_356 : Cond.code yX5_readWhole cX5_readWhole 1 (some .boolean) ∈ jT := jm_2 57 (rfl) rfl
theorem t_354 : Cond.instanceMethod yX5_readWhole ∈ jT := jm_2 55 (by decide +kernel) rfl
theorem t_355 : Cond.selects RX5 yX5_readWhole yX5_readWhole ∈ jT := jm_2 56 (by decide +kernel) rfl
theorem vX6_115 : jCv RX6 115 yX5_readWhole cX5_readWhole 1 (some .boolean) 0 := ⟨t_353, t_354, t_355, t_62, t_356, ⟨by decide +kernel, by decide +kernel, by decide +kernel⟩, by decide⟩
theorem t_357 : Cond.methodLink RX5 41 yX5_readLaw ∈ jT := jm_2 58 (by decide +kernel) rfl
theorem t_360 : Cond.code yX5_readLaw cX5_readLaw 1 (some .boolean) ∈ jT := jm_2 61 (rfl) rfl
theorem t_359 : Cond.instanceMethod yX5_readLaw ∈ jT := jm_2 60 (by decide +kernel) rfl
theorem t_2 : Cond.selects RX5 yX5_readLaw yX5_readLaw ∈ jT := jm_0 2 (by decide +kernel) rfl
theorem vX5_41 : jCv RX5 41 yX5_readLaw cX5_readLaw 1 (some .boolean) 0 := ⟨t_357, t_359, t_2, t_62, t_360, ⟨by decide +kernel, by decide +kernel, by decide +kernel⟩, by decide⟩
theorem t_361 : Cond.methodLink RX5 51 yX5_takeByte ∈ jT := jm_2 62 (by decide +kernel) rfl
theorem t_364 : Cond.code yX5_takeByte cX5_takeByte 2 (some .boolean) ∈ jT := jm_2 65 (rfl) rfl
theorem t_363 : Cond.instanceMethod yX5_takeByte ∈ jT := jm_2 64 (by decide +kernel) rfl
theorem t_3 : Cond.selects RX5 yX5_takeByte yX5_takeByte ∈ jT := jm_0 3 (by decide +kernel) rfl
theorem vX5_51 : jCv RX5 51 yX5_takeByte cX5_takeByte 2 (some .boolean) 1 := ⟨t_361, t_363, t_3, t_62, t_364, ⟨by decide +kernel, by decide +kernel, by decide +kernel⟩, by decide⟩
theorem t_365 : Cond.methodLink RX5 65 yX5_standsHere ∈ jT := jm_2 66 (by decide +kernel) rfl
theorem t_368 : Cond.code yX5_standsHere cX5_standsHere 2 (some .boolean) ∈ jT := jm_2 69 (rfl) rfl
theorem t_367 : Cond.instanceMethod yX5_standsHere ∈ jT := jm_2 68 (by decide +kernel) rfl
theorem t_4 : Cond.selects RX5 yX5_standsHere yX5_standsHere ∈ jT := jm_0 4 (by decide +kernel) rfl
theorem vX5_65 : jCv RX5 65 yX5_standsHere cX5_standsHere 2 (some .boolean) 1 := ⟨t_365, t_367, t_4, t_62, t_368, ⟨by decide +kernel, by decide +kernel, by decide +kernel⟩, by decide⟩
theorem t_369 : Cond.methodLink RX5 68 yX5_refuse ∈ jT := jm_2 70 (by decide +kernel) rfl
theorem t_372 : Cond.code yX5_refuse cX5_refuse 2 (some .boolean) ∈ jT := jm_2 73 (rfl) rfl
theorem t_371 : Cond.instanceMethod yX5_refuse ∈ jT := jm_2 72 (by decide +kernel) rfl
theorem t_5 : Cond.selects RX5 yX5_refuse yX5_refuse ∈ jT := jm_0 5 (by decide +kernel) rfl
theorem vX5_68 : jCv RX5 68 yX5_refuse cX5_refuse 2 (some .boolean) 1 := ⟨t_369, t_371, t_5, t_62, t_372, ⟨by decide +kernel, by decide +kernel, by decide +kernel⟩, by decide⟩
theorem t_373 : Cond.methodLink RX5 55 yX5_takeNumber ∈ jT := jm_2 74 (by decide +kernel) rfl
theorem t_376 : Cond.code yX5_takeNumber cX5_takeNumber 6 (some .int) ∈ jT := jm_2 77 (rfl) rfl
theorem t_375 : Cond.instanceMethod yX5_takeNumber ∈ jT := jm_2 76 (by decide +kernel) rfl
theorem t_6 : Cond.selects RX5 yX5_takeNumber yX5_takeNumber ∈ jT := jm_0 6 (by decide +kernel) rfl
theorem vX5_55 : jCv RX5 55 yX5_takeNumber cX5_takeNumber 6 (some .int) 2 := ⟨t_373, t_375, t_6, t_62, t_376, ⟨by decide +kernel, by decide +kernel, by decide +kernel⟩, by decide⟩
theorem t_377 : Cond.methodLink RX5 96 yX5_isFigure ∈ jT := jm_2 78 (by decide +kernel) rfl
theorem t_379 : Cond.code yX5_isFigure cX5_isFigure 1 (some .boolean) ∈ jT := jm_2 80 (rfl) rfl
theorem t_378 : Cond.static yX5_isFigure ∈ jT := jm_2 79 (by decide +kernel) rfl
theorem sX5_96 : jCs RX5 96 yX5_isFigure cX5_isFigure 1 (some .boolean) 1 := ⟨t_377, t_378, t_62, t_379, ⟨by decide +kernel, by decide +kernel, by decide +kernel⟩, by decide⟩
theorem t_381 : Cond.methodLink RX5 45 yX5_readHearths ∈ jT := jm_2 82 (by decide +kernel) rfl
theorem t_384 : Cond.code yX5_readHearths cX5_readHearths 2 (some .boolean) ∈ jT := jm_2 85 (rfl) rfl
theorem t_383 : Cond.instanceMethod yX5_readHearths ∈ jT := jm_2 84 (by decide +kernel) rfl
theorem t_7 : Cond.selects RX5 yX5_readHearths yX5_readHearths ∈ jT := jm_0 7 (by decide +kernel) rfl
theorem vX5_45 : jCv RX5 45 yX5_readHearths cX5_readHearths 2 (some .boolean) 0 := ⟨t_381, t_383, t_7, t_62, t_384, ⟨by decide +kernel, by decide +kernel, by decide +kernel⟩, by decide⟩
theorem t_385 : Cond.methodLink RX5 71 yX5_readHearth ∈ jT := jm_2 86 (by decide +kernel) rfl
theorem t_388 : Cond.code yX5_readHearth cX5_readHearth 2 (some .boolean) ∈ jT := jm_2 89 (rfl) rfl
theorem t_387 : Cond.instanceMethod yX5_readHearth ∈ jT := jm_2 88 (by decide +kernel) rfl
theorem t_8 : Cond.selects RX5 yX5_readHearth yX5_readHearth ∈ jT := jm_0 8 (by decide +kernel) rfl
theorem vX5_71 : jCv RX5 71 yX5_readHearth cX5_readHearth 2 (some .boolean) 1 := ⟨t_385, t_387, t_8, t_62, t_388, ⟨by decide +kernel, by decide +kernel, by decide +kernel⟩, by decide⟩
theorem t_389 : Cond.methodLink RX5 48 yX5_readPairs ∈ jT := jm_2 90 (by decide +kernel) rfl
theorem t_392 : Cond.code yX5_readPairs cX5_readPairs 3 (some .boolean) ∈ jT := jm_2 93 (rfl) rfl
theorem t_391 : Cond.instanceMethod yX5_readPairs ∈ jT := jm_2 92 (by decide +kernel) rfl
theorem t_9 : Cond.selects RX5 yX5_readPairs yX5_readPairs ∈ jT := jm_0 9 (by decide +kernel) rfl
theorem vX5_48 : jCv RX5 48 yX5_readPairs cX5_readPairs 3 (some .boolean) 0 := ⟨t_389, t_391, t_9, t_62, t_392, ⟨by decide +kernel, by decide +kernel, by decide +kernel⟩, by decide⟩
theorem t_393 : Cond.methodLink RX5 77 yX5_kindOfLetter ∈ jT := jm_2 94 (by decide +kernel) rfl
theorem t_395 : Cond.code yX5_kindOfLetter cX5_kindOfLetter 1 (some .int) ∈ jT := jm_2 96 (rfl) rfl
theorem t_394 : Cond.static yX5_kindOfLetter ∈ jT := jm_2 95 (by decide +kernel) rfl
theorem sX5_77 : jCs RX5 77 yX5_kindOfLetter cX5_kindOfLetter 1 (some .int) 1 := ⟨t_393, t_394, t_62, t_395, ⟨by decide +kernel, by decide +kernel, by decide +kernel⟩, by decide⟩
theorem t_396 : Cond.methodLink RX5 84 yX5_readPair ∈ jT := jm_2 97 (by decide +kernel) rfl
theorem t_399 : Cond.code yX5_readPair cX5_readPair 2 (some .boolean) ∈ jT := jm_2 100 (rfl) rfl
theorem t_398 : Cond.instanceMethod yX5_readPair ∈ jT := jm_2 99 (by decide +kernel) rfl
theorem t_10 : Cond.selects RX5 yX5_readPair yX5_readPair ∈ jT := jm_0 10 (by decide +kernel) rfl
theorem vX5_84 : jCv RX5 84 yX5_readPair cX5_readPair 2 (some .boolean) 1 := ⟨t_396, t_398, t_10, t_62, t_399, ⟨by decide +kernel, by decide +kernel, by decide +kernel⟩, by decide⟩
theorem t_401 : Cond.methodLink RX6 128 yX3_become ∈ jT := jm_2 102 (by decide +kernel) rfl
theorem t_404 : Cond.code yX3_become cX3_become 2 (none : Option Jvm.ClassFile.FieldType) ∈ jT := jm_2 105 (rfl) rfl
theorem t_402 : Cond.instanceMethod yX3_become ∈ jT := jm_2 103 (by decide +kernel) rfl
theorem t_403 : Cond.selects RX3 yX3_become yX3_become ∈ jT := jm_2 104 (by decide +kernel) rfl
theorem vX6_128 : jCv RX6 128 yX3_become cX3_become 2 (none : Option Jvm.ClassFile.FieldType) 1 := ⟨t_401, t_402, t_403, t_63, t_404, ⟨by decide +kernel, by decide +kernel, by decide +kernel⟩, by decide⟩
theorem t_405 : Cond.methodLink RX3 46 arraycopyName ∈ jT := jm_2 106 (by decide +kernel) rfl
theorem aX3_46 : Cond.methodLink RX3 46 arraycopyName ∈ jT := t_405
theorem t_406 : Cond.methodLink RX6 132 yX0_forgetAll ∈ jT := jm_2 107 (by decide +kernel) rfl
theorem t_409 : Cond.code yX0_forgetAll cX0_forgetAll 1 (none : Option Jvm.ClassFile.FieldType) ∈ jT := jm_2 110 (rfl) rfl
theorem t_407 : Cond.instanceMethod yX0_forgetAll ∈ jT := jm_2 108 (by decide +kernel) rfl
theorem t_408 : Cond.selects RX0 yX0_forgetAll yX0_forgetAll ∈ jT := jm_2 109 (by decide +kernel) rfl
theorem vX6_132 : jCv RX6 132 yX0_forgetAll cX0_forgetAll 1 (none : Option Jvm.ClassFile.FieldType) 0 := ⟨t_406, t_407, t_408, t_64, t_409, ⟨by decide +kernel, by decide +kernel, by decide +kernel⟩, by decide⟩
theorem t_410 : Cond.methodLink RL 41 yX6_fault ∈ jT := jm_2 111 (by decide +kernel) rfl
theorem t_413 : Cond.code yX6_fault cX6_fault 1 (some .int) ∈ jT := jm_2 114 (rfl) rfl
theorem t_411 : Cond.instanceMethod yX6_fault ∈ jT := jm_2 112 (by decide +kernel) rfl
theorem t_412 : Cond.selects RX6 yX6_fault yX6_fault ∈ jT := jm_2 113 (by decide +kernel) rfl
theorem vL_41 : jCv RL 41 yX6_fault cX6_fault 1 (some .int) 0 := ⟨t_410, t_411, t_412, t_60, t_413, ⟨by decide +kernel, by decide +kernel, by decide +kernel⟩, by decide⟩
theorem t_414 : Cond.methodLink RL 45 yX6_days ∈ jT := jm_2 115 (by decide +kernel) rfl
theorem t_417 : Cond.code yX6_days cX6_days 3 (some .int) ∈ jT := jm_2 118 (rfl) rfl
theorem t_415 : Cond.instanceMethod yX6_days ∈ jT := jm_2 116 (by decide +kernel) rfl
theorem t_416 : Cond.selects RX6 yX6_days yX6_days ∈ jT := jm_2 117 (by decide +kernel) rfl
theorem vL_45 : jCv RL 45 yX6_days cX6_days 3 (some .int) 1 := ⟨t_414, t_415, t_416, t_60, t_417, ⟨by decide +kernel, by decide +kernel, by decide +kernel⟩, by decide⟩
theorem t_418 : Cond.methodLink RX6 141 yX3_stands ∈ jT := jm_2 119 (by decide +kernel) rfl
theorem t_421 : Cond.code yX3_stands cX3_stands 1 (some .boolean) ∈ jT := jm_2 122 (rfl) rfl
theorem t_419 : Cond.instanceMethod yX3_stands ∈ jT := jm_2 120 (by decide +kernel) rfl
theorem t_420 : Cond.selects RX3 yX3_stands yX3_stands ∈ jT := jm_2 121 (by decide +kernel) rfl
theorem vX6_141 : jCv RX6 141 yX3_stands cX3_stands 1 (some .boolean) 0 := ⟨t_418, t_419, t_420, t_63, t_421, ⟨by decide +kernel, by decide +kernel, by decide +kernel⟩, by decide⟩
theorem t_423 : Cond.methodLink RX6 148 yX0_keep ∈ jT := jm_2 124 (by decide +kernel) rfl
theorem t_426 : Cond.code yX0_keep cX0_keep 2 (none : Option Jvm.ClassFile.FieldType) ∈ jT := jm_2 127 (rfl) rfl
theorem t_424 : Cond.instanceMethod yX0_keep ∈ jT := jm_2 125 (by decide +kernel) rfl
theorem t_425 : Cond.selects RX0 yX0_keep yX0_keep ∈ jT := jm_2 126 (by decide +kernel) rfl
theorem vX6_148 : jCv RX6 148 yX0_keep cX0_keep 2 (none : Option Jvm.ClassFile.FieldType) 1 := ⟨t_423, t_424, t_425, t_64, t_426, ⟨by decide +kernel, by decide +kernel, by decide +kernel⟩, by decide⟩
theorem t_427 : Cond.methodLink RX0 23 yX3_become ∈ jT := jm_2 128 (by decide +kernel) rfl
theorem vX0_23 : jCv RX0 23 yX3_become cX3_become 2 (none : Option Jvm.ClassFile.FieldType) 1 := ⟨t_427, t_402, t_403, t_63, t_404, ⟨by decide +kernel, by decide +kernel, by decide +kernel⟩, by decide⟩
theorem t_428 : Cond.methodLink RX0 27 yJ9_min_7cf53 ∈ jT := jm_2 129 (by decide +kernel) rfl
theorem t_430 : Cond.code yJ9_min_7cf53 cJ9_min_7cf53 2 (some .int) ∈ jT := jm_2 131 (rfl) rfl
theorem t_429 : Cond.static yJ9_min_7cf53 ∈ jT := jm_2 130 (by decide +kernel) rfl
theorem sX0_27 : jCs RX0 27 yJ9_min_7cf53 cJ9_min_7cf53 2 (some .int) 2 := ⟨t_428, t_429, t_69, t_430, ⟨by decide +kernel, by decide +kernel, by decide +kernel⟩, by decide⟩
theorem t_431 : Cond.methodLink RX6 151 yX3_passDay ∈ jT := jm_2 132 (by decide +kernel) rfl
theorem t_434 : Cond.code yX3_passDay cX3_passDay 2 (none : Option Jvm.ClassFile.FieldType) ∈ jT := jm_2 135 (rfl) rfl
theorem t_432 : Cond.instanceMethod yX3_passDay ∈ jT := jm_2 133 (by decide +kernel) rfl
theorem t_433 : Cond.selects RX3 yX3_passDay yX3_passDay ∈ jT := jm_2 134 (by decide +kernel) rfl
theorem vX6_151 : jCv RX6 151 yX3_passDay cX3_passDay 2 (none : Option Jvm.ClassFile.FieldType) 0 := ⟨t_431, t_432, t_433, t_63, t_434, ⟨by decide +kernel, by decide +kernel, by decide +kernel⟩, by decide⟩
theorem t_435 : Cond.methodLink RX3 61 yX3_gatherBlown ∈ jT := jm_2 136 (by decide +kernel) rfl
theorem t_438 : Cond.code yX3_gatherBlown cX3_gatherBlown 2 (none : Option Jvm.ClassFile.FieldType) ∈ jT := jm_2 139 (rfl) rfl
theorem t_437 : Cond.instanceMethod yX3_gatherBlown ∈ jT := jm_2 138 (by decide +kernel) rfl
theorem t_11 : Cond.selects RX3 yX3_gatherBlown yX3_gatherBlown ∈ jT := jm_0 11 (by decide +kernel) rfl
theorem vX3_61 : jCv RX3 61 yX3_gatherBlown cX3_gatherBlown 2 (none : Option Jvm.ClassFile.FieldType) 0 := ⟨t_435, t_437, t_11, t_63, t_438, ⟨by decide +kernel, by decide +kernel, by decide +kernel⟩, by decide⟩
theorem t_439 : Cond.methodLink RX3 64 yX3_blownBy ∈ jT := jm_2 140 (by decide +kernel) rfl
theorem t_442 : Cond.code yX3_blownBy cX3_blownBy 2 (some .int) ∈ jT := jm_2 143 (rfl) rfl
theorem t_441 : Cond.instanceMethod yX3_blownBy ∈ jT := jm_2 142 (by decide +kernel) rfl
theorem t_12 : Cond.selects RX3 yX3_blownBy yX3_blownBy ∈ jT := jm_0 12 (by decide +kernel) rfl
theorem vX3_64 : jCv RX3 64 yX3_blownBy cX3_blownBy 2 (some .int) 1 := ⟨t_439, t_441, t_12, t_63, t_442, ⟨by decide +kernel, by decide +kernel, by decide +kernel⟩, by decide⟩
theorem t_443 : Cond.methodLink RX3 72 yJ9_min_7cf53 ∈ jT := jm_2 144 (by decide +kernel) rfl
theorem sX3_72 : jCs RX3 72 yJ9_min_7cf53 cJ9_min_7cf53 2 (some .int) 2 := ⟨t_443, t_429, t_69, t_430, ⟨by decide +kernel, by decide +kernel, by decide +kernel⟩, by decide⟩
theorem t_444 : Cond.methodLink RX3 78 yX3_changeOf ∈ jT := jm_2 145 (by decide +kernel) rfl
theorem t_447 : Cond.code yX3_changeOf cX3_changeOf 3 (some .int) ∈ jT := jm_2 148 (rfl) rfl
theorem t_445 : Cond.instanceMethod yX3_changeOf ∈ jT := jm_2 146 (by decide +kernel) rfl
theorem t_446 : Cond.selects RX3 yX3_changeOf yX3_changeOf ∈ jT := jm_2 147 (by decide +kernel) rfl
theorem vX3_78 : jCv RX3 78 yX3_changeOf cX3_changeOf 3 (some .int) 1 := ⟨t_444, t_445, t_446, t_63, t_447, ⟨by decide +kernel, by decide +kernel, by decide +kernel⟩, by decide⟩
theorem t_448 : Cond.methodLink RX3 68 yX3_isWarmDay ∈ jT := jm_2 149 (by decide +kernel) rfl
theorem t_451 : Cond.code yX3_isWarmDay cX3_isWarmDay 1 (some .boolean) ∈ jT := jm_2 152 (rfl) rfl
theorem t_450 : Cond.instanceMethod yX3_isWarmDay ∈ jT := jm_2 151 (by decide +kernel) rfl
theorem t_13 : Cond.selects RX3 yX3_isWarmDay yX3_isWarmDay ∈ jT := jm_0 13 (by decide +kernel) rfl
theorem vX3_68 : jCv RX3 68 yX3_isWarmDay cX3_isWarmDay 1 (some .boolean) 0 := ⟨t_448, t_450, t_13, t_63, t_451, ⟨by decide +kernel, by decide +kernel, by decide +kernel⟩, by decide⟩
theorem t_452 : Cond.methodLink RX3 52 yX3_isLit ∈ jT := jm_2 153 (by decide +kernel) rfl
theorem t_455 : Cond.code yX3_isLit cX3_isLit 2 (some .boolean) ∈ jT := jm_2 156 (rfl) rfl
theorem t_453 : Cond.instanceMethod yX3_isLit ∈ jT := jm_2 154 (by decide +kernel) rfl
theorem t_454 : Cond.selects RX3 yX3_isLit yX3_isLit ∈ jT := jm_2 155 (by decide +kernel) rfl
theorem vX3_52 : jCv RX3 52 yX3_isLit cX3_isLit 2 (some .boolean) 1 := ⟨t_452, t_453, t_454, t_63, t_455, ⟨by decide +kernel, by decide +kernel, by decide +kernel⟩, by decide⟩
theorem t_456 : Cond.methodLink RX3 81 yX3_burnAll ∈ jT := jm_2 157 (by decide +kernel) rfl
theorem t_459 : Cond.code yX3_burnAll cX3_burnAll 5 (none : Option Jvm.ClassFile.FieldType) ∈ jT := jm_2 160 (rfl) rfl
theorem t_458 : Cond.instanceMethod yX3_burnAll ∈ jT := jm_2 159 (by decide +kernel) rfl
theorem t_14 : Cond.selects RX3 yX3_burnAll yX3_burnAll ∈ jT := jm_0 14 (by decide +kernel) rfl
theorem vX3_81 : jCv RX3 81 yX3_burnAll cX3_burnAll 5 (none : Option Jvm.ClassFile.FieldType) 0 := ⟨t_456, t_458, t_14, t_63, t_459, ⟨by decide +kernel, by decide +kernel, by decide +kernel⟩, by decide⟩
theorem t_460 : Cond.methodLink RX3 84 yJ9_max_7cf53 ∈ jT := jm_2 161 (by decide +kernel) rfl
theorem t_462 : Cond.code yJ9_max_7cf53 cJ9_max_7cf53 2 (some .int) ∈ jT := jm_2 163 (rfl) rfl
theorem t_461 : Cond.static yJ9_max_7cf53 ∈ jT := jm_2 162 (by decide +kernel) rfl
theorem sX3_84 : jCs RX3 84 yJ9_max_7cf53 cJ9_max_7cf53 2 (some .int) 2 := ⟨t_460, t_461, t_69, t_462, ⟨by decide +kernel, by decide +kernel, by decide +kernel⟩, by decide⟩
theorem t_463 : Cond.methodLink RX3 87 yX3_burnt ∈ jT := jm_2 164 (by decide +kernel) rfl
theorem t_466 : Cond.code yX3_burnt cX3_burnt 4 (some .int) ∈ jT := jm_2 167 (rfl) rfl
theorem t_465 : Cond.instanceMethod yX3_burnt ∈ jT := jm_2 166 (by decide +kernel) rfl
theorem t_15 : Cond.selects RX3 yX3_burnt yX3_burnt ∈ jT := jm_0 15 (by decide +kernel) rfl
theorem vX3_87 : jCv RX3 87 yX3_burnt cX3_burnt 4 (some .int) 3 := ⟨t_463, t_465, t_15, t_63, t_466, ⟨by decide +kernel, by decide +kernel, by decide +kernel⟩, by decide⟩
theorem t_467 : Cond.methodLink RX6 154 yX3_litBits ∈ jT := jm_2 168 (by decide +kernel) rfl
theorem t_470 : Cond.code yX3_litBits cX3_litBits 3 (some .int) ∈ jT := jm_2 171 (rfl) rfl
theorem t_468 : Cond.instanceMethod yX3_litBits ∈ jT := jm_2 169 (by decide +kernel) rfl
theorem t_469 : Cond.selects RX3 yX3_litBits yX3_litBits ∈ jT := jm_2 170 (by decide +kernel) rfl
theorem vX6_154 : jCv RX6 154 yX3_litBits cX3_litBits 3 (some .int) 0 := ⟨t_467, t_468, t_469, t_63, t_470, ⟨by decide +kernel, by decide +kernel, by decide +kernel⟩, by decide⟩
theorem t_471 : Cond.methodLink RL 49 yX6_peg ∈ jT := jm_2 172 (by decide +kernel) rfl
theorem t_474 : Cond.code yX6_peg cX6_peg 3 (some .int) ∈ jT := jm_2 175 (rfl) rfl
theorem t_472 : Cond.instanceMethod yX6_peg ∈ jT := jm_2 173 (by decide +kernel) rfl
theorem t_473 : Cond.selects RX6 yX6_peg yX6_peg ∈ jT := jm_2 174 (by decide +kernel) rfl
theorem vL_49 : jCv RL 49 yX6_peg cX6_peg 3 (some .int) 2 := ⟨t_471, t_472, t_473, t_60, t_474, ⟨by decide +kernel, by decide +kernel, by decide +kernel⟩, by decide⟩
theorem t_475 : Cond.methodLink RX6 158 yX6_isPair ∈ jT := jm_2 176 (by decide +kernel) rfl
theorem t_478 : Cond.code yX6_isPair cX6_isPair 2 (some .boolean) ∈ jT := jm_2 179 (rfl) rfl
theorem t_477 : Cond.instanceMethod yX6_isPair ∈ jT := jm_2 178 (by decide +kernel) rfl
theorem t_16 : Cond.selects RX6 yX6_isPair yX6_isPair ∈ jT := jm_0 16 (by decide +kernel) rfl
theorem vX6_158 : jCv RX6 158 yX6_isPair cX6_isPair 2 (some .boolean) 1 := ⟨t_475, t_477, t_16, t_60, t_478, ⟨by decide +kernel, by decide +kernel, by decide +kernel⟩, by decide⟩
theorem t_479 : Cond.methodLink RX6 164 yX3_pegBits ∈ jT := jm_2 180 (by decide +kernel) rfl
theorem t_482 : Cond.code yX3_pegBits cX3_pegBits 3 (some .int) ∈ jT := jm_2 183 (rfl) rfl
theorem t_480 : Cond.instanceMethod yX3_pegBits ∈ jT := jm_2 181 (by decide +kernel) rfl
theorem t_481 : Cond.selects RX3 yX3_pegBits yX3_pegBits ∈ jT := jm_2 182 (by decide +kernel) rfl
theorem vX6_164 : jCv RX6 164 yX3_pegBits cX3_pegBits 3 (some .int) 0 := ⟨t_479, t_480, t_481, t_63, t_482, ⟨by decide +kernel, by decide +kernel, by decide +kernel⟩, by decide⟩
theorem t_483 : Cond.methodLink RL 54 yX6_move ∈ jT := jm_2 184 (by decide +kernel) rfl
theorem t_486 : Cond.code yX6_move cX6_move 4 (some .int) ∈ jT := jm_2 187 (rfl) rfl
theorem t_484 : Cond.instanceMethod yX6_move ∈ jT := jm_2 185 (by decide +kernel) rfl
theorem t_485 : Cond.selects RX6 yX6_move yX6_move ∈ jT := jm_2 186 (by decide +kernel) rfl
theorem vL_54 : jCv RL 54 yX6_move cX6_move 4 (some .int) 2 := ⟨t_483, t_484, t_485, t_60, t_486, ⟨by decide +kernel, by decide +kernel, by decide +kernel⟩, by decide⟩
theorem t_487 : Cond.methodLink RX6 167 yX6_isHearth ∈ jT := jm_2 188 (by decide +kernel) rfl
theorem t_490 : Cond.code yX6_isHearth cX6_isHearth 2 (some .boolean) ∈ jT := jm_2 191 (rfl) rfl
theorem t_489 : Cond.instanceMethod yX6_isHearth ∈ jT := jm_2 190 (by decide +kernel) rfl
theorem t_17 : Cond.selects RX6 yX6_isHearth yX6_isHearth ∈ jT := jm_0 17 (by decide +kernel) rfl
theorem vX6_167 : jCv RX6 167 yX6_isHearth cX6_isHearth 2 (some .boolean) 1 := ⟨t_487, t_489, t_17, t_60, t_490, ⟨by decide +kernel, by decide +kernel, by decide +kernel⟩, by decide⟩
theorem t_491 : Cond.methodLink RL 58 yX6_light ∈ jT := jm_2 192 (by decide +kernel) rfl
theorem t_494 : Cond.code yX6_light cX6_light 4 (some .int) ∈ jT := jm_2 195 (rfl) rfl
theorem t_492 : Cond.instanceMethod yX6_light ∈ jT := jm_2 193 (by decide +kernel) rfl
theorem t_493 : Cond.selects RX6 yX6_light yX6_light ∈ jT := jm_2 194 (by decide +kernel) rfl
theorem vL_58 : jCv RL 58 yX6_light cX6_light 4 (some .int) 2 := ⟨t_491, t_492, t_493, t_60, t_494, ⟨by decide +kernel, by decide +kernel, by decide +kernel⟩, by decide⟩
theorem t_495 : Cond.methodLink RL 62 yX6_weather ∈ jT := jm_2 196 (by decide +kernel) rfl
theorem t_498 : Cond.code yX6_weather cX6_weather 3 (some .int) ∈ jT := jm_2 199 (rfl) rfl
theorem t_496 : Cond.instanceMethod yX6_weather ∈ jT := jm_2 197 (by decide +kernel) rfl
theorem t_497 : Cond.selects RX6 yX6_weather yX6_weather ∈ jT := jm_2 198 (by decide +kernel) rfl
theorem vL_62 : jCv RL 62 yX6_weather cX6_weather 3 (some .int) 1 := ⟨t_495, t_496, t_497, t_60, t_498, ⟨by decide +kernel, by decide +kernel, by decide +kernel⟩, by decide⟩
theorem t_499 : Cond.methodLink RL 66 yX6_undo ∈ jT := jm_2 200 (by decide +kernel) rfl
theorem t_502 : Cond.code yX6_undo cX6_undo 1 (some .int) ∈ jT := jm_2 203 (rfl) rfl
theorem t_500 : Cond.instanceMethod yX6_undo ∈ jT := jm_2 201 (by decide +kernel) rfl
theorem t_501 : Cond.selects RX6 yX6_undo yX6_undo ∈ jT := jm_2 202 (by decide +kernel) rfl
theorem vL_66 : jCv RL 66 yX6_undo cX6_undo 1 (some .int) 0 := ⟨t_499, t_500, t_501, t_60, t_502, ⟨by decide +kernel, by decide +kernel, by decide +kernel⟩, by decide⟩
theorem t_503 : Cond.methodLink RX6 182 yX0_bringBack ∈ jT := jm_2 204 (by decide +kernel) rfl
theorem t_506 : Cond.code yX0_bringBack cX0_bringBack 2 (none : Option Jvm.ClassFile.FieldType) ∈ jT := jm_2 207 (rfl) rfl
theorem t_504 : Cond.instanceMethod yX0_bringBack ∈ jT := jm_2 205 (by decide +kernel) rfl
theorem t_505 : Cond.selects RX0 yX0_bringBack yX0_bringBack ∈ jT := jm_2 206 (by decide +kernel) rfl
theorem vX6_182 : jCv RX6 182 yX0_bringBack cX0_bringBack 2 (none : Option Jvm.ClassFile.FieldType) 1 := ⟨t_503, t_504, t_505, t_64, t_506, ⟨by decide +kernel, by decide +kernel, by decide +kernel⟩, by decide⟩
theorem t_507 : Cond.methodLink RL 70 yX6_pair ∈ jT := jm_2 208 (by decide +kernel) rfl
theorem t_510 : Cond.code yX6_pair cX6_pair 3 (some .int) ∈ jT := jm_2 211 (rfl) rfl
theorem t_508 : Cond.instanceMethod yX6_pair ∈ jT := jm_2 209 (by decide +kernel) rfl
theorem t_509 : Cond.selects RX6 yX6_pair yX6_pair ∈ jT := jm_2 210 (by decide +kernel) rfl
theorem vL_70 : jCv RL 70 yX6_pair cX6_pair 3 (some .int) 2 := ⟨t_507, t_508, t_509, t_60, t_510, ⟨by decide +kernel, by decide +kernel, by decide +kernel⟩, by decide⟩
theorem t_511 : Cond.methodLink RX6 188 yX3_changeOf ∈ jT := jm_2 212 (by decide +kernel) rfl
theorem vX6_188 : jCv RX6 188 yX3_changeOf cX3_changeOf 3 (some .int) 1 := ⟨t_511, t_445, t_446, t_63, t_447, ⟨by decide +kernel, by decide +kernel, by decide +kernel⟩, by decide⟩
theorem t_512 : Cond.methodLink RL 74 yX6_hearth ∈ jT := jm_2 213 (by decide +kernel) rfl
theorem t_515 : Cond.code yX6_hearth cX6_hearth 3 (some .int) ∈ jT := jm_2 216 (rfl) rfl
theorem t_513 : Cond.instanceMethod yX6_hearth ∈ jT := jm_2 214 (by decide +kernel) rfl
theorem t_514 : Cond.selects RX6 yX6_hearth yX6_hearth ∈ jT := jm_2 215 (by decide +kernel) rfl
theorem vL_74 : jCv RL 74 yX6_hearth cX6_hearth 3 (some .int) 2 := ⟨t_512, t_513, t_514, t_60, t_515, ⟨by decide +kernel, by decide +kernel, by decide +kernel⟩, by decide⟩
theorem t_516 : Cond.methodLink RX6 191 yX3_isLit ∈ jT := jm_2 217 (by decide +kernel) rfl
theorem vX6_191 : jCv RX6 191 yX3_isLit cX3_isLit 2 (some .boolean) 1 := ⟨t_516, t_453, t_454, t_63, t_455, ⟨by decide +kernel, by decide +kernel, by decide +kernel⟩, by decide⟩
theorem t_517 : Cond.methodLink RX6 194 yX3_pairBitsAt ∈ jT := jm_2 218 (by decide +kernel) rfl
theorem t_520 : Cond.code yX3_pairBitsAt cX3_pairBitsAt 4 (some .int) ∈ jT := jm_2 221 (rfl) rfl
theorem t_518 : Cond.instanceMethod yX3_pairBitsAt ∈ jT := jm_2 219 (by decide +kernel) rfl
theorem t_519 : Cond.selects RX3 yX3_pairBitsAt yX3_pairBitsAt ∈ jT := jm_2 220 (by decide +kernel) rfl
theorem vX6_194 : jCv RX6 194 yX3_pairBitsAt cX3_pairBitsAt 4 (some .int) 1 := ⟨t_517, t_518, t_519, t_63, t_520, ⟨by decide +kernel, by decide +kernel, by decide +kernel⟩, by decide⟩
theorem t_521 : Cond.methodLink RX6 197 yX3_blownInto ∈ jT := jm_2 222 (by decide +kernel) rfl
theorem t_524 : Cond.code yX3_blownInto cX3_blownInto 2 (some .int) ∈ jT := jm_2 225 (rfl) rfl
theorem t_522 : Cond.instanceMethod yX3_blownInto ∈ jT := jm_2 223 (by decide +kernel) rfl
theorem t_523 : Cond.selects RX3 yX3_blownInto yX3_blownInto ∈ jT := jm_2 224 (by decide +kernel) rfl
theorem vX6_197 : jCv RX6 197 yX3_blownInto cX3_blownInto 2 (some .int) 1 := ⟨t_521, t_522, t_523, t_63, t_524, ⟨by decide +kernel, by decide +kernel, by decide +kernel⟩, by decide⟩
theorem t_525 : Cond.methodLink RL 78 yX6_breath ∈ jT := jm_2 226 (by decide +kernel) rfl
theorem t_528 : Cond.code yX6_breath cX6_breath 3 (some .int) ∈ jT := jm_2 229 (rfl) rfl
theorem t_526 : Cond.instanceMethod yX6_breath ∈ jT := jm_2 227 (by decide +kernel) rfl
theorem t_527 : Cond.selects RX6 yX6_breath yX6_breath ∈ jT := jm_2 228 (by decide +kernel) rfl
theorem vL_78 : jCv RL 78 yX6_breath cX6_breath 3 (some .int) 2 := ⟨t_525, t_526, t_527, t_60, t_528, ⟨by decide +kernel, by decide +kernel, by decide +kernel⟩, by decide⟩
theorem t_529 : Cond.methodLink RX6 200 yX2_behind ∈ jT := jm_2 230 (by decide +kernel) rfl
theorem t_532 : Cond.code yX2_behind cX2_behind 3 (some (.object "BellowsWords$House")) ∈ jT := jm_2 233 (rfl) rfl
theorem t_530 : Cond.instanceMethod yX2_behind ∈ jT := jm_2 231 (by decide +kernel) rfl
theorem t_531 : Cond.selects RX2 yX2_behind yX2_behind ∈ jT := jm_2 232 (by decide +kernel) rfl
theorem vX6_200 : jCv RX6 200 yX2_behind cX2_behind 3 (some (.object "BellowsWords$House")) 2 := ⟨t_529, t_530, t_531, t_65, t_532, ⟨by decide +kernel, by decide +kernel, by decide +kernel⟩, by decide⟩
theorem t_533 : Cond.methodLink RX2 25 yX3_become ∈ jT := jm_2 234 (by decide +kernel) rfl
theorem vX2_25 : jCv RX2 25 yX3_become cX3_become 2 (none : Option Jvm.ClassFile.FieldType) 1 := ⟨t_533, t_402, t_403, t_63, t_404, ⟨by decide +kernel, by decide +kernel, by decide +kernel⟩, by decide⟩
theorem t_534 : Cond.methodLink RX2 29 yX2_passDays ∈ jT := jm_2 235 (by decide +kernel) rfl
theorem t_537 : Cond.code yX2_passDays cX2_passDays 3 (none : Option Jvm.ClassFile.FieldType) ∈ jT := jm_2 238 (rfl) rfl
theorem t_536 : Cond.instanceMethod yX2_passDays ∈ jT := jm_2 237 (by decide +kernel) rfl
theorem t_18 : Cond.selects RX2 yX2_passDays yX2_passDays ∈ jT := jm_0 18 (by decide +kernel) rfl
theorem vX2_29 : jCv RX2 29 yX2_passDays cX2_passDays 3 (none : Option Jvm.ClassFile.FieldType) 1 := ⟨t_534, t_536, t_18, t_65, t_537, ⟨by decide +kernel, by decide +kernel, by decide +kernel⟩, by decide⟩
theorem t_538 : Cond.methodLink RX2 38 yX3_passDay ∈ jT := jm_2 239 (by decide +kernel) rfl
theorem vX2_38 : jCv RX2 38 yX3_passDay cX3_passDay 2 (none : Option Jvm.ClassFile.FieldType) 0 := ⟨t_538, t_432, t_433, t_63, t_434, ⟨by decide +kernel, by decide +kernel, by decide +kernel⟩, by decide⟩
theorem t_539 : Cond.methodLink RL 82 yX6_fire ∈ jT := jm_3 0 (by decide +kernel) rfl
theorem t_542 : Cond.code yX6_fire cX6_fire 3 (some .int) ∈ jT := jm_3 3 (rfl) rfl
theorem t_540 : Cond.instanceMethod yX6_fire ∈ jT := jm_3 1 (by decide +kernel) rfl
theorem t_541 : Cond.selects RX6 yX6_fire yX6_fire ∈ jT := jm_3 2 (by decide +kernel) rfl
theorem vL_82 : jCv RL 82 yX6_fire cX6_fire 3 (some .int) 2 := ⟨t_539, t_540, t_541, t_60, t_542, ⟨by decide +kernel, by decide +kernel, by decide +kernel⟩, by decide⟩
theorem t_543 : Cond.methodLink RL 86 yX6_lit ∈ jT := jm_3 4 (by decide +kernel) rfl
theorem t_546 : Cond.code yX6_lit cX6_lit 2 (some .int) ∈ jT := jm_3 7 (rfl) rfl
theorem t_544 : Cond.instanceMethod yX6_lit ∈ jT := jm_3 5 (by decide +kernel) rfl
theorem t_545 : Cond.selects RX6 yX6_lit yX6_lit ∈ jT := jm_3 6 (by decide +kernel) rfl
theorem vL_86 : jCv RL 86 yX6_lit cX6_lit 2 (some .int) 1 := ⟨t_543, t_544, t_545, t_60, t_546, ⟨by decide +kernel, by decide +kernel, by decide +kernel⟩, by decide⟩
theorem t_547 : Cond.methodLink RL 90 yX6_empty ∈ jT := jm_3 8 (by decide +kernel) rfl
theorem t_550 : Cond.code yX6_empty cX6_empty 2 (some .int) ∈ jT := jm_3 11 (rfl) rfl
theorem t_548 : Cond.instanceMethod yX6_empty ∈ jT := jm_3 9 (by decide +kernel) rfl
theorem t_549 : Cond.selects RX6 yX6_empty yX6_empty ∈ jT := jm_3 10 (by decide +kernel) rfl
theorem vL_90 : jCv RL 90 yX6_empty cX6_empty 2 (some .int) 1 := ⟨t_547, t_548, t_549, t_60, t_550, ⟨by decide +kernel, by decide +kernel, by decide +kernel⟩, by decide⟩
theorem t_551 : Cond.methodLink RX6 204 yX2_firstEmpty ∈ jT := jm_3 12 (by decide +kernel) rfl
theorem t_554 : Cond.code yX2_firstEmpty cX2_firstEmpty 5 (some .int) ∈ jT := jm_3 15 (rfl) rfl
theorem t_552 : Cond.instanceMethod yX2_firstEmpty ∈ jT := jm_3 13 (by decide +kernel) rfl
theorem t_553 : Cond.selects RX2 yX2_firstEmpty yX2_firstEmpty ∈ jT := jm_3 14 (by decide +kernel) rfl
theorem vX6_204 : jCv RX6 204 yX2_firstEmpty cX2_firstEmpty 5 (some .int) 2 := ⟨t_551, t_552, t_553, t_65, t_554, ⟨by decide +kernel, by decide +kernel, by decide +kernel⟩, by decide⟩
theorem t_555 : Cond.methodLink RX2 33 yX3_firstWithoutBreath ∈ jT := jm_3 16 (by decide +kernel) rfl
theorem t_558 : Cond.code yX3_firstWithoutBreath cX3_firstWithoutBreath 2 (some .int) ∈ jT := jm_3 19 (rfl) rfl
theorem t_556 : Cond.instanceMethod yX3_firstWithoutBreath ∈ jT := jm_3 17 (by decide +kernel) rfl
theorem t_557 : Cond.selects RX3 yX3_firstWithoutBreath yX3_firstWithoutBreath ∈ jT := jm_3 18 (by decide +kernel) rfl
theorem vX2_33 : jCv RX2 33 yX3_firstWithoutBreath cX3_firstWithoutBreath 2 (some .int) 0 := ⟨t_555, t_556, t_557, t_63, t_558, ⟨by decide +kernel, by decide +kernel, by decide +kernel⟩, by decide⟩
theorem t_561 : Cond.methodLink RL 94 yX6_cold ∈ jT := jm_3 22 (by decide +kernel) rfl
theorem t_564 : Cond.code yX6_cold cX6_cold 2 (some .int) ∈ jT := jm_3 25 (rfl) rfl
theorem t_562 : Cond.instanceMethod yX6_cold ∈ jT := jm_3 23 (by decide +kernel) rfl
theorem t_563 : Cond.selects RX6 yX6_cold yX6_cold ∈ jT := jm_3 24 (by decide +kernel) rfl
theorem vL_94 : jCv RL 94 yX6_cold cX6_cold 2 (some .int) 1 := ⟨t_561, t_562, t_563, t_60, t_564, ⟨by decide +kernel, by decide +kernel, by decide +kernel⟩, by decide⟩
theorem t_565 : Cond.methodLink RX6 208 yX2_firstCold ∈ jT := jm_3 26 (by decide +kernel) rfl
theorem t_568 : Cond.code yX2_firstCold cX2_firstCold 4 (some .int) ∈ jT := jm_3 29 (rfl) rfl
theorem t_566 : Cond.instanceMethod yX2_firstCold ∈ jT := jm_3 27 (by decide +kernel) rfl
theorem t_567 : Cond.selects RX2 yX2_firstCold yX2_firstCold ∈ jT := jm_3 28 (by decide +kernel) rfl
theorem vX6_208 : jCv RX6 208 yX2_firstCold cX2_firstCold 4 (some .int) 2 := ⟨t_565, t_566, t_567, t_65, t_568, ⟨by decide +kernel, by decide +kernel, by decide +kernel⟩, by decide⟩
theorem t_569 : Cond.methodLink RX2 41 yX3_isLit ∈ jT := jm_3 30 (by decide +kernel) rfl
theorem vX2_41 : jCv RX2 41 yX3_isLit cX3_isLit 2 (some .boolean) 1 := ⟨t_569, t_453, t_454, t_63, t_455, ⟨by decide +kernel, by decide +kernel, by decide +kernel⟩, by decide⟩
theorem t_570 : Cond.methodLink RL 98 yX6_best ∈ jT := jm_3 31 (by decide +kernel) rfl
theorem t_573 : Cond.code yX6_best cX6_best 4 (some .int) ∈ jT := jm_3 34 (rfl) rfl
theorem t_571 : Cond.instanceMethod yX6_best ∈ jT := jm_3 32 (by decide +kernel) rfl
theorem t_572 : Cond.selects RX6 yX6_best yX6_best ∈ jT := jm_3 33 (by decide +kernel) rfl
theorem vL_98 : jCv RL 98 yX6_best cX6_best 4 (some .int) 3 := ⟨t_570, t_571, t_572, t_60, t_573, ⟨by decide +kernel, by decide +kernel, by decide +kernel⟩, by decide⟩
theorem t_574 : Cond.methodLink RX6 211 yX2_bestDay ∈ jT := jm_3 35 (by decide +kernel) rfl
theorem t_577 : Cond.code yX2_bestDay cX2_bestDay 9 (some .int) ∈ jT := jm_3 38 (rfl) rfl
theorem t_575 : Cond.instanceMethod yX2_bestDay ∈ jT := jm_3 36 (by decide +kernel) rfl
theorem t_576 : Cond.selects RX2 yX2_bestDay yX2_bestDay ∈ jT := jm_3 37 (by decide +kernel) rfl
theorem vX6_211 : jCv RX6 211 yX2_bestDay cX2_bestDay 9 (some .int) 4 := ⟨t_574, t_575, t_576, t_65, t_577, ⟨by decide +kernel, by decide +kernel, by decide +kernel⟩, by decide⟩
theorem t_578 : Cond.methodLink RX2 45 yX2_passWaiting ∈ jT := jm_3 39 (by decide +kernel) rfl
theorem t_581 : Cond.code yX2_passWaiting cX2_passWaiting 7 (none : Option Jvm.ClassFile.FieldType) ∈ jT := jm_3 42 (rfl) rfl
theorem t_580 : Cond.instanceMethod yX2_passWaiting ∈ jT := jm_3 41 (by decide +kernel) rfl
theorem t_19 : Cond.selects RX2 yX2_passWaiting yX2_passWaiting ∈ jT := jm_0 19 (by decide +kernel) rfl
theorem vX2_45 : jCv RX2 45 yX2_passWaiting cX2_passWaiting 7 (none : Option Jvm.ClassFile.FieldType) 5 := ⟨t_578, t_580, t_19, t_65, t_581, ⟨by decide +kernel, by decide +kernel, by decide +kernel⟩, by decide⟩
theorem t_582 : Cond.methodLink RL 102 yX6_draw ∈ jT := jm_3 43 (by decide +kernel) rfl
theorem t_585 : Cond.code yX6_draw cX6_draw 4 (some .int) ∈ jT := jm_3 46 (rfl) rfl
theorem t_583 : Cond.instanceMethod yX6_draw ∈ jT := jm_3 44 (by decide +kernel) rfl
theorem t_584 : Cond.selects RX6 yX6_draw yX6_draw ∈ jT := jm_3 45 (by decide +kernel) rfl
theorem vL_102 : jCv RL 102 yX6_draw cX6_draw 4 (some .int) 2 := ⟨t_582, t_583, t_584, t_60, t_585, ⟨by decide +kernel, by decide +kernel, by decide +kernel⟩, by decide⟩
theorem t_586 : Cond.methodLink RX6 215 yX2_fewestDrawn ∈ jT := jm_3 47 (by decide +kernel) rfl
theorem t_589 : Cond.code yX2_fewestDrawn cX2_fewestDrawn 5 (some .int) ∈ jT := jm_3 50 (rfl) rfl
theorem t_587 : Cond.instanceMethod yX2_fewestDrawn ∈ jT := jm_3 48 (by decide +kernel) rfl
theorem t_588 : Cond.selects RX2 yX2_fewestDrawn yX2_fewestDrawn ∈ jT := jm_3 49 (by decide +kernel) rfl
theorem vX6_215 : jCv RX6 215 yX2_fewestDrawn cX2_fewestDrawn 5 (some .int) 2 := ⟨t_586, t_587, t_588, t_65, t_589, ⟨by decide +kernel, by decide +kernel, by decide +kernel⟩, by decide⟩
theorem t_590 : Cond.methodLink RX2 59 yJ6_bitCount_0f7a4 ∈ jT := jm_3 51 (by decide +kernel) rfl
theorem t_592 : Cond.code yJ6_bitCount_0f7a4 cJ6_bitCount_0f7a4 1 (some .int) ∈ jT := jm_3 53 (rfl) rfl
theorem t_591 : Cond.static yJ6_bitCount_0f7a4 ∈ jT := jm_3 52 (by decide +kernel) rfl
theorem sX2_59 : jCs RX2 59 yJ6_bitCount_0f7a4 cJ6_bitCount_0f7a4 1 (some .int) 1 := ⟨t_590, t_591, t_70, t_592, ⟨by decide +kernel, by decide +kernel, by decide +kernel⟩, by decide⟩
theorem t_596 : Cond.methodLink RX2 65 yX2_lightsAll ∈ jT := jm_3 57 (by decide +kernel) rfl
theorem t_599 : Cond.code yX2_lightsAll cX2_lightsAll 5 (some .boolean) ∈ jT := jm_3 60 (rfl) rfl
theorem t_598 : Cond.instanceMethod yX2_lightsAll ∈ jT := jm_3 59 (by decide +kernel) rfl
theorem t_20 : Cond.selects RX2 yX2_lightsAll yX2_lightsAll ∈ jT := jm_0 20 (by decide +kernel) rfl
theorem vX2_65 : jCv RX2 65 yX2_lightsAll cX2_lightsAll 5 (some .boolean) 3 := ⟨t_596, t_598, t_20, t_65, t_599, ⟨by decide +kernel, by decide +kernel, by decide +kernel⟩, by decide⟩
theorem t_600 : Cond.methodLink RX2 109 yX3_isAllLit ∈ jT := jm_3 61 (by decide +kernel) rfl
theorem t_603 : Cond.code yX3_isAllLit cX3_isAllLit 1 (some .boolean) ∈ jT := jm_3 64 (rfl) rfl
theorem t_601 : Cond.instanceMethod yX3_isAllLit ∈ jT := jm_3 62 (by decide +kernel) rfl
theorem t_602 : Cond.selects RX3 yX3_isAllLit yX3_isAllLit ∈ jT := jm_3 63 (by decide +kernel) rfl
theorem vX2_109 : jCv RX2 109 yX3_isAllLit cX3_isAllLit 1 (some .boolean) 0 := ⟨t_600, t_601, t_602, t_63, t_603, ⟨by decide +kernel, by decide +kernel, by decide +kernel⟩, by decide⟩
theorem t_604 : Cond.methodLink RX3 56 yX3_litBits ∈ jT := jm_3 65 (by decide +kernel) rfl
theorem vX3_56 : jCv RX3 56 yX3_litBits cX3_litBits 3 (some .int) 0 := ⟨t_604, t_468, t_469, t_63, t_470, ⟨by decide +kernel, by decide +kernel, by decide +kernel⟩, by decide⟩
theorem t_606 : Cond.methodLink RX6 219 yJ6_bitCount_0f7a4 ∈ jT := jm_3 67 (by decide +kernel) rfl
theorem sX6_219 : jCs RX6 219 yJ6_bitCount_0f7a4 cJ6_bitCount_0f7a4 1 (some .int) 1 := ⟨t_606, t_591, t_70, t_592, ⟨by decide +kernel, by decide +kernel, by decide +kernel⟩, by decide⟩
theorem t_607 : Cond.methodLink RL 106 yX6_rests ∈ jT := jm_3 68 (by decide +kernel) rfl
theorem t_610 : Cond.code yX6_rests cX6_rests 5 (some .int) ∈ jT := jm_3 71 (rfl) rfl
theorem t_608 : Cond.instanceMethod yX6_rests ∈ jT := jm_3 69 (by decide +kernel) rfl
theorem t_609 : Cond.selects RX6 yX6_rests yX6_rests ∈ jT := jm_3 70 (by decide +kernel) rfl
theorem vL_106 : jCv RL 106 yX6_rests cX6_rests 5 (some .int) 4 := ⟨t_607, t_608, t_609, t_60, t_610, ⟨by decide +kernel, by decide +kernel, by decide +kernel⟩, by decide⟩
theorem t_611 : Cond.methodLink RX6 224 yX2_weighWaits ∈ jT := jm_3 72 (by decide +kernel) rfl
theorem t_614 : Cond.code yX2_weighWaits cX2_weighWaits 7 (none : Option Jvm.ClassFile.FieldType) ∈ jT := jm_3 75 (rfl) rfl
theorem t_612 : Cond.instanceMethod yX2_weighWaits ∈ jT := jm_3 73 (by decide +kernel) rfl
theorem t_613 : Cond.selects RX2 yX2_weighWaits yX2_weighWaits ∈ jT := jm_3 74 (by decide +kernel) rfl
theorem vX6_224 : jCv RX6 224 yX2_weighWaits cX2_weighWaits 7 (none : Option Jvm.ClassFile.FieldType) 4 := ⟨t_611, t_612, t_613, t_65, t_614, ⟨by decide +kernel, by decide +kernel, by decide +kernel⟩, by decide⟩
theorem t_615 : Cond.methodLink RX6 228 yX2_restingWaits ∈ jT := jm_3 76 (by decide +kernel) rfl
theorem t_618 : Cond.code yX2_restingWaits cX2_restingWaits 5 (some .int) ∈ jT := jm_3 79 (rfl) rfl
theorem t_616 : Cond.instanceMethod yX2_restingWaits ∈ jT := jm_3 77 (by decide +kernel) rfl
theorem t_617 : Cond.selects RX2 yX2_restingWaits yX2_restingWaits ∈ jT := jm_3 78 (by decide +kernel) rfl
theorem vX6_228 : jCv RX6 228 yX2_restingWaits cX2_restingWaits 5 (some .int) 1 := ⟨t_615, t_616, t_617, t_65, t_618, ⟨by decide +kernel, by decide +kernel, by decide +kernel⟩, by decide⟩
theorem t_619 : Cond.methodLink RX2 69 yX2_isRest ∈ jT := jm_3 80 (by decide +kernel) rfl
theorem t_622 : Cond.code yX2_isRest cX2_isRest 5 (some .boolean) ∈ jT := jm_3 83 (rfl) rfl
theorem t_621 : Cond.instanceMethod yX2_isRest ∈ jT := jm_3 82 (by decide +kernel) rfl
theorem t_21 : Cond.selects RX2 yX2_isRest yX2_isRest ∈ jT := jm_0 21 (by decide +kernel) rfl
theorem vX2_69 : jCv RX2 69 yX2_isRest cX2_isRest 5 (some .boolean) 2 := ⟨t_619, t_621, t_21, t_65, t_622, ⟨by decide +kernel, by decide +kernel, by decide +kernel⟩, by decide⟩
theorem t_623 : Cond.methodLink RL 111 yX6_fits ∈ jT := jm_3 84 (by decide +kernel) rfl
theorem t_626 : Cond.code yX6_fits cX6_fits 6 (some .int) ∈ jT := jm_3 87 (rfl) rfl
theorem t_624 : Cond.instanceMethod yX6_fits ∈ jT := jm_3 85 (by decide +kernel) rfl
theorem t_625 : Cond.selects RX6 yX6_fits yX6_fits ∈ jT := jm_3 86 (by decide +kernel) rfl
theorem vL_111 : jCv RL 111 yX6_fits cX6_fits 6 (some .int) 5 := ⟨t_623, t_624, t_625, t_60, t_626, ⟨by decide +kernel, by decide +kernel, by decide +kernel⟩, by decide⟩
theorem t_627 : Cond.methodLink RX6 231 yX2_fitting ∈ jT := jm_3 88 (by decide +kernel) rfl
theorem t_630 : Cond.code yX2_fitting cX2_fitting 11 (some .int) ∈ jT := jm_3 91 (rfl) rfl
theorem t_628 : Cond.instanceMethod yX2_fitting ∈ jT := jm_3 89 (by decide +kernel) rfl
theorem t_629 : Cond.selects RX2 yX2_fitting yX2_fitting ∈ jT := jm_3 90 (by decide +kernel) rfl
theorem vX6_231 : jCv RX6 231 yX2_fitting cX2_fitting 11 (some .int) 6 := ⟨t_627, t_628, t_629, t_65, t_630, ⟨by decide +kernel, by decide +kernel, by decide +kernel⟩, by decide⟩
theorem t_635 : Cond.methodLink RX2 79 yX2_suppose ∈ jT := jm_3 96 (by decide +kernel) rfl
theorem t_638 : Cond.code yX2_suppose cX2_suppose 4 (none : Option Jvm.ClassFile.FieldType) ∈ jT := jm_3 99 (rfl) rfl
theorem t_637 : Cond.instanceMethod yX2_suppose ∈ jT := jm_3 98 (by decide +kernel) rfl
theorem t_22 : Cond.selects RX2 yX2_suppose yX2_suppose ∈ jT := jm_0 22 (by decide +kernel) rfl
theorem vX2_79 : jCv RX2 79 yX2_suppose cX2_suppose 4 (none : Option Jvm.ClassFile.FieldType) 3 := ⟨t_635, t_637, t_22, t_65, t_638, ⟨by decide +kernel, by decide +kernel, by decide +kernel⟩, by decide⟩
theorem t_639 : Cond.methodLink RX2 83 yX2_isTold ∈ jT := jm_3 100 (by decide +kernel) rfl
theorem t_642 : Cond.code yX2_isTold cX2_isTold 6 (some .boolean) ∈ jT := jm_3 103 (rfl) rfl
theorem t_641 : Cond.instanceMethod yX2_isTold ∈ jT := jm_3 102 (by decide +kernel) rfl
theorem t_23 : Cond.selects RX2 yX2_isTold yX2_isTold ∈ jT := jm_0 23 (by decide +kernel) rfl
theorem vX2_83 : jCv RX2 83 yX2_isTold cX2_isTold 6 (some .boolean) 4 := ⟨t_639, t_641, t_23, t_65, t_642, ⟨by decide +kernel, by decide +kernel, by decide +kernel⟩, by decide⟩
theorem t_643 : Cond.methodLink RL 115 yX6_chance ∈ jT := jm_3 104 (by decide +kernel) rfl
theorem t_646 : Cond.code yX6_chance cX6_chance 8 (some .int) ∈ jT := jm_3 107 (rfl) rfl
theorem t_644 : Cond.instanceMethod yX6_chance ∈ jT := jm_3 105 (by decide +kernel) rfl
theorem t_645 : Cond.selects RX6 yX6_chance yX6_chance ∈ jT := jm_3 106 (by decide +kernel) rfl
theorem vL_115 : jCv RL 115 yX6_chance cX6_chance 8 (some .int) 4 := ⟨t_643, t_644, t_645, t_60, t_646, ⟨by decide +kernel, by decide +kernel, by decide +kernel⟩, by decide⟩
theorem t_647 : Cond.methodLink RX6 235 yX2_keptOf ∈ jT := jm_3 108 (by decide +kernel) rfl
theorem t_650 : Cond.code yX2_keptOf cX2_keptOf 8 (some .int) ∈ jT := jm_3 111 (rfl) rfl
theorem t_648 : Cond.instanceMethod yX2_keptOf ∈ jT := jm_3 109 (by decide +kernel) rfl
theorem t_649 : Cond.selects RX2 yX2_keptOf yX2_keptOf ∈ jT := jm_3 110 (by decide +kernel) rfl
theorem vX6_235 : jCv RX6 235 yX2_keptOf cX2_keptOf 8 (some .int) 4 := ⟨t_647, t_648, t_649, t_65, t_650, ⟨by decide +kernel, by decide +kernel, by decide +kernel⟩, by decide⟩
theorem t_651 : Cond.methodLink RX2 87 yX2_isKept ∈ jT := jm_3 112 (by decide +kernel) rfl
theorem t_654 : Cond.code yX2_isKept cX2_isKept 6 (some .boolean) ∈ jT := jm_3 115 (rfl) rfl
theorem t_653 : Cond.instanceMethod yX2_isKept ∈ jT := jm_3 114 (by decide +kernel) rfl
theorem t_24 : Cond.selects RX2 yX2_isKept yX2_isKept ∈ jT := jm_0 24 (by decide +kernel) rfl
theorem vX2_87 : jCv RX2 87 yX2_isKept cX2_isKept 6 (some .boolean) 4 := ⟨t_651, t_653, t_24, t_65, t_654, ⟨by decide +kernel, by decide +kernel, by decide +kernel⟩, by decide⟩
theorem t_658 : Cond.methodLink RX6 238 yX6_power ∈ jT := jm_3 119 (by decide +kernel) rfl
theorem t_657 : Cond.code yX6_power cX6_power 4 (some .int) ∈ jT := jm_3 118 (rfl) rfl
theorem t_656 : Cond.static yX6_power ∈ jT := jm_3 117 (by decide +kernel) rfl
theorem sX6_238 : jCs RX6 238 yX6_power cX6_power 4 (some .int) 2 := ⟨t_658, t_656, t_60, t_657, ⟨by decide +kernel, by decide +kernel, by decide +kernel⟩, by decide⟩
theorem t_659 : Cond.methodLink RX6 242 yX6_greatestShared ∈ jT := jm_3 120 (by decide +kernel) rfl
theorem t_661 : Cond.code yX6_greatestShared cX6_greatestShared 6 (some .int) ∈ jT := jm_3 122 (rfl) rfl
theorem t_660 : Cond.static yX6_greatestShared ∈ jT := jm_3 121 (by decide +kernel) rfl
theorem sX6_242 : jCs RX6 242 yX6_greatestShared cX6_greatestShared 6 (some .int) 2 := ⟨t_659, t_660, t_60, t_661, ⟨by decide +kernel, by decide +kernel, by decide +kernel⟩, by decide⟩
theorem t_662 : Cond.methodLink RL 119 yX6_drawn ∈ jT := jm_3 123 (by decide +kernel) rfl
theorem t_665 : Cond.code yX6_drawn cX6_drawn 5 (some .int) ∈ jT := jm_3 126 (rfl) rfl
theorem t_663 : Cond.instanceMethod yX6_drawn ∈ jT := jm_3 124 (by decide +kernel) rfl
theorem t_664 : Cond.selects RX6 yX6_drawn yX6_drawn ∈ jT := jm_3 125 (by decide +kernel) rfl
theorem vL_119 : jCv RL 119 yX6_drawn cX6_drawn 5 (some .int) 3 := ⟨t_662, t_663, t_664, t_60, t_665, ⟨by decide +kernel, by decide +kernel, by decide +kernel⟩, by decide⟩
theorem t_667 : Cond.methodLink RX6 246 yX2_behindSummer ∈ jT := jm_3 128 (by decide +kernel) rfl
theorem t_670 : Cond.code yX2_behindSummer cX2_behindSummer 8 (some (.object "BellowsWords$House")) ∈ jT := jm_3 131 (rfl) rfl
theorem t_668 : Cond.instanceMethod yX2_behindSummer ∈ jT := jm_3 129 (by decide +kernel) rfl
theorem t_669 : Cond.selects RX2 yX2_behindSummer yX2_behindSummer ∈ jT := jm_3 130 (by decide +kernel) rfl
theorem vX6_246 : jCv RX6 246 yX2_behindSummer cX2_behindSummer 8 (some (.object "BellowsWords$House")) 3 := ⟨t_667, t_668, t_669, t_65, t_670, ⟨by decide +kernel, by decide +kernel, by decide +kernel⟩, by decide⟩
theorem t_675 : Cond.methodLink RX6 250 yX3_fireInAll ∈ jT := jm_3 136 (by decide +kernel) rfl
theorem t_678 : Cond.code yX3_fireInAll cX3_fireInAll 3 (some .int) ∈ jT := jm_3 139 (rfl) rfl
theorem t_676 : Cond.instanceMethod yX3_fireInAll ∈ jT := jm_3 137 (by decide +kernel) rfl
theorem t_677 : Cond.selects RX3 yX3_fireInAll yX3_fireInAll ∈ jT := jm_3 138 (by decide +kernel) rfl
theorem vX6_250 : jCv RX6 250 yX3_fireInAll cX3_fireInAll 3 (some .int) 0 := ⟨t_675, t_676, t_677, t_63, t_678, ⟨by decide +kernel, by decide +kernel, by decide +kernel⟩, by decide⟩
theorem t_679 : Cond.methodLink RX6 253 yX3_breathInAll ∈ jT := jm_3 140 (by decide +kernel) rfl
theorem t_682 : Cond.code yX3_breathInAll cX3_breathInAll 3 (some .int) ∈ jT := jm_3 143 (rfl) rfl
theorem t_680 : Cond.instanceMethod yX3_breathInAll ∈ jT := jm_3 141 (by decide +kernel) rfl
theorem t_681 : Cond.selects RX3 yX3_breathInAll yX3_breathInAll ∈ jT := jm_3 142 (by decide +kernel) rfl
theorem vX6_253 : jCv RX6 253 yX3_breathInAll cX3_breathInAll 3 (some .int) 0 := ⟨t_679, t_680, t_681, t_63, t_682, ⟨by decide +kernel, by decide +kernel, by decide +kernel⟩, by decide⟩
theorem t_683 : Cond.methodLink RL 123 yX6_image ∈ jT := jm_3 144 (by decide +kernel) rfl
theorem t_686 : Cond.code yX6_image cX6_image 2 (some .int) ∈ jT := jm_3 147 (rfl) rfl
theorem t_684 : Cond.instanceMethod yX6_image ∈ jT := jm_3 145 (by decide +kernel) rfl
theorem t_685 : Cond.selects RX6 yX6_image yX6_image ∈ jT := jm_3 146 (by decide +kernel) rfl
theorem vL_123 : jCv RL 123 yX6_image cX6_image 2 (some .int) 1 := ⟨t_683, t_684, t_685, t_60, t_686, ⟨by decide +kernel, by decide +kernel, by decide +kernel⟩, by decide⟩
theorem t_687 : Cond.methodLink RL 127 yX6_restore ∈ jT := jm_3 148 (by decide +kernel) rfl
theorem t_690 : Cond.code yX6_restore cX6_restore 2 (some .int) ∈ jT := jm_3 151 (rfl) rfl
theorem t_688 : Cond.instanceMethod yX6_restore ∈ jT := jm_3 149 (by decide +kernel) rfl
theorem t_689 : Cond.selects RX6 yX6_restore yX6_restore ∈ jT := jm_3 150 (by decide +kernel) rfl
theorem vL_127 : jCv RL 127 yX6_restore cX6_restore 2 (some .int) 1 := ⟨t_687, t_688, t_689, t_60, t_690, ⟨by decide +kernel, by decide +kernel, by decide +kernel⟩, by decide⟩
theorem t_691 : Cond.methodLink RL 131 yX6_kind ∈ jT := jm_3 152 (by decide +kernel) rfl
theorem t_694 : Cond.code yX6_kind cX6_kind 2 (some .int) ∈ jT := jm_3 155 (rfl) rfl
theorem t_692 : Cond.instanceMethod yX6_kind ∈ jT := jm_3 153 (by decide +kernel) rfl
theorem t_693 : Cond.selects RX6 yX6_kind yX6_kind ∈ jT := jm_3 154 (by decide +kernel) rfl
theorem vL_131 : jCv RL 131 yX6_kind cX6_kind 2 (some .int) 1 := ⟨t_691, t_692, t_693, t_60, t_694, ⟨by decide +kernel, by decide +kernel, by decide +kernel⟩, by decide⟩
theorem t_695 : Cond.methodLink RL 135 yX6_as ∈ jT := jm_3 156 (by decide +kernel) rfl
theorem t_698 : Cond.code yX6_as cX6_as 3 (some .int) ∈ jT := jm_3 159 (rfl) rfl
theorem t_696 : Cond.instanceMethod yX6_as ∈ jT := jm_3 157 (by decide +kernel) rfl
theorem t_697 : Cond.selects RX6 yX6_as yX6_as ∈ jT := jm_3 158 (by decide +kernel) rfl
theorem vL_135 : jCv RL 135 yX6_as cX6_as 3 (some .int) 2 := ⟨t_695, t_696, t_697, t_60, t_698, ⟨by decide +kernel, by decide +kernel, by decide +kernel⟩, by decide⟩
theorem t_699 : Cond.methodLink RX6 259 yX6_isOneOf ∈ jT := jm_3 160 (by decide +kernel) rfl
theorem t_701 : Cond.code yX6_isOneOf cX6_isOneOf 4 (some .boolean) ∈ jT := jm_3 162 (rfl) rfl
theorem t_700 : Cond.static yX6_isOneOf ∈ jT := jm_3 161 (by decide +kernel) rfl
theorem sX6_259 : jCs RX6 259 yX6_isOneOf cX6_isOneOf 4 (some .boolean) 2 := ⟨t_699, t_700, t_60, t_701, ⟨by decide +kernel, by decide +kernel, by decide +kernel⟩, by decide⟩
theorem t_704 : Cond.methodLink RL 139 yX6_ask ∈ jT := jm_3 165 (by decide +kernel) rfl
theorem t_707 : Cond.code yX6_ask cX6_ask 3 (some .int) ∈ jT := jm_3 168 (rfl) rfl
theorem t_705 : Cond.instanceMethod yX6_ask ∈ jT := jm_3 166 (by decide +kernel) rfl
theorem t_706 : Cond.selects RX6 yX6_ask yX6_ask ∈ jT := jm_3 167 (by decide +kernel) rfl
theorem vL_139 : jCv RL 139 yX6_ask cX6_ask 3 (some .int) 2 := ⟨t_704, t_705, t_706, t_60, t_707, ⟨by decide +kernel, by decide +kernel, by decide +kernel⟩, by decide⟩
theorem t_708 : Cond.methodLink RX6 263 yX1_answer ∈ jT := jm_3 169 (by decide +kernel) rfl
theorem t_711 : Cond.code yX1_answer cX1_answer 5 (some .int) ∈ jT := jm_3 172 (rfl) rfl
theorem t_709 : Cond.instanceMethod yX1_answer ∈ jT := jm_3 170 (by decide +kernel) rfl
theorem t_710 : Cond.selects RX1 yX1_answer yX1_answer ∈ jT := jm_3 171 (by decide +kernel) rfl
theorem vX6_263 : jCv RX6 263 yX1_answer cX1_answer 5 (some .int) 3 := ⟨t_708, t_709, t_710, t_66, t_711, ⟨by decide +kernel, by decide +kernel, by decide +kernel⟩, by decide⟩
theorem t_716 : Cond.methodLink RX1 28 yX1_give ∈ jT := jm_3 177 (by decide +kernel) rfl
theorem t_719 : Cond.code yX1_give cX1_give 6 (some .int) ∈ jT := jm_3 180 (rfl) rfl
theorem t_718 : Cond.instanceMethod yX1_give ∈ jT := jm_3 179 (by decide +kernel) rfl
theorem t_25 : Cond.selects RX1 yX1_give yX1_give ∈ jT := jm_0 25 (by decide +kernel) rfl
theorem vX1_28 : jCv RX1 28 yX1_give cX1_give 6 (some .int) 4 := ⟨t_716, t_718, t_25, t_66, t_719, ⟨by decide +kernel, by decide +kernel, by decide +kernel⟩, by decide⟩
theorem t_720 : Cond.methodLink RX1 32 yX1_leave ∈ jT := jm_3 181 (by decide +kernel) rfl
theorem t_723 : Cond.code yX1_leave cX1_leave 2 (none : Option Jvm.ClassFile.FieldType) ∈ jT := jm_3 184 (rfl) rfl
theorem t_722 : Cond.instanceMethod yX1_leave ∈ jT := jm_3 183 (by decide +kernel) rfl
theorem t_26 : Cond.selects RX1 yX1_leave yX1_leave ∈ jT := jm_0 26 (by decide +kernel) rfl
theorem vX1_32 : jCv RX1 32 yX1_leave cX1_leave 2 (none : Option Jvm.ClassFile.FieldType) 1 := ⟨t_720, t_722, t_26, t_66, t_723, ⟨by decide +kernel, by decide +kernel, by decide +kernel⟩, by decide⟩
theorem t_724 : Cond.methodLink RL 143 yX6_trace ∈ jT := jm_3 185 (by decide +kernel) rfl
theorem t_727 : Cond.code yX6_trace cX6_trace 2 (some .int) ∈ jT := jm_3 188 (rfl) rfl
theorem t_725 : Cond.instanceMethod yX6_trace ∈ jT := jm_3 186 (by decide +kernel) rfl
theorem t_726 : Cond.selects RX6 yX6_trace yX6_trace ∈ jT := jm_3 187 (by decide +kernel) rfl
theorem vL_143 : jCv RL 143 yX6_trace cX6_trace 2 (some .int) 1 := ⟨t_724, t_725, t_726, t_60, t_727, ⟨by decide +kernel, by decide +kernel, by decide +kernel⟩, by decide⟩
theorem t_728 : Cond.methodLink RL 147 yX6_count ∈ jT := jm_3 189 (by decide +kernel) rfl
theorem t_731 : Cond.code yX6_count cX6_count 2 (some .int) ∈ jT := jm_3 192 (rfl) rfl
theorem t_729 : Cond.instanceMethod yX6_count ∈ jT := jm_3 190 (by decide +kernel) rfl
theorem t_730 : Cond.selects RX6 yX6_count yX6_count ∈ jT := jm_3 191 (by decide +kernel) rfl
theorem vL_147 : jCv RL 147 yX6_count cX6_count 2 (some .int) 1 := ⟨t_728, t_729, t_730, t_60, t_731, ⟨by decide +kernel, by decide +kernel, by decide +kernel⟩, by decide⟩
theorem t_732 : Cond.methodLink RX6 273 yX4_present ∈ jT := jm_3 193 (by decide +kernel) rfl
theorem t_735 : Cond.code yX4_present cX4_present 3 (some .int) ∈ jT := jm_3 196 (rfl) rfl
theorem t_733 : Cond.instanceMethod yX4_present ∈ jT := jm_3 194 (by decide +kernel) rfl
theorem t_734 : Cond.selects RX4 yX4_present yX4_present ∈ jT := jm_3 195 (by decide +kernel) rfl
theorem vX6_273 : jCv RX6 273 yX4_present cX4_present 3 (some .int) 0 := ⟨t_732, t_733, t_734, t_61, t_735, ⟨by decide +kernel, by decide +kernel, by decide +kernel⟩, by decide⟩
theorem t_736 : Cond.methodLink RX4 27 yX4_isMissing ∈ jT := jm_3 197 (by decide +kernel) rfl
theorem vX4_27 : jCv RX4 27 yX4_isMissing cX4_isMissing 2 (some .boolean) 1 := ⟨t_736, t_306, t_307, t_61, t_308, ⟨by decide +kernel, by decide +kernel, by decide +kernel⟩, by decide⟩
theorem t_737 : Cond.methodLink RL 151 yX6_status ∈ jT := jm_3 198 (by decide +kernel) rfl
theorem t_740 : Cond.code yX6_status cX6_status 1 (some .int) ∈ jT := jm_3 201 (rfl) rfl
theorem t_738 : Cond.instanceMethod yX6_status ∈ jT := jm_3 199 (by decide +kernel) rfl
theorem t_739 : Cond.selects RX6 yX6_status yX6_status ∈ jT := jm_3 200 (by decide +kernel) rfl
theorem vL_151 : jCv RL 151 yX6_status cX6_status 1 (some .int) 0 := ⟨t_737, t_738, t_739, t_60, t_740, ⟨by decide +kernel, by decide +kernel, by decide +kernel⟩, by decide⟩
theorem t_743 : Cond.methodLink RL 12 yX7_init ∈ jT := jm_3 204 (by decide +kernel) rfl
theorem t_745 : Cond.code yX7_init cX7_init 2 (none : Option Jvm.ClassFile.FieldType) ∈ jT := jm_3 206 (rfl) rfl
theorem t_744 : Cond.instanceMethod yX7_init ∈ jT := jm_3 205 (by decide +kernel) rfl
theorem iL_12 : jCi RL 12 yX7_init cX7_init 2 0 := ⟨t_743, t_744, t_67, t_745, rfl, ⟨by decide +kernel, by decide +kernel, by decide +kernel⟩, by decide⟩
theorem t_746 : Cond.methodLink RX7 1 Lib.objectInit ∈ jT := jm_3 207 (by decide +kernel) rfl
theorem oX7_1 : Cond.methodLink RX7 1 Lib.objectInit ∈ jT := t_746
theorem t_828 : Cond.methodLink RL 17 yX7_row ∈ jT := jm_4 49 (by decide +kernel) rfl
theorem t_831 : Cond.code yX7_row cX7_row 5 (some .int) ∈ jT := jm_4 52 (rfl) rfl
theorem t_829 : Cond.instanceMethod yX7_row ∈ jT := jm_4 50 (by decide +kernel) rfl
theorem t_830 : Cond.selects RX7 yX7_row yX7_row ∈ jT := jm_4 51 (by decide +kernel) rfl
theorem vL_17 : jCv RL 17 yX7_row cX7_row 5 (some .int) 3 := ⟨t_828, t_829, t_830, t_67, t_831, ⟨by decide +kernel, by decide +kernel, by decide +kernel⟩, by decide⟩
theorem t_832 : Cond.methodLink RX7 69 yX7_isRow ∈ jT := jm_4 53 (by decide +kernel) rfl
theorem t_834 : Cond.code yX7_isRow cX7_isRow 1 (some .boolean) ∈ jT := jm_4 55 (rfl) rfl
theorem t_833 : Cond.static yX7_isRow ∈ jT := jm_4 54 (by decide +kernel) rfl
theorem sX7_69 : jCs RX7 69 yX7_isRow cX7_isRow 1 (some .boolean) 1 := ⟨t_832, t_833, t_67, t_834, ⟨by decide +kernel, by decide +kernel, by decide +kernel⟩, by decide⟩
theorem t_835 : Cond.methodLink RX7 65 yX7_in ∈ jT := jm_4 56 (by decide +kernel) rfl
theorem t_837 : Cond.code yX7_in cX7_in 3 (some .boolean) ∈ jT := jm_4 58 (rfl) rfl
theorem t_836 : Cond.static yX7_in ∈ jT := jm_4 57 (by decide +kernel) rfl
theorem sX7_65 : jCs RX7 65 yX7_in cX7_in 3 (some .boolean) 3 := ⟨t_835, t_836, t_67, t_837, ⟨by decide +kernel, by decide +kernel, by decide +kernel⟩, by decide⟩
theorem t_839 : Cond.methodLink RX7 74 yX7_found ∈ jT := jm_4 60 (by decide +kernel) rfl
theorem t_842 : Cond.code yX7_found cX7_found 2 (some .int) ∈ jT := jm_4 63 (rfl) rfl
theorem t_841 : Cond.instanceMethod yX7_found ∈ jT := jm_4 62 (by decide +kernel) rfl
theorem t_27 : Cond.selects RX7 yX7_found yX7_found ∈ jT := jm_0 27 (by decide +kernel) rfl
theorem vX7_74 : jCv RX7 74 yX7_found cX7_found 2 (some .int) 1 := ⟨t_839, t_841, t_27, t_67, t_842, ⟨by decide +kernel, by decide +kernel, by decide +kernel⟩, by decide⟩
theorem t_844 : Cond.methodLink RX7 78 yX7_well ∈ jT := jm_4 65 (by decide +kernel) rfl
theorem t_847 : Cond.code yX7_well cX7_well 2 (some .int) ∈ jT := jm_4 68 (rfl) rfl
theorem t_846 : Cond.instanceMethod yX7_well ∈ jT := jm_4 67 (by decide +kernel) rfl
theorem t_28 : Cond.selects RX7 yX7_well yX7_well ∈ jT := jm_0 28 (by decide +kernel) rfl
theorem vX7_78 : jCv RX7 78 yX7_well cX7_well 2 (some .int) 1 := ⟨t_844, t_846, t_28, t_67, t_847, ⟨by decide +kernel, by decide +kernel, by decide +kernel⟩, by decide⟩
theorem t_848 : Cond.methodLink RL 21 yX7_set ∈ jT := jm_4 69 (by decide +kernel) rfl
theorem t_851 : Cond.code yX7_set cX7_set 4 (some .int) ∈ jT := jm_4 72 (rfl) rfl
theorem t_849 : Cond.instanceMethod yX7_set ∈ jT := jm_4 70 (by decide +kernel) rfl
theorem t_850 : Cond.selects RX7 yX7_set yX7_set ∈ jT := jm_4 71 (by decide +kernel) rfl
theorem vL_21 : jCv RL 21 yX7_set cX7_set 4 (some .int) 3 := ⟨t_848, t_849, t_850, t_67, t_851, ⟨by decide +kernel, by decide +kernel, by decide +kernel⟩, by decide⟩
theorem t_852 : Cond.methodLink RX7 81 yX7_isMissing ∈ jT := jm_4 73 (by decide +kernel) rfl
theorem t_855 : Cond.code yX7_isMissing cX7_isMissing 2 (some .boolean) ∈ jT := jm_4 76 (rfl) rfl
theorem t_854 : Cond.instanceMethod yX7_isMissing ∈ jT := jm_4 75 (by decide +kernel) rfl
theorem t_29 : Cond.selects RX7 yX7_isMissing yX7_isMissing ∈ jT := jm_0 29 (by decide +kernel) rfl
theorem vX7_81 : jCv RX7 81 yX7_isMissing cX7_isMissing 2 (some .boolean) 1 := ⟨t_852, t_854, t_29, t_67, t_855, ⟨by decide +kernel, by decide +kernel, by decide +kernel⟩, by decide⟩
theorem t_856 : Cond.methodLink RX7 84 yX7_cut ∈ jT := jm_4 77 (by decide +kernel) rfl
theorem t_858 : Cond.code yX7_cut cX7_cut 2 (some .int) ∈ jT := jm_4 79 (rfl) rfl
theorem t_857 : Cond.static yX7_cut ∈ jT := jm_4 78 (by decide +kernel) rfl
theorem sX7_84 : jCs RX7 84 yX7_cut cX7_cut 2 (some .int) 2 := ⟨t_856, t_857, t_67, t_858, ⟨by decide +kernel, by decide +kernel, by decide +kernel⟩, by decide⟩
theorem t_859 : Cond.methodLink RL 26 yX7_copy ∈ jT := jm_4 80 (by decide +kernel) rfl
theorem t_862 : Cond.code yX7_copy cX7_copy 7 (some .int) ∈ jT := jm_4 83 (rfl) rfl
theorem t_860 : Cond.instanceMethod yX7_copy ∈ jT := jm_4 81 (by decide +kernel) rfl
theorem t_861 : Cond.selects RX7 yX7_copy yX7_copy ∈ jT := jm_4 82 (by decide +kernel) rfl
theorem vL_26 : jCv RL 26 yX7_copy cX7_copy 7 (some .int) 5 := ⟨t_859, t_860, t_861, t_67, t_862, ⟨by decide +kernel, by decide +kernel, by decide +kernel⟩, by decide⟩
theorem t_863 : Cond.methodLink RX7 88 yX7_isPart ∈ jT := jm_4 84 (by decide +kernel) rfl
theorem t_866 : Cond.code yX7_isPart cX7_isPart 4 (some .boolean) ∈ jT := jm_4 87 (rfl) rfl
theorem t_865 : Cond.instanceMethod yX7_isPart ∈ jT := jm_4 86 (by decide +kernel) rfl
theorem t_30 : Cond.selects RX7 yX7_isPart yX7_isPart ∈ jT := jm_0 30 (by decide +kernel) rfl
theorem vX7_88 : jCv RX7 88 yX7_isPart cX7_isPart 4 (some .boolean) 3 := ⟨t_863, t_865, t_30, t_67, t_866, ⟨by decide +kernel, by decide +kernel, by decide +kernel⟩, by decide⟩
theorem t_867 : Cond.methodLink RL 31 yX7_drop ∈ jT := jm_4 88 (by decide +kernel) rfl
theorem t_870 : Cond.code yX7_drop cX7_drop 2 (some .int) ∈ jT := jm_4 91 (rfl) rfl
theorem t_868 : Cond.instanceMethod yX7_drop ∈ jT := jm_4 89 (by decide +kernel) rfl
theorem t_869 : Cond.selects RX7 yX7_drop yX7_drop ∈ jT := jm_4 90 (by decide +kernel) rfl
theorem vL_31 : jCv RL 31 yX7_drop cX7_drop 2 (some .int) 1 := ⟨t_867, t_868, t_869, t_67, t_870, ⟨by decide +kernel, by decide +kernel, by decide +kernel⟩, by decide⟩
theorem t_871 : Cond.methodLink RL 35 yX7_feed ∈ jT := jm_4 92 (by decide +kernel) rfl
theorem t_874 : Cond.code yX7_feed cX7_feed 2 (some .int) ∈ jT := jm_4 95 (rfl) rfl
theorem t_872 : Cond.instanceMethod yX7_feed ∈ jT := jm_4 93 (by decide +kernel) rfl
theorem t_873 : Cond.selects RX7 yX7_feed yX7_feed ∈ jT := jm_4 94 (by decide +kernel) rfl
theorem vL_35 : jCv RL 35 yX7_feed cX7_feed 2 (some .int) 1 := ⟨t_871, t_872, t_873, t_67, t_874, ⟨by decide +kernel, by decide +kernel, by decide +kernel⟩, by decide⟩
theorem t_876 : Cond.methodLink RL 40 yX7_house ∈ jT := jm_4 97 (by decide +kernel) rfl
theorem t_879 : Cond.code yX7_house cX7_house 2 (some .int) ∈ jT := jm_4 100 (rfl) rfl
theorem t_877 : Cond.instanceMethod yX7_house ∈ jT := jm_4 98 (by decide +kernel) rfl
theorem t_878 : Cond.selects RX7 yX7_house yX7_house ∈ jT := jm_4 99 (by decide +kernel) rfl
theorem vL_40 : jCv RL 40 yX7_house cX7_house 2 (some .int) 0 := ⟨t_876, t_877, t_878, t_67, t_879, ⟨by decide +kernel, by decide +kernel, by decide +kernel⟩, by decide⟩
theorem t_880 : Cond.methodLink RX7 120 yX7_advances ∈ jT := jm_4 101 (by decide +kernel) rfl
theorem t_883 : Cond.code yX7_advances cX7_advances 2 (none : Option Jvm.ClassFile.FieldType) ∈ jT := jm_4 104 (rfl) rfl
theorem t_882 : Cond.instanceMethod yX7_advances ∈ jT := jm_4 103 (by decide +kernel) rfl
theorem t_31 : Cond.selects RX7 yX7_advances yX7_advances ∈ jT := jm_0 31 (by decide +kernel) rfl
theorem vX7_120 : jCv RX7 120 yX7_advances cX7_advances 2 (none : Option Jvm.ClassFile.FieldType) 0 := ⟨t_880, t_882, t_31, t_67, t_883, ⟨by decide +kernel, by decide +kernel, by decide +kernel⟩, by decide⟩
theorem t_884 : Cond.methodLink RX7 101 yX7_byteAt ∈ jT := jm_4 105 (by decide +kernel) rfl
theorem t_887 : Cond.code yX7_byteAt cX7_byteAt 2 (some .int) ∈ jT := jm_4 108 (rfl) rfl
theorem t_886 : Cond.instanceMethod yX7_byteAt ∈ jT := jm_4 107 (by decide +kernel) rfl
theorem t_32 : Cond.selects RX7 yX7_byteAt yX7_byteAt ∈ jT := jm_0 32 (by decide +kernel) rfl
theorem vX7_101 : jCv RX7 101 yX7_byteAt cX7_byteAt 2 (some .int) 1 := ⟨t_884, t_886, t_32, t_67, t_887, ⟨by decide +kernel, by decide +kernel, by decide +kernel⟩, by decide⟩
theorem t_888 : Cond.methodLink RX7 123 yX7_takes ∈ jT := jm_4 109 (by decide +kernel) rfl
theorem t_891 : Cond.code yX7_takes cX7_takes 4 (some .int) ∈ jT := jm_4 112 (rfl) rfl
theorem t_890 : Cond.instanceMethod yX7_takes ∈ jT := jm_4 111 (by decide +kernel) rfl
theorem t_33 : Cond.selects RX7 yX7_takes yX7_takes ∈ jT := jm_0 33 (by decide +kernel) rfl
theorem vX7_123 : jCv RX7 123 yX7_takes cX7_takes 4 (some .int) 2 := ⟨t_888, t_890, t_33, t_67, t_891, ⟨by decide +kernel, by decide +kernel, by decide +kernel⟩, by decide⟩
theorem t_892 : Cond.methodLink RX7 113 yX7_isWell ∈ jT := jm_4 113 (by decide +kernel) rfl
theorem t_895 : Cond.code yX7_isWell cX7_isWell 1 (some .boolean) ∈ jT := jm_4 116 (rfl) rfl
theorem t_894 : Cond.instanceMethod yX7_isWell ∈ jT := jm_4 115 (by decide +kernel) rfl
theorem t_34 : Cond.selects RX7 yX7_isWell yX7_isWell ∈ jT := jm_0 34 (by decide +kernel) rfl
theorem vX7_113 : jCv RX7 113 yX7_isWell cX7_isWell 1 (some .boolean) 0 := ⟨t_892, t_894, t_34, t_67, t_895, ⟨by decide +kernel, by decide +kernel, by decide +kernel⟩, by decide⟩
theorem t_896 : Cond.methodLink RX7 127 yX7_figure ∈ jT := jm_4 117 (by decide +kernel) rfl
theorem t_899 : Cond.code yX7_figure cX7_figure 3 (some .int) ∈ jT := jm_4 120 (rfl) rfl
theorem t_898 : Cond.instanceMethod yX7_figure ∈ jT := jm_4 119 (by decide +kernel) rfl
theorem t_35 : Cond.selects RX7 yX7_figure yX7_figure ∈ jT := jm_0 35 (by decide +kernel) rfl
theorem vX7_127 : jCv RX7 127 yX7_figure cX7_figure 3 (some .int) 2 := ⟨t_896, t_898, t_35, t_67, t_899, ⟨by decide +kernel, by decide +kernel, by decide +kernel⟩, by decide⟩
theorem t_900 : Cond.methodLink RX7 133 yX7_follows ∈ jT := jm_4 121 (by decide +kernel) rfl
theorem t_903 : Cond.code yX7_follows cX7_follows 3 (some .int) ∈ jT := jm_4 124 (rfl) rfl
theorem t_902 : Cond.instanceMethod yX7_follows ∈ jT := jm_4 123 (by decide +kernel) rfl
theorem t_36 : Cond.selects RX7 yX7_follows yX7_follows ∈ jT := jm_0 36 (by decide +kernel) rfl
theorem vX7_133 : jCv RX7 133 yX7_follows cX7_follows 3 (some .int) 2 := ⟨t_900, t_902, t_36, t_67, t_903, ⟨by decide +kernel, by decide +kernel, by decide +kernel⟩, by decide⟩
theorem t_904 : Cond.methodLink RX7 136 yX7_readsHearth ∈ jT := jm_4 125 (by decide +kernel) rfl
theorem t_907 : Cond.code yX7_readsHearth cX7_readsHearth 3 (none : Option Jvm.ClassFile.FieldType) ∈ jT := jm_4 128 (rfl) rfl
theorem t_906 : Cond.instanceMethod yX7_readsHearth ∈ jT := jm_4 127 (by decide +kernel) rfl
theorem t_37 : Cond.selects RX7 yX7_readsHearth yX7_readsHearth ∈ jT := jm_0 37 (by decide +kernel) rfl
theorem vX7_136 : jCv RX7 136 yX7_readsHearth cX7_readsHearth 3 (none : Option Jvm.ClassFile.FieldType) 0 := ⟨t_904, t_906, t_37, t_67, t_907, ⟨by decide +kernel, by decide +kernel, by decide +kernel⟩, by decide⟩
theorem t_908 : Cond.methodLink RX7 139 yX7_must ∈ jT := jm_4 129 (by decide +kernel) rfl
theorem t_911 : Cond.code yX7_must cX7_must 2 (none : Option Jvm.ClassFile.FieldType) ∈ jT := jm_4 132 (rfl) rfl
theorem t_910 : Cond.instanceMethod yX7_must ∈ jT := jm_4 131 (by decide +kernel) rfl
theorem t_38 : Cond.selects RX7 yX7_must yX7_must ∈ jT := jm_0 38 (by decide +kernel) rfl
theorem vX7_139 : jCv RX7 139 yX7_must cX7_must 2 (none : Option Jvm.ClassFile.FieldType) 1 := ⟨t_908, t_910, t_38, t_67, t_911, ⟨by decide +kernel, by decide +kernel, by decide +kernel⟩, by decide⟩
theorem t_912 : Cond.methodLink RX7 130 yX7_kindOf ∈ jT := jm_4 133 (by decide +kernel) rfl
theorem t_914 : Cond.code yX7_kindOf cX7_kindOf 1 (some .int) ∈ jT := jm_4 135 (rfl) rfl
theorem t_913 : Cond.static yX7_kindOf ∈ jT := jm_4 134 (by decide +kernel) rfl
theorem sX7_130 : jCs RX7 130 yX7_kindOf cX7_kindOf 1 (some .int) 1 := ⟨t_912, t_913, t_67, t_914, ⟨by decide +kernel, by decide +kernel, by decide +kernel⟩, by decide⟩
theorem t_915 : Cond.methodLink RX7 143 yX7_readsPair ∈ jT := jm_4 136 (by decide +kernel) rfl
theorem t_918 : Cond.code yX7_readsPair cX7_readsPair 6 (none : Option Jvm.ClassFile.FieldType) ∈ jT := jm_4 139 (rfl) rfl
theorem t_917 : Cond.instanceMethod yX7_readsPair ∈ jT := jm_4 138 (by decide +kernel) rfl
theorem t_39 : Cond.selects RX7 yX7_readsPair yX7_readsPair ∈ jT := jm_0 39 (by decide +kernel) rfl
theorem vX7_143 : jCv RX7 143 yX7_readsPair cX7_readsPair 6 (none : Option Jvm.ClassFile.FieldType) 0 := ⟨t_915, t_917, t_39, t_67, t_918, ⟨by decide +kernel, by decide +kernel, by decide +kernel⟩, by decide⟩
theorem t_920 : Cond.methodLink RX7 147 yX7_copies ∈ jT := jm_4 141 (by decide +kernel) rfl
theorem t_922 : Cond.code yX7_copies cX7_copies 5 (none : Option Jvm.ClassFile.FieldType) ∈ jT := jm_4 143 (rfl) rfl
theorem t_921 : Cond.static yX7_copies ∈ jT := jm_4 142 (by decide +kernel) rfl
theorem sX7_147 : jCs RX7 147 yX7_copies cX7_copies 5 (none : Option Jvm.ClassFile.FieldType) 4 := ⟨t_920, t_921, t_67, t_922, ⟨by decide +kernel, by decide +kernel, by decide +kernel⟩, by decide⟩
theorem t_923 : Cond.methodLink RL 44 yX7_fault ∈ jT := jm_4 144 (by decide +kernel) rfl
theorem t_926 : Cond.code yX7_fault cX7_fault 1 (some .int) ∈ jT := jm_4 147 (rfl) rfl
theorem t_924 : Cond.instanceMethod yX7_fault ∈ jT := jm_4 145 (by decide +kernel) rfl
theorem t_925 : Cond.selects RX7 yX7_fault yX7_fault ∈ jT := jm_4 146 (by decide +kernel) rfl
theorem vL_44 : jCv RL 44 yX7_fault cX7_fault 1 (some .int) 0 := ⟨t_923, t_924, t_925, t_67, t_926, ⟨by decide +kernel, by decide +kernel, by decide +kernel⟩, by decide⟩
theorem t_927 : Cond.methodLink RL 48 yX7_days ∈ jT := jm_4 148 (by decide +kernel) rfl
theorem t_930 : Cond.code yX7_days cX7_days 3 (some .int) ∈ jT := jm_4 151 (rfl) rfl
theorem t_928 : Cond.instanceMethod yX7_days ∈ jT := jm_4 149 (by decide +kernel) rfl
theorem t_929 : Cond.selects RX7 yX7_days yX7_days ∈ jT := jm_4 150 (by decide +kernel) rfl
theorem vL_48 : jCv RL 48 yX7_days cX7_days 3 (some .int) 1 := ⟨t_927, t_928, t_929, t_67, t_930, ⟨by decide +kernel, by decide +kernel, by decide +kernel⟩, by decide⟩
theorem t_931 : Cond.methodLink RX7 180 yX7_isHouse ∈ jT := jm_4 152 (by decide +kernel) rfl
theorem t_934 : Cond.code yX7_isHouse cX7_isHouse 1 (some .boolean) ∈ jT := jm_4 155 (rfl) rfl
theorem t_933 : Cond.instanceMethod yX7_isHouse ∈ jT := jm_4 154 (by decide +kernel) rfl
theorem t_40 : Cond.selects RX7 yX7_isHouse yX7_isHouse ∈ jT := jm_0 40 (by decide +kernel) rfl
theorem vX7_180 : jCv RX7 180 yX7_isHouse cX7_isHouse 1 (some .boolean) 0 := ⟨t_931, t_933, t_40, t_67, t_934, ⟨by decide +kernel, by decide +kernel, by decide +kernel⟩, by decide⟩
theorem t_936 : Cond.methodLink RX7 184 yX7_notes ∈ jT := jm_4 157 (by decide +kernel) rfl
theorem t_939 : Cond.code yX7_notes cX7_notes 2 (none : Option Jvm.ClassFile.FieldType) ∈ jT := jm_4 160 (rfl) rfl
theorem t_938 : Cond.instanceMethod yX7_notes ∈ jT := jm_4 159 (by decide +kernel) rfl
theorem t_41 : Cond.selects RX7 yX7_notes yX7_notes ∈ jT := jm_0 41 (by decide +kernel) rfl
theorem vX7_184 : jCv RX7 184 yX7_notes cX7_notes 2 (none : Option Jvm.ClassFile.FieldType) 0 := ⟨t_936, t_938, t_41, t_67, t_939, ⟨by decide +kernel, by decide +kernel, by decide +kernel⟩, by decide⟩
theorem t_940 : Cond.methodLink RX7 187 yX7_passes ∈ jT := jm_4 161 (by decide +kernel) rfl
theorem t_943 : Cond.code yX7_passes cX7_passes 5 (none : Option Jvm.ClassFile.FieldType) ∈ jT := jm_4 164 (rfl) rfl
theorem t_942 : Cond.instanceMethod yX7_passes ∈ jT := jm_4 163 (by decide +kernel) rfl
theorem t_42 : Cond.selects RX7 yX7_passes yX7_passes ∈ jT := jm_0 42 (by decide +kernel) rfl
theorem vX7_187 : jCv RX7 187 yX7_passes cX7_passes 5 (none : Option Jvm.ClassFile.FieldType) 1 := ⟨t_940, t_942, t_42, t_67, t_943, ⟨by decide +kernel, by decide +kernel, by decide +kernel⟩, by decide⟩
theorem t_944 : Cond.methodLink RX7 173 yX7_keeps ∈ jT := jm_4 165 (by decide +kernel) rfl
theorem t_946 : Cond.code yX7_keeps cX7_keeps 6 (some .int) ∈ jT := jm_4 167 (rfl) rfl
theorem t_945 : Cond.static yX7_keeps ∈ jT := jm_4 166 (by decide +kernel) rfl
theorem sX7_173 : jCs RX7 173 yX7_keeps cX7_keeps 6 (some .int) 2 := ⟨t_944, t_945, t_67, t_946, ⟨by decide +kernel, by decide +kernel, by decide +kernel⟩, by decide⟩
theorem t_947 : Cond.methodLink RX7 161 yX7_isWarm ∈ jT := jm_4 168 (by decide +kernel) rfl
theorem t_949 : Cond.code yX7_isWarm cX7_isWarm 1 (some .boolean) ∈ jT := jm_4 170 (rfl) rfl
theorem t_948 : Cond.static yX7_isWarm ∈ jT := jm_4 169 (by decide +kernel) rfl
theorem sX7_161 : jCs RX7 161 yX7_isWarm cX7_isWarm 1 (some .boolean) 1 := ⟨t_947, t_948, t_67, t_949, ⟨by decide +kernel, by decide +kernel, by decide +kernel⟩, by decide⟩
theorem t_950 : Cond.methodLink RX7 154 yX7_has ∈ jT := jm_4 171 (by decide +kernel) rfl
theorem t_952 : Cond.code yX7_has cX7_has 2 (some .boolean) ∈ jT := jm_4 173 (rfl) rfl
theorem t_951 : Cond.static yX7_has ∈ jT := jm_4 172 (by decide +kernel) rfl
theorem sX7_154 : jCs RX7 154 yX7_has cX7_has 2 (some .boolean) 2 := ⟨t_950, t_951, t_67, t_952, ⟨by decide +kernel, by decide +kernel, by decide +kernel⟩, by decide⟩
theorem t_953 : Cond.methodLink RX7 165 yX7_blows ∈ jT := jm_4 174 (by decide +kernel) rfl
theorem t_955 : Cond.code yX7_blows cX7_blows 3 (some .int) ∈ jT := jm_4 176 (rfl) rfl
theorem t_954 : Cond.static yX7_blows ∈ jT := jm_4 175 (by decide +kernel) rfl
theorem sX7_165 : jCs RX7 165 yX7_blows cX7_blows 3 (some .int) 2 := ⟨t_953, t_954, t_67, t_955, ⟨by decide +kernel, by decide +kernel, by decide +kernel⟩, by decide⟩
theorem t_956 : Cond.methodLink RX7 158 yX7_lesser ∈ jT := jm_4 177 (by decide +kernel) rfl
theorem t_958 : Cond.code yX7_lesser cX7_lesser 2 (some .int) ∈ jT := jm_4 179 (rfl) rfl
theorem t_957 : Cond.static yX7_lesser ∈ jT := jm_4 178 (by decide +kernel) rfl
theorem sX7_158 : jCs RX7 158 yX7_lesser cX7_lesser 2 (some .int) 2 := ⟨t_956, t_957, t_67, t_958, ⟨by decide +kernel, by decide +kernel, by decide +kernel⟩, by decide⟩
theorem t_959 : Cond.methodLink RX7 176 yX7_burns ∈ jT := jm_4 180 (by decide +kernel) rfl
theorem t_962 : Cond.code yX7_burns cX7_burns 4 (none : Option Jvm.ClassFile.FieldType) ∈ jT := jm_4 183 (rfl) rfl
theorem t_961 : Cond.instanceMethod yX7_burns ∈ jT := jm_4 182 (by decide +kernel) rfl
theorem t_43 : Cond.selects RX7 yX7_burns yX7_burns ∈ jT := jm_0 43 (by decide +kernel) rfl
theorem vX7_176 : jCv RX7 176 yX7_burns cX7_burns 4 (none : Option Jvm.ClassFile.FieldType) 2 := ⟨t_959, t_961, t_43, t_67, t_962, ⟨by decide +kernel, by decide +kernel, by decide +kernel⟩, by decide⟩
theorem t_963 : Cond.methodLink RX7 169 yX7_isHot ∈ jT := jm_4 184 (by decide +kernel) rfl
theorem t_966 : Cond.code yX7_isHot cX7_isHot 3 (some .boolean) ∈ jT := jm_4 187 (rfl) rfl
theorem t_965 : Cond.instanceMethod yX7_isHot ∈ jT := jm_4 186 (by decide +kernel) rfl
theorem t_44 : Cond.selects RX7 yX7_isHot yX7_isHot ∈ jT := jm_0 44 (by decide +kernel) rfl
theorem vX7_169 : jCv RX7 169 yX7_isHot cX7_isHot 3 (some .boolean) 2 := ⟨t_963, t_965, t_44, t_67, t_966, ⟨by decide +kernel, by decide +kernel, by decide +kernel⟩, by decide⟩
theorem t_967 : Cond.methodLink RX7 191 yX7_litOf ∈ jT := jm_4 188 (by decide +kernel) rfl
theorem t_969 : Cond.code yX7_litOf cX7_litOf 3 (some .int) ∈ jT := jm_4 190 (rfl) rfl
theorem t_968 : Cond.static yX7_litOf ∈ jT := jm_4 189 (by decide +kernel) rfl
theorem sX7_191 : jCs RX7 191 yX7_litOf cX7_litOf 3 (some .int) 1 := ⟨t_967, t_968, t_67, t_969, ⟨by decide +kernel, by decide +kernel, by decide +kernel⟩, by decide⟩
theorem t_970 : Cond.methodLink RL 53 yX7_peg ∈ jT := jm_4 191 (by decide +kernel) rfl
theorem t_973 : Cond.code yX7_peg cX7_peg 3 (some .int) ∈ jT := jm_4 194 (rfl) rfl
theorem t_971 : Cond.instanceMethod yX7_peg ∈ jT := jm_4 192 (by decide +kernel) rfl
theorem t_972 : Cond.selects RX7 yX7_peg yX7_peg ∈ jT := jm_4 193 (by decide +kernel) rfl
theorem vL_53 : jCv RL 53 yX7_peg cX7_peg 3 (some .int) 2 := ⟨t_970, t_971, t_972, t_67, t_973, ⟨by decide +kernel, by decide +kernel, by decide +kernel⟩, by decide⟩
theorem t_974 : Cond.methodLink RX7 195 yX7_isPair ∈ jT := jm_4 195 (by decide +kernel) rfl
theorem t_977 : Cond.code yX7_isPair cX7_isPair 2 (some .boolean) ∈ jT := jm_4 198 (rfl) rfl
theorem t_976 : Cond.instanceMethod yX7_isPair ∈ jT := jm_4 197 (by decide +kernel) rfl
theorem t_45 : Cond.selects RX7 yX7_isPair yX7_isPair ∈ jT := jm_0 45 (by decide +kernel) rfl
theorem vX7_195 : jCv RX7 195 yX7_isPair cX7_isPair 2 (some .boolean) 1 := ⟨t_974, t_976, t_45, t_67, t_977, ⟨by decide +kernel, by decide +kernel, by decide +kernel⟩, by decide⟩
theorem t_978 : Cond.methodLink RX7 198 yX7_pegsOf ∈ jT := jm_4 199 (by decide +kernel) rfl
theorem t_980 : Cond.code yX7_pegsOf cX7_pegsOf 3 (some .int) ∈ jT := jm_4 201 (rfl) rfl
theorem t_979 : Cond.static yX7_pegsOf ∈ jT := jm_4 200 (by decide +kernel) rfl
theorem sX7_198 : jCs RX7 198 yX7_pegsOf cX7_pegsOf 3 (some .int) 1 := ⟨t_978, t_979, t_67, t_980, ⟨by decide +kernel, by decide +kernel, by decide +kernel⟩, by decide⟩
theorem t_981 : Cond.methodLink RL 57 yX7_move ∈ jT := jm_4 202 (by decide +kernel) rfl
theorem t_984 : Cond.code yX7_move cX7_move 4 (some .int) ∈ jT := jm_4 205 (rfl) rfl
theorem t_982 : Cond.instanceMethod yX7_move ∈ jT := jm_4 203 (by decide +kernel) rfl
theorem t_983 : Cond.selects RX7 yX7_move yX7_move ∈ jT := jm_4 204 (by decide +kernel) rfl
theorem vL_57 : jCv RL 57 yX7_move cX7_move 4 (some .int) 2 := ⟨t_981, t_982, t_983, t_67, t_984, ⟨by decide +kernel, by decide +kernel, by decide +kernel⟩, by decide⟩
theorem t_985 : Cond.methodLink RX7 201 yX7_isHearth ∈ jT := jm_4 206 (by decide +kernel) rfl
theorem t_988 : Cond.code yX7_isHearth cX7_isHearth 2 (some .boolean) ∈ jT := jm_4 209 (rfl) rfl
theorem t_987 : Cond.instanceMethod yX7_isHearth ∈ jT := jm_4 208 (by decide +kernel) rfl
theorem t_46 : Cond.selects RX7 yX7_isHearth yX7_isHearth ∈ jT := jm_0 46 (by decide +kernel) rfl
theorem vX7_201 : jCv RX7 201 yX7_isHearth cX7_isHearth 2 (some .boolean) 1 := ⟨t_985, t_987, t_46, t_67, t_988, ⟨by decide +kernel, by decide +kernel, by decide +kernel⟩, by decide⟩
theorem t_989 : Cond.methodLink RL 61 yX7_light ∈ jT := jm_4 210 (by decide +kernel) rfl
theorem t_992 : Cond.code yX7_light cX7_light 4 (some .int) ∈ jT := jm_4 213 (rfl) rfl
theorem t_990 : Cond.instanceMethod yX7_light ∈ jT := jm_4 211 (by decide +kernel) rfl
theorem t_991 : Cond.selects RX7 yX7_light yX7_light ∈ jT := jm_4 212 (by decide +kernel) rfl
theorem vL_61 : jCv RL 61 yX7_light cX7_light 4 (some .int) 2 := ⟨t_989, t_990, t_991, t_67, t_992, ⟨by decide +kernel, by decide +kernel, by decide +kernel⟩, by decide⟩
theorem t_993 : Cond.methodLink RL 65 yX7_weather ∈ jT := jm_4 214 (by decide +kernel) rfl
theorem t_996 : Cond.code yX7_weather cX7_weather 3 (some .int) ∈ jT := jm_4 217 (rfl) rfl
theorem t_994 : Cond.instanceMethod yX7_weather ∈ jT := jm_4 215 (by decide +kernel) rfl
theorem t_995 : Cond.selects RX7 yX7_weather yX7_weather ∈ jT := jm_4 216 (by decide +kernel) rfl
theorem vL_65 : jCv RL 65 yX7_weather cX7_weather 3 (some .int) 1 := ⟨t_993, t_994, t_995, t_67, t_996, ⟨by decide +kernel, by decide +kernel, by decide +kernel⟩, by decide⟩
theorem t_997 : Cond.methodLink RL 69 yX7_undo ∈ jT := jm_4 218 (by decide +kernel) rfl
theorem t_1000 : Cond.code yX7_undo cX7_undo 1 (some .int) ∈ jT := jm_4 221 (rfl) rfl
theorem t_998 : Cond.instanceMethod yX7_undo ∈ jT := jm_4 219 (by decide +kernel) rfl
theorem t_999 : Cond.selects RX7 yX7_undo yX7_undo ∈ jT := jm_4 220 (by decide +kernel) rfl
theorem vL_69 : jCv RL 69 yX7_undo cX7_undo 1 (some .int) 0 := ⟨t_997, t_998, t_999, t_67, t_1000, ⟨by decide +kernel, by decide +kernel, by decide +kernel⟩, by decide⟩
theorem t_1001 : Cond.methodLink RL 73 yX7_pair ∈ jT := jm_4 222 (by decide +kernel) rfl
theorem t_1004 : Cond.code yX7_pair cX7_pair 4 (some .int) ∈ jT := jm_4 225 (rfl) rfl
theorem t_1002 : Cond.instanceMethod yX7_pair ∈ jT := jm_4 223 (by decide +kernel) rfl
theorem t_1003 : Cond.selects RX7 yX7_pair yX7_pair ∈ jT := jm_4 224 (by decide +kernel) rfl
theorem vL_73 : jCv RL 73 yX7_pair cX7_pair 4 (some .int) 2 := ⟨t_1001, t_1002, t_1003, t_67, t_1004, ⟨by decide +kernel, by decide +kernel, by decide +kernel⟩, by decide⟩
theorem t_1005 : Cond.methodLink RL 77 yX7_hearth ∈ jT := jm_4 226 (by decide +kernel) rfl
theorem t_1008 : Cond.code yX7_hearth cX7_hearth 3 (some .int) ∈ jT := jm_4 229 (rfl) rfl
theorem t_1006 : Cond.instanceMethod yX7_hearth ∈ jT := jm_4 227 (by decide +kernel) rfl
theorem t_1007 : Cond.selects RX7 yX7_hearth yX7_hearth ∈ jT := jm_4 228 (by decide +kernel) rfl
theorem vL_77 : jCv RL 77 yX7_hearth cX7_hearth 3 (some .int) 2 := ⟨t_1005, t_1006, t_1007, t_67, t_1008, ⟨by decide +kernel, by decide +kernel, by decide +kernel⟩, by decide⟩
theorem t_1009 : Cond.methodLink RX7 204 yX7_pairsAt ∈ jT := jm_4 230 (by decide +kernel) rfl
theorem t_1012 : Cond.code yX7_pairsAt cX7_pairsAt 4 (some .int) ∈ jT := jm_4 233 (rfl) rfl
theorem t_1011 : Cond.instanceMethod yX7_pairsAt ∈ jT := jm_4 232 (by decide +kernel) rfl
theorem t_47 : Cond.selects RX7 yX7_pairsAt yX7_pairsAt ∈ jT := jm_0 47 (by decide +kernel) rfl
theorem vX7_204 : jCv RX7 204 yX7_pairsAt cX7_pairsAt 4 (some .int) 1 := ⟨t_1009, t_1011, t_47, t_67, t_1012, ⟨by decide +kernel, by decide +kernel, by decide +kernel⟩, by decide⟩
theorem t_1013 : Cond.methodLink RX7 207 yX7_blownInto ∈ jT := jm_4 234 (by decide +kernel) rfl
theorem t_1016 : Cond.code yX7_blownInto cX7_blownInto 4 (some .int) ∈ jT := jm_4 237 (rfl) rfl
theorem t_1015 : Cond.instanceMethod yX7_blownInto ∈ jT := jm_4 236 (by decide +kernel) rfl
theorem t_48 : Cond.selects RX7 yX7_blownInto yX7_blownInto ∈ jT := jm_0 48 (by decide +kernel) rfl
theorem vX7_207 : jCv RX7 207 yX7_blownInto cX7_blownInto 4 (some .int) 1 := ⟨t_1013, t_1015, t_48, t_67, t_1016, ⟨by decide +kernel, by decide +kernel, by decide +kernel⟩, by decide⟩
theorem t_1017 : Cond.methodLink RL 81 yX7_breath ∈ jT := jm_4 238 (by decide +kernel) rfl
theorem t_1020 : Cond.code yX7_breath cX7_breath 3 (some .int) ∈ jT := jm_5 1 (rfl) rfl
theorem t_1018 : Cond.instanceMethod yX7_breath ∈ jT := jm_4 239 (by decide +kernel) rfl
theorem t_1019 : Cond.selects RX7 yX7_breath yX7_breath ∈ jT := jm_5 0 (by decide +kernel) rfl
theorem vL_81 : jCv RL 81 yX7_breath cX7_breath 3 (some .int) 2 := ⟨t_1017, t_1018, t_1019, t_67, t_1020, ⟨by decide +kernel, by decide +kernel, by decide +kernel⟩, by decide⟩
theorem t_1021 : Cond.methodLink RX7 210 yX7_goesOn ∈ jT := jm_5 2 (by decide +kernel) rfl
theorem t_1024 : Cond.code yX7_goesOn cX7_goesOn 3 (none : Option Jvm.ClassFile.FieldType) ∈ jT := jm_5 5 (rfl) rfl
theorem t_1023 : Cond.instanceMethod yX7_goesOn ∈ jT := jm_5 4 (by decide +kernel) rfl
theorem t_49 : Cond.selects RX7 yX7_goesOn yX7_goesOn ∈ jT := jm_0 49 (by decide +kernel) rfl
theorem vX7_210 : jCv RX7 210 yX7_goesOn cX7_goesOn 3 (none : Option Jvm.ClassFile.FieldType) 1 := ⟨t_1021, t_1023, t_49, t_67, t_1024, ⟨by decide +kernel, by decide +kernel, by decide +kernel⟩, by decide⟩
theorem t_1025 : Cond.methodLink RL 85 yX7_fire ∈ jT := jm_5 6 (by decide +kernel) rfl
theorem t_1028 : Cond.code yX7_fire cX7_fire 3 (some .int) ∈ jT := jm_5 9 (rfl) rfl
theorem t_1026 : Cond.instanceMethod yX7_fire ∈ jT := jm_5 7 (by decide +kernel) rfl
theorem t_1027 : Cond.selects RX7 yX7_fire yX7_fire ∈ jT := jm_5 8 (by decide +kernel) rfl
theorem vL_85 : jCv RL 85 yX7_fire cX7_fire 3 (some .int) 2 := ⟨t_1025, t_1026, t_1027, t_67, t_1028, ⟨by decide +kernel, by decide +kernel, by decide +kernel⟩, by decide⟩
theorem t_1029 : Cond.methodLink RL 89 yX7_lit ∈ jT := jm_5 10 (by decide +kernel) rfl
theorem t_1032 : Cond.code yX7_lit cX7_lit 2 (some .int) ∈ jT := jm_5 13 (rfl) rfl
theorem t_1030 : Cond.instanceMethod yX7_lit ∈ jT := jm_5 11 (by decide +kernel) rfl
theorem t_1031 : Cond.selects RX7 yX7_lit yX7_lit ∈ jT := jm_5 12 (by decide +kernel) rfl
theorem vL_89 : jCv RL 89 yX7_lit cX7_lit 2 (some .int) 1 := ⟨t_1029, t_1030, t_1031, t_67, t_1032, ⟨by decide +kernel, by decide +kernel, by decide +kernel⟩, by decide⟩
theorem t_1033 : Cond.methodLink RL 93 yX7_empty ∈ jT := jm_5 14 (by decide +kernel) rfl
theorem t_1036 : Cond.code yX7_empty cX7_empty 4 (some .int) ∈ jT := jm_5 17 (rfl) rfl
theorem t_1034 : Cond.instanceMethod yX7_empty ∈ jT := jm_5 15 (by decide +kernel) rfl
theorem t_1035 : Cond.selects RX7 yX7_empty yX7_empty ∈ jT := jm_5 16 (by decide +kernel) rfl
theorem vL_93 : jCv RL 93 yX7_empty cX7_empty 4 (some .int) 1 := ⟨t_1033, t_1034, t_1035, t_67, t_1036, ⟨by decide +kernel, by decide +kernel, by decide +kernel⟩, by decide⟩
theorem t_1037 : Cond.methodLink RL 97 yX7_cold ∈ jT := jm_5 18 (by decide +kernel) rfl
theorem t_1040 : Cond.code yX7_cold cX7_cold 3 (some .int) ∈ jT := jm_5 21 (rfl) rfl
theorem t_1038 : Cond.instanceMethod yX7_cold ∈ jT := jm_5 19 (by decide +kernel) rfl
theorem t_1039 : Cond.selects RX7 yX7_cold yX7_cold ∈ jT := jm_5 20 (by decide +kernel) rfl
theorem vL_97 : jCv RL 97 yX7_cold cX7_cold 3 (some .int) 1 := ⟨t_1037, t_1038, t_1039, t_67, t_1040, ⟨by decide +kernel, by decide +kernel, by decide +kernel⟩, by decide⟩
theorem t_1041 : Cond.methodLink RL 101 yX7_best ∈ jT := jm_5 22 (by decide +kernel) rfl
theorem t_1044 : Cond.code yX7_best cX7_best 9 (some .int) ∈ jT := jm_5 25 (rfl) rfl
theorem t_1042 : Cond.instanceMethod yX7_best ∈ jT := jm_5 23 (by decide +kernel) rfl
theorem t_1043 : Cond.selects RX7 yX7_best yX7_best ∈ jT := jm_5 24 (by decide +kernel) rfl
theorem vL_101 : jCv RL 101 yX7_best cX7_best 9 (some .int) 3 := ⟨t_1041, t_1042, t_1043, t_67, t_1044, ⟨by decide +kernel, by decide +kernel, by decide +kernel⟩, by decide⟩
theorem t_1045 : Cond.methodLink RX7 214 yX7_isNear ∈ jT := jm_5 26 (by decide +kernel) rfl
theorem t_1047 : Cond.code yX7_isNear cX7_isNear 1 (some .boolean) ∈ jT := jm_5 28 (rfl) rfl
theorem t_1046 : Cond.static yX7_isNear ∈ jT := jm_5 27 (by decide +kernel) rfl
theorem sX7_214 : jCs RX7 214 yX7_isNear cX7_isNear 1 (some .boolean) 1 := ⟨t_1045, t_1046, t_67, t_1047, ⟨by decide +kernel, by decide +kernel, by decide +kernel⟩, by decide⟩
theorem t_1048 : Cond.methodLink RL 105 yX7_draw ∈ jT := jm_5 29 (by decide +kernel) rfl
theorem t_1051 : Cond.code yX7_draw cX7_draw 7 (some .int) ∈ jT := jm_5 32 (rfl) rfl
theorem t_1049 : Cond.instanceMethod yX7_draw ∈ jT := jm_5 30 (by decide +kernel) rfl
theorem t_1050 : Cond.selects RX7 yX7_draw yX7_draw ∈ jT := jm_5 31 (by decide +kernel) rfl
theorem vL_105 : jCv RL 105 yX7_draw cX7_draw 7 (some .int) 2 := ⟨t_1048, t_1049, t_1050, t_67, t_1051, ⟨by decide +kernel, by decide +kernel, by decide +kernel⟩, by decide⟩
theorem t_1052 : Cond.methodLink RX7 217 yX7_bits ∈ jT := jm_5 33 (by decide +kernel) rfl
theorem t_1054 : Cond.code yX7_bits cX7_bits 3 (some .int) ∈ jT := jm_5 35 (rfl) rfl
theorem t_1053 : Cond.static yX7_bits ∈ jT := jm_5 34 (by decide +kernel) rfl
theorem sX7_217 : jCs RX7 217 yX7_bits cX7_bits 3 (some .int) 1 := ⟨t_1052, t_1053, t_67, t_1054, ⟨by decide +kernel, by decide +kernel, by decide +kernel⟩, by decide⟩
theorem t_1055 : Cond.methodLink RL 110 yX7_rests ∈ jT := jm_5 36 (by decide +kernel) rfl
theorem t_1058 : Cond.code yX7_rests cX7_rests 7 (some .int) ∈ jT := jm_5 39 (rfl) rfl
theorem t_1056 : Cond.instanceMethod yX7_rests ∈ jT := jm_5 37 (by decide +kernel) rfl
theorem t_1057 : Cond.selects RX7 yX7_rests yX7_rests ∈ jT := jm_5 38 (by decide +kernel) rfl
theorem vL_110 : jCv RL 110 yX7_rests cX7_rests 7 (some .int) 4 := ⟨t_1055, t_1056, t_1057, t_67, t_1058, ⟨by decide +kernel, by decide +kernel, by decide +kernel⟩, by decide⟩
theorem t_1059 : Cond.methodLink RX7 220 yX7_waits ∈ jT := jm_5 40 (by decide +kernel) rfl
theorem t_1062 : Cond.code yX7_waits cX7_waits 7 (none : Option Jvm.ClassFile.FieldType) ∈ jT := jm_5 43 (rfl) rfl
theorem t_1061 : Cond.instanceMethod yX7_waits ∈ jT := jm_5 42 (by decide +kernel) rfl
theorem t_50 : Cond.selects RX7 yX7_waits yX7_waits ∈ jT := jm_0 50 (by decide +kernel) rfl
theorem vX7_220 : jCv RX7 220 yX7_waits cX7_waits 7 (none : Option Jvm.ClassFile.FieldType) 5 := ⟨t_1059, t_1061, t_50, t_67, t_1062, ⟨by decide +kernel, by decide +kernel, by decide +kernel⟩, by decide⟩
theorem t_1063 : Cond.methodLink RX7 224 yX7_isRest ∈ jT := jm_5 44 (by decide +kernel) rfl
theorem t_1066 : Cond.code yX7_isRest cX7_isRest 5 (some .boolean) ∈ jT := jm_5 47 (rfl) rfl
theorem t_1065 : Cond.instanceMethod yX7_isRest ∈ jT := jm_5 46 (by decide +kernel) rfl
theorem t_51 : Cond.selects RX7 yX7_isRest yX7_isRest ∈ jT := jm_0 51 (by decide +kernel) rfl
theorem vX7_224 : jCv RX7 224 yX7_isRest cX7_isRest 5 (some .boolean) 2 := ⟨t_1063, t_1065, t_51, t_67, t_1066, ⟨by decide +kernel, by decide +kernel, by decide +kernel⟩, by decide⟩
theorem t_1067 : Cond.methodLink RL 114 yX7_fits ∈ jT := jm_5 48 (by decide +kernel) rfl
theorem t_1070 : Cond.code yX7_fits cX7_fits 13 (some .int) ∈ jT := jm_5 51 (rfl) rfl
theorem t_1068 : Cond.instanceMethod yX7_fits ∈ jT := jm_5 49 (by decide +kernel) rfl
theorem t_1069 : Cond.selects RX7 yX7_fits yX7_fits ∈ jT := jm_5 50 (by decide +kernel) rfl
theorem vL_114 : jCv RL 114 yX7_fits cX7_fits 13 (some .int) 5 := ⟨t_1067, t_1068, t_1069, t_67, t_1070, ⟨by decide +kernel, by decide +kernel, by decide +kernel⟩, by decide⟩
theorem t_1071 : Cond.methodLink RX7 227 yX7_keepsSo ∈ jT := jm_5 52 (by decide +kernel) rfl
theorem t_1074 : Cond.code yX7_keepsSo cX7_keepsSo 8 (some .boolean) ∈ jT := jm_5 55 (rfl) rfl
theorem t_1073 : Cond.instanceMethod yX7_keepsSo ∈ jT := jm_5 54 (by decide +kernel) rfl
theorem t_52 : Cond.selects RX7 yX7_keepsSo yX7_keepsSo ∈ jT := jm_0 52 (by decide +kernel) rfl
theorem vX7_227 : jCv RX7 227 yX7_keepsSo cX7_keepsSo 8 (some .boolean) 5 := ⟨t_1071, t_1073, t_52, t_67, t_1074, ⟨by decide +kernel, by decide +kernel, by decide +kernel⟩, by decide⟩
theorem t_1075 : Cond.methodLink RL 118 yX7_chance ∈ jT := jm_5 56 (by decide +kernel) rfl
theorem t_1078 : Cond.code yX7_chance cX7_chance 10 (some .int) ∈ jT := jm_5 59 (rfl) rfl
theorem t_1076 : Cond.instanceMethod yX7_chance ∈ jT := jm_5 57 (by decide +kernel) rfl
theorem t_1077 : Cond.selects RX7 yX7_chance yX7_chance ∈ jT := jm_5 58 (by decide +kernel) rfl
theorem vL_118 : jCv RL 118 yX7_chance cX7_chance 10 (some .int) 4 := ⟨t_1075, t_1076, t_1077, t_67, t_1078, ⟨by decide +kernel, by decide +kernel, by decide +kernel⟩, by decide⟩
theorem t_1079 : Cond.methodLink RL 122 yX7_drawn ∈ jT := jm_5 60 (by decide +kernel) rfl
theorem t_1082 : Cond.code yX7_drawn cX7_drawn 8 (some .int) ∈ jT := jm_5 63 (rfl) rfl
theorem t_1080 : Cond.instanceMethod yX7_drawn ∈ jT := jm_5 61 (by decide +kernel) rfl
theorem t_1081 : Cond.selects RX7 yX7_drawn yX7_drawn ∈ jT := jm_5 62 (by decide +kernel) rfl
theorem vL_122 : jCv RL 122 yX7_drawn cX7_drawn 8 (some .int) 3 := ⟨t_1079, t_1080, t_1081, t_67, t_1082, ⟨by decide +kernel, by decide +kernel, by decide +kernel⟩, by decide⟩
theorem t_1088 : Cond.methodLink RL 126 yX7_image ∈ jT := jm_5 69 (by decide +kernel) rfl
theorem t_1091 : Cond.code yX7_image cX7_image 2 (some .int) ∈ jT := jm_5 72 (rfl) rfl
theorem t_1089 : Cond.instanceMethod yX7_image ∈ jT := jm_5 70 (by decide +kernel) rfl
theorem t_1090 : Cond.selects RX7 yX7_image yX7_image ∈ jT := jm_5 71 (by decide +kernel) rfl
theorem vL_126 : jCv RL 126 yX7_image cX7_image 2 (some .int) 1 := ⟨t_1088, t_1089, t_1090, t_67, t_1091, ⟨by decide +kernel, by decide +kernel, by decide +kernel⟩, by decide⟩
theorem t_1092 : Cond.methodLink RL 130 yX7_restore ∈ jT := jm_5 73 (by decide +kernel) rfl
theorem t_1095 : Cond.code yX7_restore cX7_restore 2 (some .int) ∈ jT := jm_5 76 (rfl) rfl
theorem t_1093 : Cond.instanceMethod yX7_restore ∈ jT := jm_5 74 (by decide +kernel) rfl
theorem t_1094 : Cond.selects RX7 yX7_restore yX7_restore ∈ jT := jm_5 75 (by decide +kernel) rfl
theorem vL_130 : jCv RL 130 yX7_restore cX7_restore 2 (some .int) 1 := ⟨t_1092, t_1093, t_1094, t_67, t_1095, ⟨by decide +kernel, by decide +kernel, by decide +kernel⟩, by decide⟩
theorem t_1096 : Cond.methodLink RL 134 yX7_kind ∈ jT := jm_5 77 (by decide +kernel) rfl
theorem t_1099 : Cond.code yX7_kind cX7_kind 2 (some .int) ∈ jT := jm_5 80 (rfl) rfl
theorem t_1097 : Cond.instanceMethod yX7_kind ∈ jT := jm_5 78 (by decide +kernel) rfl
theorem t_1098 : Cond.selects RX7 yX7_kind yX7_kind ∈ jT := jm_5 79 (by decide +kernel) rfl
theorem vL_134 : jCv RL 134 yX7_kind cX7_kind 2 (some .int) 1 := ⟨t_1096, t_1097, t_1098, t_67, t_1099, ⟨by decide +kernel, by decide +kernel, by decide +kernel⟩, by decide⟩
theorem t_1100 : Cond.methodLink RX7 240 yX7_kindIn ∈ jT := jm_5 81 (by decide +kernel) rfl
theorem t_1103 : Cond.code yX7_kindIn cX7_kindIn 2 (some .int) ∈ jT := jm_5 84 (rfl) rfl
theorem t_1102 : Cond.instanceMethod yX7_kindIn ∈ jT := jm_5 83 (by decide +kernel) rfl
theorem t_53 : Cond.selects RX7 yX7_kindIn yX7_kindIn ∈ jT := jm_0 53 (by decide +kernel) rfl
theorem vX7_240 : jCv RX7 240 yX7_kindIn cX7_kindIn 2 (some .int) 1 := ⟨t_1100, t_1102, t_53, t_67, t_1103, ⟨by decide +kernel, by decide +kernel, by decide +kernel⟩, by decide⟩
theorem t_1104 : Cond.methodLink RL 138 yX7_as ∈ jT := jm_5 85 (by decide +kernel) rfl
theorem t_1107 : Cond.code yX7_as cX7_as 5 (some .int) ∈ jT := jm_5 88 (rfl) rfl
theorem t_1105 : Cond.instanceMethod yX7_as ∈ jT := jm_5 86 (by decide +kernel) rfl
theorem t_1106 : Cond.selects RX7 yX7_as yX7_as ∈ jT := jm_5 87 (by decide +kernel) rfl
theorem vL_138 : jCv RL 138 yX7_as cX7_as 5 (some .int) 2 := ⟨t_1104, t_1105, t_1106, t_67, t_1107, ⟨by decide +kernel, by decide +kernel, by decide +kernel⟩, by decide⟩
theorem t_1108 : Cond.methodLink RL 142 yX7_ask ∈ jT := jm_5 89 (by decide +kernel) rfl
theorem t_1111 : Cond.code yX7_ask cX7_ask 4 (some .int) ∈ jT := jm_5 92 (rfl) rfl
theorem t_1109 : Cond.instanceMethod yX7_ask ∈ jT := jm_5 90 (by decide +kernel) rfl
theorem t_1110 : Cond.selects RX7 yX7_ask yX7_ask ∈ jT := jm_5 91 (by decide +kernel) rfl
theorem vL_142 : jCv RL 142 yX7_ask cX7_ask 4 (some .int) 2 := ⟨t_1108, t_1109, t_1110, t_67, t_1111, ⟨by decide +kernel, by decide +kernel, by decide +kernel⟩, by decide⟩
theorem t_1112 : Cond.methodLink RX7 252 yX7_tinSize ∈ jT := jm_5 93 (by decide +kernel) rfl
theorem t_1115 : Cond.code yX7_tinSize cX7_tinSize 4 (some .int) ∈ jT := jm_5 96 (rfl) rfl
theorem t_1114 : Cond.instanceMethod yX7_tinSize ∈ jT := jm_5 95 (by decide +kernel) rfl
theorem t_54 : Cond.selects RX7 yX7_tinSize yX7_tinSize ∈ jT := jm_0 54 (by decide +kernel) rfl
theorem vX7_252 : jCv RX7 252 yX7_tinSize cX7_tinSize 4 (some .int) 1 := ⟨t_1112, t_1114, t_54, t_67, t_1115, ⟨by decide +kernel, by decide +kernel, by decide +kernel⟩, by decide⟩
theorem t_1116 : Cond.methodLink RX7 246 yX7_begins ∈ jT := jm_5 97 (by decide +kernel) rfl
theorem t_1119 : Cond.code yX7_begins cX7_begins 2 (none : Option Jvm.ClassFile.FieldType) ∈ jT := jm_5 100 (rfl) rfl
theorem t_1118 : Cond.instanceMethod yX7_begins ∈ jT := jm_5 99 (by decide +kernel) rfl
theorem t_55 : Cond.selects RX7 yX7_begins yX7_begins ∈ jT := jm_0 55 (by decide +kernel) rfl
theorem vX7_246 : jCv RX7 246 yX7_begins cX7_begins 2 (none : Option Jvm.ClassFile.FieldType) 1 := ⟨t_1116, t_1118, t_55, t_67, t_1119, ⟨by decide +kernel, by decide +kernel, by decide +kernel⟩, by decide⟩
theorem t_1120 : Cond.methodLink RX7 255 yX7_leatherSize ∈ jT := jm_5 101 (by decide +kernel) rfl
theorem t_1123 : Cond.code yX7_leatherSize cX7_leatherSize 4 (some .int) ∈ jT := jm_5 104 (rfl) rfl
theorem t_1122 : Cond.instanceMethod yX7_leatherSize ∈ jT := jm_5 103 (by decide +kernel) rfl
theorem t_56 : Cond.selects RX7 yX7_leatherSize yX7_leatherSize ∈ jT := jm_0 56 (by decide +kernel) rfl
theorem vX7_255 : jCv RX7 255 yX7_leatherSize cX7_leatherSize 4 (some .int) 1 := ⟨t_1120, t_1122, t_56, t_67, t_1123, ⟨by decide +kernel, by decide +kernel, by decide +kernel⟩, by decide⟩
theorem t_1124 : Cond.methodLink RX7 249 yX7_leatherMark ∈ jT := jm_5 105 (by decide +kernel) rfl
theorem t_1127 : Cond.code yX7_leatherMark cX7_leatherMark 4 (some .int) ∈ jT := jm_5 108 (rfl) rfl
theorem t_1126 : Cond.instanceMethod yX7_leatherMark ∈ jT := jm_5 107 (by decide +kernel) rfl
theorem t_57 : Cond.selects RX7 yX7_leatherMark yX7_leatherMark ∈ jT := jm_0 57 (by decide +kernel) rfl
theorem vX7_249 : jCv RX7 249 yX7_leatherMark cX7_leatherMark 4 (some .int) 1 := ⟨t_1124, t_1126, t_57, t_67, t_1127, ⟨by decide +kernel, by decide +kernel, by decide +kernel⟩, by decide⟩
theorem t_1128 : Cond.methodLink RX7 258 yX7_tinMark ∈ jT := jm_5 109 (by decide +kernel) rfl
theorem t_1131 : Cond.code yX7_tinMark cX7_tinMark 2 (some .int) ∈ jT := jm_5 112 (rfl) rfl
theorem t_1130 : Cond.instanceMethod yX7_tinMark ∈ jT := jm_5 111 (by decide +kernel) rfl
theorem t_58 : Cond.selects RX7 yX7_tinMark yX7_tinMark ∈ jT := jm_0 58 (by decide +kernel) rfl
theorem vX7_258 : jCv RX7 258 yX7_tinMark cX7_tinMark 2 (some .int) 1 := ⟨t_1128, t_1130, t_58, t_67, t_1131, ⟨by decide +kernel, by decide +kernel, by decide +kernel⟩, by decide⟩
theorem t_1132 : Cond.methodLink RL 146 yX7_trace ∈ jT := jm_5 113 (by decide +kernel) rfl
theorem t_1135 : Cond.code yX7_trace cX7_trace 2 (some .int) ∈ jT := jm_5 116 (rfl) rfl
theorem t_1133 : Cond.instanceMethod yX7_trace ∈ jT := jm_5 114 (by decide +kernel) rfl
theorem t_1134 : Cond.selects RX7 yX7_trace yX7_trace ∈ jT := jm_5 115 (by decide +kernel) rfl
theorem vL_146 : jCv RL 146 yX7_trace cX7_trace 2 (some .int) 1 := ⟨t_1132, t_1133, t_1134, t_67, t_1135, ⟨by decide +kernel, by decide +kernel, by decide +kernel⟩, by decide⟩
theorem t_1136 : Cond.methodLink RL 150 yX7_count ∈ jT := jm_5 117 (by decide +kernel) rfl
theorem t_1139 : Cond.code yX7_count cX7_count 4 (some .int) ∈ jT := jm_5 120 (rfl) rfl
theorem t_1137 : Cond.instanceMethod yX7_count ∈ jT := jm_5 118 (by decide +kernel) rfl
theorem t_1138 : Cond.selects RX7 yX7_count yX7_count ∈ jT := jm_5 119 (by decide +kernel) rfl
theorem vL_150 : jCv RL 150 yX7_count cX7_count 4 (some .int) 1 := ⟨t_1136, t_1137, t_1138, t_67, t_1139, ⟨by decide +kernel, by decide +kernel, by decide +kernel⟩, by decide⟩
theorem t_1140 : Cond.methodLink RL 154 yX7_status ∈ jT := jm_5 121 (by decide +kernel) rfl
theorem t_1143 : Cond.code yX7_status cX7_status 1 (some .int) ∈ jT := jm_5 124 (rfl) rfl
theorem t_1141 : Cond.instanceMethod yX7_status ∈ jT := jm_5 122 (by decide +kernel) rfl
theorem t_1142 : Cond.selects RX7 yX7_status yX7_status ∈ jT := jm_5 123 (by decide +kernel) rfl
theorem vL_154 : jCv RL 154 yX7_status cX7_status 1 (some .int) 0 := ⟨t_1140, t_1141, t_1142, t_67, t_1143, ⟨by decide +kernel, by decide +kernel, by decide +kernel⟩, by decide⟩
theorem wX5_99 : jCn RX5 99 yX6_isWithin RX6 cX6_isWithin 3 (some .boolean) 3 := ⟨fun g U H q => q.2.2.1, t_282, t_60, t_283, ⟨by decide +kernel, by decide +kernel, by decide +kernel⟩, by decide⟩
theorem wX2_91 : jCn RX2 91 yX6_power RX6 cX6_power 4 (some .int) 2 := ⟨fun g U H q => q.2.2.2.1, t_656, t_60, t_657, ⟨by decide +kernel, by decide +kernel, by decide +kernel⟩, by decide⟩
end
