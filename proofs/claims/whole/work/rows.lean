section
-- ===== PART A: goes FIRST, ahead of the names: the tables' words, and 'selects' of the private methods out of them =====
/-- a private method of a class that the tables say can be made, by its rows of tables_1 -/
def lw_okq (q : MethodName × Nat) : Prop := (q.1.cls ≠ "java/lang/invoke/MethodHandle" ∧ q.1.cls ≠ "java/lang/invoke/VarHandle") ∧ Cond.instantiable q.1.cls q.2 ∈ tables_1 ∧ Cond.privateMethod q.1 ∈ tables_1 ∧ Cond.instanceMethod q.1 ∈ tables_1
theorem lw_p0 : lw_okq (⟨"LadderSurvey$Text", "nextToken", "()V"⟩, 7) := ⟨⟨by decide +kernel, by decide +kernel⟩, List.mem_of_getElem? (i := 21) (by decide +kernel), List.mem_of_getElem? (i := 279) (by decide +kernel), List.mem_of_getElem? (i := 280) (by decide +kernel)⟩
theorem lw_p1 : lw_okq (⟨"LadderSurvey$Text", "readItem", "(LLadderSurvey$Plan;)Z"⟩, 7) := ⟨⟨by decide +kernel, by decide +kernel⟩, List.mem_of_getElem? (i := 21) (by decide +kernel), List.mem_of_getElem? (i := 294) (by decide +kernel), List.mem_of_getElem? (i := 295) (by decide +kernel)⟩
theorem lw_p2 : lw_okq (⟨"LadderSurvey$Text", "readStretch", "(LLadderSurvey$Plan;)Z"⟩, 7) := ⟨⟨by decide +kernel, by decide +kernel⟩, List.mem_of_getElem? (i := 21) (by decide +kernel), List.mem_of_getElem? (i := 299) (by decide +kernel), List.mem_of_getElem? (i := 300) (by decide +kernel)⟩
theorem lw_p3 : lw_okq (⟨"LadderSurvey$Text", "readNumber", "(II)Z"⟩, 7) := ⟨⟨by decide +kernel, by decide +kernel⟩, List.mem_of_getElem? (i := 21) (by decide +kernel), List.mem_of_getElem? (i := 303) (by decide +kernel), List.mem_of_getElem? (i := 304) (by decide +kernel)⟩
theorem lw_p4 : lw_okq (⟨"LadderSurvey$Text", "readItemEnd", "()Z"⟩, 7) := ⟨⟨by decide +kernel, by decide +kernel⟩, List.mem_of_getElem? (i := 21) (by decide +kernel), List.mem_of_getElem? (i := 314) (by decide +kernel), List.mem_of_getElem? (i := 315) (by decide +kernel)⟩
theorem lw_p5 : lw_okq (⟨"LadderSurvey$Text", "readTraveller", "(LLadderSurvey$Plan;)Z"⟩, 7) := ⟨⟨by decide +kernel, by decide +kernel⟩, List.mem_of_getElem? (i := 21) (by decide +kernel), List.mem_of_getElem? (i := 318) (by decide +kernel), List.mem_of_getElem? (i := 319) (by decide +kernel)⟩
theorem lw_p6 : lw_okq (⟨"LadderSurvey$Text", "readReach", "(LLadderSurvey$Plan;)Z"⟩, 7) := ⟨⟨by decide +kernel, by decide +kernel⟩, List.mem_of_getElem? (i := 21) (by decide +kernel), List.mem_of_getElem? (i := 323) (by decide +kernel), List.mem_of_getElem? (i := 324) (by decide +kernel)⟩
theorem lw_p7 : lw_okq (⟨"LadderSurvey$Text", "readBoys", "(LLadderSurvey$Plan;)Z"⟩, 7) := ⟨⟨by decide +kernel, by decide +kernel⟩, List.mem_of_getElem? (i := 21) (by decide +kernel), List.mem_of_getElem? (i := 327) (by decide +kernel), List.mem_of_getElem? (i := 328) (by decide +kernel)⟩
theorem lw_p8 : lw_okq (⟨"LadderSurvey$Deeds", "drop", "(I)V"⟩, 3) := ⟨⟨by decide +kernel, by decide +kernel⟩, List.mem_of_getElem? (i := 144) (by decide +kernel), List.mem_of_getElem? (i := 441) (by decide +kernel), List.mem_of_getElem? (i := 442) (by decide +kernel)⟩
theorem lw_p9 : lw_okq (⟨"LadderSurvey$Seen", "dropUnlikeSeen", "(I)V"⟩, 3) := ⟨⟨by decide +kernel, by decide +kernel⟩, List.mem_of_getElem? (i := 162) (by decide +kernel), List.mem_of_getElem? (i := 531) (by decide +kernel), List.mem_of_getElem? (i := 532) (by decide +kernel)⟩
theorem lw_p10 : lw_okq (⟨"LadderSurvey$Seen", "keepOnly", "(I)V"⟩, 3) := ⟨⟨by decide +kernel, by decide +kernel⟩, List.mem_of_getElem? (i := 162) (by decide +kernel), List.mem_of_getElem? (i := 537) (by decide +kernel), List.mem_of_getElem? (i := 538) (by decide +kernel)⟩
theorem lw_p11 : lw_okq (⟨"LadderSurvey$Seen", "addGoings", "(II)V"⟩, 3) := ⟨⟨by decide +kernel, by decide +kernel⟩, List.mem_of_getElem? (i := 162) (by decide +kernel), List.mem_of_getElem? (i := 541) (by decide +kernel), List.mem_of_getElem? (i := 542) (by decide +kernel)⟩
theorem lw_p12 : lw_okq (⟨"LadderSurvey$Measures", "gapOf", "(I)I"⟩, 4) := ⟨⟨by decide +kernel, by decide +kernel⟩, List.mem_of_getElem? (i := 181) (by decide +kernel), List.mem_of_getElem? (i := 585) (by decide +kernel), List.mem_of_getElem? (i := 586) (by decide +kernel)⟩
theorem lw_p13 : lw_okq (⟨"LadderSurvey", "rateStretch", "(I)I"⟩, 11) := ⟨⟨by decide +kernel, by decide +kernel⟩, List.mem_of_getElem? (i := 13) (by decide +kernel), List.mem_of_getElem? (i := 631) (by decide +kernel), List.mem_of_getElem? (i := 632) (by decide +kernel)⟩
theorem lw_p14 : lw_okq (⟨"LadderSurvey", "rateFeather", "(I)I"⟩, 11) := ⟨⟨by decide +kernel, by decide +kernel⟩, List.mem_of_getElem? (i := 13) (by decide +kernel), List.mem_of_getElem? (i := 635) (by decide +kernel), List.mem_of_getElem? (i := 636) (by decide +kernel)⟩
theorem lw_p15 : lw_okq (⟨"LadderSurvey", "rateBench", "(I)I"⟩, 11) := ⟨⟨by decide +kernel, by decide +kernel⟩, List.mem_of_getElem? (i := 13) (by decide +kernel), List.mem_of_getElem? (i := 644) (by decide +kernel), List.mem_of_getElem? (i := 645) (by decide +kernel)⟩
def lw_privs_1 : List (MethodName × Nat) := [(⟨"LadderSurvey$Text", "nextToken", "()V"⟩, 7), (⟨"LadderSurvey$Text", "readItem", "(LLadderSurvey$Plan;)Z"⟩, 7), (⟨"LadderSurvey$Text", "readStretch", "(LLadderSurvey$Plan;)Z"⟩, 7), (⟨"LadderSurvey$Text", "readNumber", "(II)Z"⟩, 7), (⟨"LadderSurvey$Text", "readItemEnd", "()Z"⟩, 7), (⟨"LadderSurvey$Text", "readTraveller", "(LLadderSurvey$Plan;)Z"⟩, 7), (⟨"LadderSurvey$Text", "readReach", "(LLadderSurvey$Plan;)Z"⟩, 7), (⟨"LadderSurvey$Text", "readBoys", "(LLadderSurvey$Plan;)Z"⟩, 7), (⟨"LadderSurvey$Deeds", "drop", "(I)V"⟩, 3), (⟨"LadderSurvey$Seen", "dropUnlikeSeen", "(I)V"⟩, 3), (⟨"LadderSurvey$Seen", "keepOnly", "(I)V"⟩, 3), (⟨"LadderSurvey$Seen", "addGoings", "(II)V"⟩, 3), (⟨"LadderSurvey$Measures", "gapOf", "(I)I"⟩, 4), (⟨"LadderSurvey", "rateStretch", "(I)I"⟩, 11), (⟨"LadderSurvey", "rateFeather", "(I)I"⟩, 11), (⟨"LadderSurvey", "rateBench", "(I)I"⟩, 11)]
theorem lw_r1 : ∀ q ∈ lw_privs_1, lw_okq q := List.forall_mem_cons.mpr ⟨lw_p0, List.forall_mem_cons.mpr ⟨lw_p1, List.forall_mem_cons.mpr ⟨lw_p2, List.forall_mem_cons.mpr ⟨lw_p3, List.forall_mem_cons.mpr ⟨lw_p4, List.forall_mem_cons.mpr ⟨lw_p5, List.forall_mem_cons.mpr ⟨lw_p6, List.forall_mem_cons.mpr ⟨lw_p7, List.forall_mem_cons.mpr ⟨lw_p8, List.forall_mem_cons.mpr ⟨lw_p9, List.forall_mem_cons.mpr ⟨lw_p10, List.forall_mem_cons.mpr ⟨lw_p11, List.forall_mem_cons.mpr ⟨lw_p12, List.forall_mem_cons.mpr ⟨lw_p13, List.forall_mem_cons.mpr ⟨lw_p14, List.forall_mem_cons.mpr ⟨lw_p15, fun _ h => absurd h List.not_mem_nil⟩⟩⟩⟩⟩⟩⟩⟩⟩⟩⟩⟩⟩⟩⟩⟩
theorem lw_p16 : lw_okq (⟨"LadderSurvey", "rateWing", "(I)I"⟩, 11) := ⟨⟨by decide +kernel, by decide +kernel⟩, List.mem_of_getElem? (i := 13) (by decide +kernel), List.mem_of_getElem? (i := 649) (by decide +kernel), List.mem_of_getElem? (i := 650) (by decide +kernel)⟩
theorem lw_p17 : lw_okq (⟨"LadderSurvey", "rateName", "(I)I"⟩, 11) := ⟨⟨by decide +kernel, by decide +kernel⟩, List.mem_of_getElem? (i := 13) (by decide +kernel), List.mem_of_getElem? (i := 654) (by decide +kernel), List.mem_of_getElem? (i := 655) (by decide +kernel)⟩
theorem lw_p18 : lw_okq (⟨"LadderSurvey", "rateCloud", "(I)I"⟩, 11) := ⟨⟨by decide +kernel, by decide +kernel⟩, List.mem_of_getElem? (i := 13) (by decide +kernel), List.mem_of_getElem? (i := 659) (by decide +kernel), List.mem_of_getElem? (i := 660) (by decide +kernel)⟩
theorem lw_p19 : lw_okq (⟨"LadderSurvey", "imageOf", "(I)LLadderSurvey$Scene;"⟩, 11) := ⟨⟨by decide +kernel, by decide +kernel⟩, List.mem_of_getElem? (i := 13) (by decide +kernel), List.mem_of_getElem? (i := 668) (by decide +kernel), List.mem_of_getElem? (i := 669) (by decide +kernel)⟩
theorem lw_p20 : lw_okq (⟨"LadderSurveyModel", "begins", "()V"⟩, 29) := ⟨⟨by decide +kernel, by decide +kernel⟩, List.mem_of_getElem? (i := 693) (by decide +kernel), List.mem_of_getElem? (i := 699) (by decide +kernel), List.mem_of_getElem? (i := 700) (by decide +kernel)⟩
theorem lw_p21 : lw_okq (⟨"LadderSurveyModel", "settles", "()V"⟩, 29) := ⟨⟨by decide +kernel, by decide +kernel⟩, List.mem_of_getElem? (i := 693) (by decide +kernel), List.mem_of_getElem? (i := 703) (by decide +kernel), List.mem_of_getElem? (i := 704) (by decide +kernel)⟩
theorem lw_p22 : lw_okq (⟨"LadderSurveyModel", "advances", "()V"⟩, 29) := ⟨⟨by decide +kernel, by decide +kernel⟩, List.mem_of_getElem? (i := 693) (by decide +kernel), List.mem_of_getElem? (i := 811) (by decide +kernel), List.mem_of_getElem? (i := 812) (by decide +kernel)⟩
theorem lw_p23 : lw_okq (⟨"LadderSurveyModel", "letterAt", "(I)I"⟩, 29) := ⟨⟨by decide +kernel, by decide +kernel⟩, List.mem_of_getElem? (i := 693) (by decide +kernel), List.mem_of_getElem? (i := 815) (by decide +kernel), List.mem_of_getElem? (i := 816) (by decide +kernel)⟩
theorem lw_p24 : lw_okq (⟨"LadderSurveyModel", "isWell", "()Z"⟩, 29) := ⟨⟨by decide +kernel, by decide +kernel⟩, List.mem_of_getElem? (i := 693) (by decide +kernel), List.mem_of_getElem? (i := 822) (by decide +kernel), List.mem_of_getElem? (i := 823) (by decide +kernel)⟩
theorem lw_p25 : lw_okq (⟨"LadderSurveyModel", "mayBegin", "()Z"⟩, 29) := ⟨⟨by decide +kernel, by decide +kernel⟩, List.mem_of_getElem? (i := 693) (by decide +kernel), List.mem_of_getElem? (i := 826) (by decide +kernel), List.mem_of_getElem? (i := 827) (by decide +kernel)⟩
theorem lw_p26 : lw_okq (⟨"LadderSurveyModel", "takes", "(Z)I"⟩, 29) := ⟨⟨by decide +kernel, by decide +kernel⟩, List.mem_of_getElem? (i := 693) (by decide +kernel), List.mem_of_getElem? (i := 830) (by decide +kernel), List.mem_of_getElem? (i := 831) (by decide +kernel)⟩
theorem lw_p27 : lw_okq (⟨"LadderSurveyModel", "readsItem", "(I)V"⟩, 29) := ⟨⟨by decide +kernel, by decide +kernel⟩, List.mem_of_getElem? (i := 693) (by decide +kernel), List.mem_of_getElem? (i := 834) (by decide +kernel), List.mem_of_getElem? (i := 835) (by decide +kernel)⟩
theorem lw_p28 : lw_okq (⟨"LadderSurveyModel", "number", "(II)I"⟩, 29) := ⟨⟨by decide +kernel, by decide +kernel⟩, List.mem_of_getElem? (i := 693) (by decide +kernel), List.mem_of_getElem? (i := 838) (by decide +kernel), List.mem_of_getElem? (i := 839) (by decide +kernel)⟩
theorem lw_p29 : lw_okq (⟨"LadderSurveyModel", "isStretch", "(I)Z"⟩, 29) := ⟨⟨by decide +kernel, by decide +kernel⟩, List.mem_of_getElem? (i := 693) (by decide +kernel), List.mem_of_getElem? (i := 846) (by decide +kernel), List.mem_of_getElem? (i := 847) (by decide +kernel)⟩
theorem lw_p30 : lw_okq (⟨"LadderSurveyModel", "markOf", "(I)I"⟩, 29) := ⟨⟨by decide +kernel, by decide +kernel⟩, List.mem_of_getElem? (i := 693) (by decide +kernel), List.mem_of_getElem? (i := 851) (by decide +kernel), List.mem_of_getElem? (i := 852) (by decide +kernel)⟩
theorem lw_p31 : lw_okq (⟨"LadderSurveyModel", "isTraveller", "(I)Z"⟩, 29) := ⟨⟨by decide +kernel, by decide +kernel⟩, List.mem_of_getElem? (i := 693) (by decide +kernel), List.mem_of_getElem? (i := 859) (by decide +kernel), List.mem_of_getElem? (i := 860) (by decide +kernel)⟩
def lw_privs_2 : List (MethodName × Nat) := [(⟨"LadderSurvey", "rateWing", "(I)I"⟩, 11), (⟨"LadderSurvey", "rateName", "(I)I"⟩, 11), (⟨"LadderSurvey", "rateCloud", "(I)I"⟩, 11), (⟨"LadderSurvey", "imageOf", "(I)LLadderSurvey$Scene;"⟩, 11), (⟨"LadderSurveyModel", "begins", "()V"⟩, 29), (⟨"LadderSurveyModel", "settles", "()V"⟩, 29), (⟨"LadderSurveyModel", "advances", "()V"⟩, 29), (⟨"LadderSurveyModel", "letterAt", "(I)I"⟩, 29), (⟨"LadderSurveyModel", "isWell", "()Z"⟩, 29), (⟨"LadderSurveyModel", "mayBegin", "()Z"⟩, 29), (⟨"LadderSurveyModel", "takes", "(Z)I"⟩, 29), (⟨"LadderSurveyModel", "readsItem", "(I)V"⟩, 29), (⟨"LadderSurveyModel", "number", "(II)I"⟩, 29), (⟨"LadderSurveyModel", "isStretch", "(I)Z"⟩, 29), (⟨"LadderSurveyModel", "markOf", "(I)I"⟩, 29), (⟨"LadderSurveyModel", "isTraveller", "(I)Z"⟩, 29)]
theorem lw_r2 : ∀ q ∈ lw_privs_2, lw_okq q := List.forall_mem_cons.mpr ⟨lw_p16, List.forall_mem_cons.mpr ⟨lw_p17, List.forall_mem_cons.mpr ⟨lw_p18, List.forall_mem_cons.mpr ⟨lw_p19, List.forall_mem_cons.mpr ⟨lw_p20, List.forall_mem_cons.mpr ⟨lw_p21, List.forall_mem_cons.mpr ⟨lw_p22, List.forall_mem_cons.mpr ⟨lw_p23, List.forall_mem_cons.mpr ⟨lw_p24, List.forall_mem_cons.mpr ⟨lw_p25, List.forall_mem_cons.mpr ⟨lw_p26, List.forall_mem_cons.mpr ⟨lw_p27, List.forall_mem_cons.mpr ⟨lw_p28, List.forall_mem_cons.mpr ⟨lw_p29, List.forall_mem_cons.mpr ⟨lw_p30, List.forall_mem_cons.mpr ⟨lw_p31, fun _ h => absurd h List.not_mem_nil⟩⟩⟩⟩⟩⟩⟩⟩⟩⟩⟩⟩⟩⟩⟩⟩
theorem lw_p32 : lw_okq (⟨"LadderSurveyModel", "top", "()I"⟩, 29) := ⟨⟨by decide +kernel, by decide +kernel⟩, List.mem_of_getElem? (i := 693) (by decide +kernel), List.mem_of_getElem? (i := 867) (by decide +kernel), List.mem_of_getElem? (i := 868) (by decide +kernel)⟩
theorem lw_p33 : lw_okq (⟨"LadderSurveyModel", "allWear", "()I"⟩, 29) := ⟨⟨by decide +kernel, by decide +kernel⟩, List.mem_of_getElem? (i := 693) (by decide +kernel), List.mem_of_getElem? (i := 882) (by decide +kernel), List.mem_of_getElem? (i := 883) (by decide +kernel)⟩
theorem lw_p34 : lw_okq (⟨"LadderSurveyModel", "steepest", "()I"⟩, 29) := ⟨⟨by decide +kernel, by decide +kernel⟩, List.mem_of_getElem? (i := 693) (by decide +kernel), List.mem_of_getElem? (i := 886) (by decide +kernel), List.mem_of_getElem? (i := 887) (by decide +kernel)⟩
theorem lw_p35 : lw_okq (⟨"LadderSurveyModel", "heightAt", "(I)I"⟩, 29) := ⟨⟨by decide +kernel, by decide +kernel⟩, List.mem_of_getElem? (i := 693) (by decide +kernel), List.mem_of_getElem? (i := 890) (by decide +kernel), List.mem_of_getElem? (i := 891) (by decide +kernel)⟩
theorem lw_p36 : lw_okq (⟨"LadderSurveyModel", "daysBy", "(I)I"⟩, 29) := ⟨⟨by decide +kernel, by decide +kernel⟩, List.mem_of_getElem? (i := 693) (by decide +kernel), List.mem_of_getElem? (i := 894) (by decide +kernel), List.mem_of_getElem? (i := 895) (by decide +kernel)⟩
theorem lw_p37 : lw_okq (⟨"LadderSurveyModel", "isStaying", "(I)Z"⟩, 29) := ⟨⟨by decide +kernel, by decide +kernel⟩, List.mem_of_getElem? (i := 693) (by decide +kernel), List.mem_of_getElem? (i := 902) (by decide +kernel), List.mem_of_getElem? (i := 903) (by decide +kernel)⟩
theorem lw_p38 : lw_okq (⟨"LadderSurveyModel", "notes", "()V"⟩, 29) := ⟨⟨by decide +kernel, by decide +kernel⟩, List.mem_of_getElem? (i := 693) (by decide +kernel), List.mem_of_getElem? (i := 906) (by decide +kernel), List.mem_of_getElem? (i := 907) (by decide +kernel)⟩
theorem lw_p39 : lw_okq (⟨"LadderSurveyModel", "oldestAt", "(I)I"⟩, 29) := ⟨⟨by decide +kernel, by decide +kernel⟩, List.mem_of_getElem? (i := 693) (by decide +kernel), List.mem_of_getElem? (i := 922) (by decide +kernel), List.mem_of_getElem? (i := 923) (by decide +kernel)⟩
theorem lw_p40 : lw_okq (⟨"LadderSurveyModel", "altitudeOf", "(I)I"⟩, 29) := ⟨⟨by decide +kernel, by decide +kernel⟩, List.mem_of_getElem? (i := 693) (by decide +kernel), List.mem_of_getElem? (i := 934) (by decide +kernel), List.mem_of_getElem? (i := 935) (by decide +kernel)⟩
theorem lw_p41 : lw_okq (⟨"LadderSurveyModel", "isAsSeen", "(I)Z"⟩, 29) := ⟨⟨by decide +kernel, by decide +kernel⟩, List.mem_of_getElem? (i := 693) (by decide +kernel), List.mem_of_getElem? (i := 958) (by decide +kernel), List.mem_of_getElem? (i := 959) (by decide +kernel)⟩
theorem lw_p42 : lw_okq (⟨"LadderSurveyModel", "leastChanges", "()I"⟩, 29) := ⟨⟨by decide +kernel, by decide +kernel⟩, List.mem_of_getElem? (i := 693) (by decide +kernel), List.mem_of_getElem? (i := 974) (by decide +kernel), List.mem_of_getElem? (i := 975) (by decide +kernel)⟩
theorem lw_p43 : lw_okq (⟨"LadderSurveyModel", "hangs", "(I)Z"⟩, 29) := ⟨⟨by decide +kernel, by decide +kernel⟩, List.mem_of_getElem? (i := 693) (by decide +kernel), List.mem_of_getElem? (i := 979) (by decide +kernel), List.mem_of_getElem? (i := 980) (by decide +kernel)⟩
theorem lw_p44 : lw_okq (⟨"LadderSurveyModel", "canOwn", "(I)Z"⟩, 29) := ⟨⟨by decide +kernel, by decide +kernel⟩, List.mem_of_getElem? (i := 693) (by decide +kernel), List.mem_of_getElem? (i := 994) (by decide +kernel), List.mem_of_getElem? (i := 995) (by decide +kernel)⟩
theorem lw_p45 : lw_okq (⟨"LadderSurveyModel", "thingsOn", "(I)I"⟩, 29) := ⟨⟨by decide +kernel, by decide +kernel⟩, List.mem_of_getElem? (i := 693) (by decide +kernel), List.mem_of_getElem? (i := 1015) (by decide +kernel), List.mem_of_getElem? (i := 1016) (by decide +kernel)⟩
def lw_privs_3 : List (MethodName × Nat) := [(⟨"LadderSurveyModel", "top", "()I"⟩, 29), (⟨"LadderSurveyModel", "allWear", "()I"⟩, 29), (⟨"LadderSurveyModel", "steepest", "()I"⟩, 29), (⟨"LadderSurveyModel", "heightAt", "(I)I"⟩, 29), (⟨"LadderSurveyModel", "daysBy", "(I)I"⟩, 29), (⟨"LadderSurveyModel", "isStaying", "(I)Z"⟩, 29), (⟨"LadderSurveyModel", "notes", "()V"⟩, 29), (⟨"LadderSurveyModel", "oldestAt", "(I)I"⟩, 29), (⟨"LadderSurveyModel", "altitudeOf", "(I)I"⟩, 29), (⟨"LadderSurveyModel", "isAsSeen", "(I)Z"⟩, 29), (⟨"LadderSurveyModel", "leastChanges", "()I"⟩, 29), (⟨"LadderSurveyModel", "hangs", "(I)Z"⟩, 29), (⟨"LadderSurveyModel", "canOwn", "(I)Z"⟩, 29), (⟨"LadderSurveyModel", "thingsOn", "(I)I"⟩, 29)]
theorem lw_r3 : ∀ q ∈ lw_privs_3, lw_okq q := List.forall_mem_cons.mpr ⟨lw_p32, List.forall_mem_cons.mpr ⟨lw_p33, List.forall_mem_cons.mpr ⟨lw_p34, List.forall_mem_cons.mpr ⟨lw_p35, List.forall_mem_cons.mpr ⟨lw_p36, List.forall_mem_cons.mpr ⟨lw_p37, List.forall_mem_cons.mpr ⟨lw_p38, List.forall_mem_cons.mpr ⟨lw_p39, List.forall_mem_cons.mpr ⟨lw_p40, List.forall_mem_cons.mpr ⟨lw_p41, List.forall_mem_cons.mpr ⟨lw_p42, List.forall_mem_cons.mpr ⟨lw_p43, List.forall_mem_cons.mpr ⟨lw_p44, List.forall_mem_cons.mpr ⟨lw_p45, fun _ h => absurd h List.not_mem_nil⟩⟩⟩⟩⟩⟩⟩⟩⟩⟩⟩⟩⟩⟩
def lw_privs : List (MethodName × Nat) := lw_privs_1 ++ (lw_privs_2 ++ (lw_privs_3))
def lw_tbl : List Cond := k2_sels lw_privs ++ tables_1
theorem lw_privs_ok : ∀ q ∈ lw_privs, lw_okq q := by
  show ∀ q ∈ lw_privs_1 ++ (lw_privs_2 ++ (lw_privs_3)), lw_okq q
  exact List.forall_mem_append.mpr ⟨lw_r1, List.forall_mem_append.mpr ⟨lw_r2, lw_r3⟩⟩
/-! the classes, their fields -/
def cN0 : String := "LadderSurvey$Deeds"
def fT0 : u_T := fun k => match k with
  | 0 => ("LadderSurvey$Deeds", "kinds", "LLadderSurvey$Row;", true)
  | 1 => ("LadderSurvey$Deeds", "travellers", "LLadderSurvey$Row;", true)
  | _ => ("LadderSurvey$Deeds", "details", "LLadderSurvey$Row;", true)
def fY0 : Nat → FieldType := fun k => match k with
  | 0 => .object "LadderSurvey$Row"
  | 1 => .object "LadderSurvey$Row"
  | _ => .object "LadderSurvey$Row"
theorem fN0 : ∀ a, a < 3 → ∀ b, b < 3 → a ≠ b → (fT0 a).2.1 ≠ (fT0 b).2.1 := by decide +kernel
theorem fO0 : ∀ k, k < 3 → parseFieldDescriptor (fT0 k).2.2.1 = some (fY0 k) := by decide +kernel
def cN1 : String := "LadderSurvey$Measures"
def fT1 : u_T := fun k => match k with
  | 0 => ("LadderSurvey$Measures", "froms", "LLadderSurvey$Row;", true)
  | 1 => ("LadderSurvey$Measures", "tos", "LLadderSurvey$Row;", true)
  | 2 => ("LadderSurvey$Measures", "heights", "LLadderSurvey$Row;", true)
  | _ => ("LadderSurvey$Measures", "balance", "LLadderSurvey$Row;", true)
def fY1 : Nat → FieldType := fun k => match k with
  | 0 => .object "LadderSurvey$Row"
  | 1 => .object "LadderSurvey$Row"
  | 2 => .object "LadderSurvey$Row"
  | _ => .object "LadderSurvey$Row"
theorem fN1 : ∀ a, a < 4 → ∀ b, b < 4 → a ≠ b → (fT1 a).2.1 ≠ (fT1 b).2.1 := by decide +kernel
theorem fO1 : ∀ k, k < 4 → parseFieldDescriptor (fT1 k).2.2.1 = some (fY1 k) := by decide +kernel
def cN2 : String := "LadderSurvey$Plan"
def fT2 : u_T := fun k => match k with
  | 0 => ("LadderSurvey$Plan", "longs", "LLadderSurvey$Row;", true)
  | 1 => ("LadderSurvey$Plan", "rises", "LLadderSurvey$Row;", true)
  | 2 => ("LadderSurvey$Plan", "bends", "LLadderSurvey$Row;", true)
  | 3 => ("LadderSurvey$Plan", "uppers", "LLadderSurvey$Row;", true)
  | 4 => ("LadderSurvey$Plan", "heights", "LLadderSurvey$Row;", true)
  | 5 => ("LadderSurvey$Plan", "breaths", "LLadderSurvey$Row;", true)
  | 6 => ("LadderSurvey$Plan", "reach", "I", false)
  | _ => ("LadderSurvey$Plan", "boys", "I", false)
def fY2 : Nat → FieldType := fun k => match k with
  | 0 => .object "LadderSurvey$Row"
  | 1 => .object "LadderSurvey$Row"
  | 2 => .object "LadderSurvey$Row"
  | 3 => .object "LadderSurvey$Row"
  | 4 => .object "LadderSurvey$Row"
  | 5 => .object "LadderSurvey$Row"
  | 6 => .int
  | _ => .int
theorem fN2 : ∀ a, a < 8 → ∀ b, b < 8 → a ≠ b → (fT2 a).2.1 ≠ (fT2 b).2.1 := by decide +kernel
theorem fO2 : ∀ k, k < 8 → parseFieldDescriptor (fT2 k).2.2.1 = some (fY2 k) := by decide +kernel
def cN3 : String := "LadderSurvey$Row"
def fT3 : u_T := fun k => match k with
  | 0 => ("LadderSurvey$Row", "cells", "[I", true)
  | _ => ("LadderSurvey$Row", "size", "I", false)
def fY3 : Nat → FieldType := fun k => match k with
  | 0 => .array .int
  | _ => .int
theorem fN3 : ∀ a, a < 2 → ∀ b, b < 2 → a ≠ b → (fT3 a).2.1 ≠ (fT3 b).2.1 := by decide +kernel
theorem fO3 : ∀ k, k < 2 → parseFieldDescriptor (fT3 k).2.2.1 = some (fY3 k) := by decide +kernel
def cN4 : String := "LadderSurvey$Scene"
def fT4 : u_T := fun k => match k with
  | 0 => ("LadderSurvey$Scene", "places", "LLadderSurvey$Row;", true)
  | 1 => ("LadderSurvey$Scene", "stayed", "LLadderSurvey$Row;", true)
  | 2 => ("LadderSurvey$Scene", "left", "LLadderSurvey$Row;", true)
  | 3 => ("LadderSurvey$Scene", "right", "LLadderSurvey$Row;", true)
  | _ => ("LadderSurvey$Scene", "things", "LLadderSurvey$Row;", true)
def fY4 : Nat → FieldType := fun k => match k with
  | 0 => .object "LadderSurvey$Row"
  | 1 => .object "LadderSurvey$Row"
  | 2 => .object "LadderSurvey$Row"
  | 3 => .object "LadderSurvey$Row"
  | _ => .object "LadderSurvey$Row"
theorem fN4 : ∀ a, a < 5 → ∀ b, b < 5 → a ≠ b → (fT4 a).2.1 ≠ (fT4 b).2.1 := by decide +kernel
theorem fO4 : ∀ k, k < 5 → parseFieldDescriptor (fT4 k).2.2.1 = some (fY4 k) := by decide +kernel
def cN5 : String := "LadderSurvey$Seen"
def fT5 : u_T := fun k => match k with
  | 0 => ("LadderSurvey$Seen", "climbers", "LLadderSurvey$Row;", true)
  | 1 => ("LadderSurvey$Seen", "wears", "LLadderSurvey$Row;", true)
  | _ => ("LadderSurvey$Seen", "ways", "LLadderSurvey$Row;", true)
def fY5 : Nat → FieldType := fun k => match k with
  | 0 => .object "LadderSurvey$Row"
  | 1 => .object "LadderSurvey$Row"
  | _ => .object "LadderSurvey$Row"
theorem fN5 : ∀ a, a < 3 → ∀ b, b < 3 → a ≠ b → (fT5 a).2.1 ≠ (fT5 b).2.1 := by decide +kernel
theorem fO5 : ∀ k, k < 3 → parseFieldDescriptor (fT5 k).2.2.1 = some (fY5 k) := by decide +kernel
def cN6 : String := "LadderSurvey$Text"
def fT6 : u_T := fun k => match k with
  | 0 => ("LadderSurvey$Text", "letters", "LLadderSurvey$Row;", true)
  | 1 => ("LadderSurvey$Text", "place", "I", false)
  | 2 => ("LadderSurvey$Text", "token", "I", false)
  | 3 => ("LadderSurvey$Text", "tokenPlace", "I", false)
  | 4 => ("LadderSurvey$Text", "number", "I", false)
  | 5 => ("LadderSurvey$Text", "reachTold", "Z", false)
  | _ => ("LadderSurvey$Text", "boysTold", "Z", false)
def fY6 : Nat → FieldType := fun k => match k with
  | 0 => .object "LadderSurvey$Row"
  | 1 => .int
  | 2 => .int
  | 3 => .int
  | 4 => .int
  | 5 => .boolean
  | _ => .boolean
theorem fN6 : ∀ a, a < 7 → ∀ b, b < 7 → a ≠ b → (fT6 a).2.1 ≠ (fT6 b).2.1 := by decide +kernel
theorem fO6 : ∀ k, k < 7 → parseFieldDescriptor (fT6 k).2.2.1 = some (fY6 k) := by decide +kernel
def cN7 : String := "LadderSurvey"
def fT7 : u_T := fun k => match k with
  | 0 => ("LadderSurvey", "text", "LLadderSurvey$Text;", true)
  | 1 => ("LadderSurvey", "plan", "LLadderSurvey$Plan;", false)
  | 2 => ("LadderSurvey", "draft", "LLadderSurvey$Plan;", false)
  | 3 => ("LadderSurvey", "scene", "LLadderSurvey$Scene;", true)
  | 4 => ("LadderSurvey", "firstImage", "LLadderSurvey$Scene;", true)
  | 5 => ("LadderSurvey", "secondImage", "LLadderSurvey$Scene;", true)
  | 6 => ("LadderSurvey", "kept", "LLadderSurvey$Row;", true)
  | 7 => ("LadderSurvey", "deeds", "LLadderSurvey$Deeds;", true)
  | 8 => ("LadderSurvey", "seen", "LLadderSurvey$Seen;", true)
  | 9 => ("LadderSurvey", "measured", "LLadderSurvey$Measures;", true)
  | _ => ("LadderSurvey", "trace", "J", false)
def fY7 : Nat → FieldType := fun k => match k with
  | 0 => .object "LadderSurvey$Text"
  | 1 => .object "LadderSurvey$Plan"
  | 2 => .object "LadderSurvey$Plan"
  | 3 => .object "LadderSurvey$Scene"
  | 4 => .object "LadderSurvey$Scene"
  | 5 => .object "LadderSurvey$Scene"
  | 6 => .object "LadderSurvey$Row"
  | 7 => .object "LadderSurvey$Deeds"
  | 8 => .object "LadderSurvey$Seen"
  | 9 => .object "LadderSurvey$Measures"
  | _ => .long
theorem fN7 : ∀ a, a < 11 → ∀ b, b < 11 → a ≠ b → (fT7 a).2.1 ≠ (fT7 b).2.1 := by decide +kernel
theorem fO7 : ∀ k, k < 11 → parseFieldDescriptor (fT7 k).2.2.1 = some (fY7 k) := by decide +kernel
def cN8 : String := "LadderSurveyModel"
def fT8 : u_T := fun k => match k with
  | 0 => ("LadderSurveyModel", "thrown", "I", false)
  | 1 => ("LadderSurveyModel", "trace", "J", false)
  | 2 => ("LadderSurveyModel", "text", "[I", true)
  | 3 => ("LadderSurveyModel", "typed", "I", false)
  | 4 => ("LadderSurveyModel", "next", "I", false)
  | 5 => ("LadderSurveyModel", "token", "I", false)
  | 6 => ("LadderSurveyModel", "place", "I", false)
  | 7 => ("LadderSurveyModel", "value", "I", false)
  | 8 => ("LadderSurveyModel", "fault", "I", false)
  | 9 => ("LadderSurveyModel", "many", "[I", true)
  | 10 => ("LadderSurveyModel", "told", "I", false)
  | 11 => ("LadderSurveyModel", "lengths", "[I", true)
  | 12 => ("LadderSurveyModel", "rises", "[I", true)
  | 13 => ("LadderSurveyModel", "bends", "[I", true)
  | 14 => ("LadderSurveyModel", "breath", "[I", true)
  | 15 => ("LadderSurveyModel", "s", "[I", true)
  | 16 => ("LadderSurveyModel", "kept", "[I", true)
  | 17 => ("LadderSurveyModel", "isKept", "[Z", true)
  | 18 => ("LadderSurveyModel", "undos", "[I", true)
  | 19 => ("LadderSurveyModel", "undoMany", "I", false)
  | 20 => ("LadderSurveyModel", "seenMark", "[I", true)
  | 21 => ("LadderSurveyModel", "seenWear", "[I", true)
  | 22 => ("LadderSurveyModel", "seenMany", "I", false)
  | 23 => ("LadderSurveyModel", "from", "[I", true)
  | 24 => ("LadderSurveyModel", "to", "[I", true)
  | 25 => ("LadderSurveyModel", "amount", "[I", true)
  | 26 => ("LadderSurveyModel", "measured", "I", false)
  | 27 => ("LadderSurveyModel", "land", "[I", true)
  | _ => ("LadderSurveyModel", "group", "[I", true)
def fY8 : Nat → FieldType := fun k => match k with
  | 0 => .int
  | 1 => .long
  | 2 => .array .int
  | 3 => .int
  | 4 => .int
  | 5 => .int
  | 6 => .int
  | 7 => .int
  | 8 => .int
  | 9 => .array .int
  | 10 => .int
  | 11 => .array .int
  | 12 => .array .int
  | 13 => .array .int
  | 14 => .array .int
  | 15 => .array .int
  | 16 => .array .int
  | 17 => .array .boolean
  | 18 => .array .int
  | 19 => .int
  | 20 => .array .int
  | 21 => .array .int
  | 22 => .int
  | 23 => .array .int
  | 24 => .array .int
  | 25 => .array .int
  | 26 => .int
  | 27 => .array .int
  | _ => .array .int
theorem fN8 : ∀ a, a < 29 → ∀ b, b < 29 → a ≠ b → (fT8 a).2.1 ≠ (fT8 b).2.1 := by decide +kernel
theorem fO8 : ∀ k, k < 29 → parseFieldDescriptor (fT8 k).2.2.1 = some (fY8 k) := by decide +kernel
abbrev cl9 : List vw_C := [(cN0, fT0, 3), (cN1, fT1, 4), (cN2, fT2, 8), (cN3, fT3, 2), (cN4, fT4, 5), (cN5, fT5, 3), (cN6, fT6, 7), (cN7, fT7, 11), (cN8, fT8, 29)]
def isNest : Cond → Bool
  | .methodLinkNest .. => true
  | _ => false
def gw (w : Cond) : Bool := goodWord w || isNest w
def lw_ws : List Cond := lw_tbl.filter gw
theorem mw {w : Cond} (i : Nat) (h : lw_tbl[i]? = some w) (hg : gw w = true) : w ∈ lw_ws := List.mem_filter.mpr ⟨List.mem_of_getElem? h, hg⟩
theorem fI0 : ∀ w ∈ u_ws cN0 fT0 3, w ∈ lw_ws := fun w hw => by
  have g : (u_ws cN0 fT0 3).all gw = true := by decide +kernel
  have g1 := List.all_eq_true.mp g w hw
  have e : u_ws cN0 fT0 3 = ([200, 202, 204] : List Nat).filterMap (fun i => lw_tbl[i]?) := by decide +kernel
  rw [e] at hw
  obtain ⟨i, -, hi⟩ := List.mem_filterMap.mp hw
  exact List.mem_filter.mpr ⟨List.mem_of_getElem? hi, g1⟩
theorem fI1 : ∀ w ∈ u_ws cN1 fT1 4, w ∈ lw_ws := fun w hw => by
  have g : (u_ws cN1 fT1 4).all gw = true := by decide +kernel
  have g1 := List.all_eq_true.mp g w hw
  have e : u_ws cN1 fT1 4 = ([239, 241, 243, 245] : List Nat).filterMap (fun i => lw_tbl[i]?) := by decide +kernel
  rw [e] at hw
  obtain ⟨i, -, hi⟩ := List.mem_filterMap.mp hw
  exact List.mem_filter.mpr ⟨List.mem_of_getElem? hi, g1⟩
theorem fI2 : ∀ w ∈ u_ws cN2 fT2 8, w ∈ lw_ws := fun w hw => by
  have g : (u_ws cN2 fT2 8).all gw = true := by decide +kernel
  have g1 := List.all_eq_true.mp g w hw
  have e : u_ws cN2 fT2 8 = ([138, 140, 142, 144, 146, 148, 150, 152] : List Nat).filterMap (fun i => lw_tbl[i]?) := by decide +kernel
  rw [e] at hw
  obtain ⟨i, -, hi⟩ := List.mem_filterMap.mp hw
  exact List.mem_filter.mpr ⟨List.mem_of_getElem? hi, g1⟩
theorem fI3 : ∀ w ∈ u_ws cN3 fT3 2, w ∈ lw_ws := fun w hw => by
  have g : (u_ws cN3 fT3 2).all gw = true := by decide +kernel
  have g1 := List.all_eq_true.mp g w hw
  have e : u_ws cN3 fT3 2 = ([83, 85] : List Nat).filterMap (fun i => lw_tbl[i]?) := by decide +kernel
  rw [e] at hw
  obtain ⟨i, -, hi⟩ := List.mem_filterMap.mp hw
  exact List.mem_filter.mpr ⟨List.mem_of_getElem? hi, g1⟩
theorem fI4 : ∀ w ∈ u_ws cN4 fT4 5, w ∈ lw_ws := fun w hw => by
  have g : (u_ws cN4 fT4 5).all gw = true := by decide +kernel
  have g1 := List.all_eq_true.mp g w hw
  have e : u_ws cN4 fT4 5 = ([176, 178, 180, 182, 184] : List Nat).filterMap (fun i => lw_tbl[i]?) := by decide +kernel
  rw [e] at hw
  obtain ⟨i, -, hi⟩ := List.mem_filterMap.mp hw
  exact List.mem_filter.mpr ⟨List.mem_of_getElem? hi, g1⟩
theorem fI5 : ∀ w ∈ u_ws cN5 fT5 3, w ∈ lw_ws := fun w hw => by
  have g : (u_ws cN5 fT5 3).all gw = true := by decide +kernel
  have g1 := List.all_eq_true.mp g w hw
  have e : u_ws cN5 fT5 3 = ([219, 221, 223] : List Nat).filterMap (fun i => lw_tbl[i]?) := by decide +kernel
  rw [e] at hw
  obtain ⟨i, -, hi⟩ := List.mem_filterMap.mp hw
  exact List.mem_filter.mpr ⟨List.mem_of_getElem? hi, g1⟩
theorem fI6 : ∀ w ∈ u_ws cN6 fT6 7, w ∈ lw_ws := fun w hw => by
  have g : (u_ws cN6 fT6 7).all gw = true := by decide +kernel
  have g1 := List.all_eq_true.mp g w hw
  have e : u_ws cN6 fT6 7 = ([97, 99, 101, 103, 105, 107, 109] : List Nat).filterMap (fun i => lw_tbl[i]?) := by decide +kernel
  rw [e] at hw
  obtain ⟨i, -, hi⟩ := List.mem_filterMap.mp hw
  exact List.mem_filter.mpr ⟨List.mem_of_getElem? hi, g1⟩
theorem fI7 : ∀ w ∈ u_ws cN7 fT7 11, w ∈ lw_ws := fun w hw => by
  have g : (u_ws cN7 fT7 11).all gw = true := by decide +kernel
  have g1 := List.all_eq_true.mp g w hw
  have e : u_ws cN7 fT7 11 = ([259, 261, 263, 265, 267, 269, 271, 273, 275, 277, 279] : List Nat).filterMap (fun i => lw_tbl[i]?) := by decide +kernel
  rw [e] at hw
  obtain ⟨i, -, hi⟩ := List.mem_filterMap.mp hw
  exact List.mem_filter.mpr ⟨List.mem_of_getElem? hi, g1⟩
theorem fI8 : ∀ w ∈ u_ws cN8 fT8 29, w ∈ lw_ws := fun w hw => by
  have g : (u_ws cN8 fT8 29).all gw = true := by decide +kernel
  have g1 := List.all_eq_true.mp g w hw
  have e : u_ws cN8 fT8 29 = ([781, 783, 785, 787, 789, 791, 793, 795, 797, 799, 801, 803, 805, 807, 809, 811, 813, 815, 817, 819, 821, 823, 825, 827, 829, 831, 833, 835, 837] : List Nat).filterMap (fun i => lw_tbl[i]?) := by decide +kernel
  rw [e] at hw
  obtain ⟨i, -, hi⟩ := List.mem_filterMap.mp hw
  exact List.mem_filter.mpr ⟨List.mem_of_getElem? hi, g1⟩
end
section
/-! memories: a memory is how many cells there are, and what each holds, by its number behind the base; references in it are such numbers -/
abbrev Ce : Type := (Nat × List Value) ⊕ (Bool × Nat × (Nat → Int32))
abbrev Mem : Type := Nat × (Nat → Option Ce)
abbrev ob (ci : Nat) (fs : List Value) : Ce := .inl (ci, fs)
abbrev ar (n : Nat) (f : Nat → Int32) : Ce := .inr (false, n, f)
abbrev zr (n : Nat) (f : Nat → Int32) : Ce := .inr (true, n, f)
def gt (M : Mem) (k : Nat) : Option Ce := M.2 k
def up (M : Mem) (k : Nat) (c : Ce) : Mem := (M.1, fun j => if j = k then some c else M.2 j)
def nw (M : Mem) (c : Ce) : Mem := (M.1 + 1, fun j => if j = M.1 then some c else M.2 j)
def shV (b : Nat) (v : Value) : Value := match v with
  | .ref a => .ref (b + a)
  | w => w
def toE (b : Nat) (cy : ClassId × ClassId) (c : Ce) : va_E := match c with
  | .inl o => .inr (o.1, o.2.map (shV b))
  | .inr a => .inl ((if a.1 = true then cy.2 else cy.1), a.2.1, .inl a.2.2)
def Hold (b : Nat) (D : va_G) (cy : ClassId × ClassId) (M : Mem) (H : Heap) : Prop := H.size = b + M.1 ∧ ∀ (k : Nat) (c : Ce), M.2 k = some c → va_at D cl9 (b + k, toE b cy c) H
abbrev tyZ (cy : ClassId × ClassId) : List (ClassId × FieldType) := [(cy.1, .int), (cy.2, .boolean)]
/-- the frame, in one -/
abbrev FT : Type := Program × Launch × Env × Room × State × MethodId × Array Value × List Frame × Method × Code × (State → Prop) × Nat × va_G × (ClassId × ClassId)
def LH (b : Nat) (ls : Array Slot) (nL : Nat) (L : List Value) : Prop := ls.size = nL ∧ lv_wf ls ∧ ∀ (k : Nat) (v : Value), L[k]? = some v → ls[k]? = some (.val (shV b v))
def Go (F : FT) (nL : Nat) (M : Mem) (cs sl pc : Nat) (L st : List Value) : Prop := match F with
  | (p, l, e, R, s, m, args, below, meth, c, Q, b, D, cy) => ∀ (H : Heap) (locs : List Loc) (ls : Array Slot), Hold b D cy M H → va_S (fun q => b ≤ q) s.heap H locs → LH b ls nL L → W p l e R s m args below meth c H locs cs sl Q (F0 m pc ls (st.map (shV b)))
def Fok (F : FT) (cc : ByteArray) (nL : Nat) (own : String) (ret : Option FieldType) : Prop := match F with
  | (p, l, e, R, s, m, args, below, meth, c, Q, b, D, cy) => p.tables.exec = Jvm.exec ∧ c.code = cc ∧ c.maxLocals = nL ∧ s.vm.findClass own = some m.cls ∧ (∀ w ∈ lw_ws, w.before args s = true) ∧ va_K D cl9 (tyZ cy) s ∧ meth.sig.returnType = ret ∧ meth.locks = false ∧ b ≤ s.heap.size
def Dc (cc : ByteArray) (pc : Nat) (i : Instr) (n pc' : Nat) : Prop := decode cc pc = .ok (i, n) ∧ pc + n = pc'
theorem gt_up (M : Mem) (k j : Nat) (c : Ce) : gt (up M k c) j = if j = k then some c else gt M j := rfl
theorem gt_nw (M : Mem) (j : Nat) (c : Ce) : gt (nw M c) j = if j = M.1 then some c else gt M j := rfl
theorem Hold.lt {b : Nat} {D : va_G} {cy : ClassId × ClassId} {M : Mem} {H : Heap} (h : Hold b D cy M H) {k : Nat} {c : Ce} (hk : gt M k = some c) : k < M.1 := by
  have h1 : b + k < H.size := (h.2 k c hk).lt
  have h2 := h.1
  omega
theorem Hold.one {b : Nat} {D : va_G} {cy : ClassId × ClassId} {M : Mem} {H : Heap} (h : Hold b D cy M H) {k : Nat} {c : Ce} (hk : gt M k = some c) : va_P D cl9 [(b + k, toE b cy c)] H := by
  intro i q hq
  match i, hq with
  | 0, hq => cases hq; exact h.2 k c hk
  | i + 1, hq => simp at hq
def setL : Nat → Value → List Value → List Value
  | 0, v, [] => [v]
  | 0, v, _ :: t => v :: t
  | _ + 1, _, [] => []
  | k + 1, v, h :: t => h :: setL k v t
theorem setL_get : ∀ (k : Nat) (v : Value) (L : List Value) (j : Nat) (u : Value), (setL k v L)[j]? = some u → (j = k ∧ u = v) ∨ (j ≠ k ∧ L[j]? = some u)
  | 0, v, [], j, u, h => by
    match j, h with
    | 0, h => cases h; exact Or.inl ⟨rfl, rfl⟩
    | j + 1, h => simp [setL] at h
  | 0, v, a :: t, j, u, h => by
    match j, h with
    | 0, h => cases h; exact Or.inl ⟨rfl, rfl⟩
    | j + 1, h => exact Or.inr ⟨by omega, h⟩
  | k + 1, v, [], j, u, h => by simp [setL] at h
  | k + 1, v, a :: t, j, u, h => by
    match j, h with
    | 0, h => exact Or.inr ⟨by omega, h⟩
    | j + 1, h =>
      rcases setL_get k v t j u h with ⟨h1, h2⟩ | ⟨h1, h2⟩
      · exact Or.inl ⟨by omega, h2⟩
      · exact Or.inr ⟨by omega, h2⟩
def en (b : Nat) (L : List Value) : List (Nat × Value) := (List.range L.length).filterMap (fun k => (L[k]?).map (fun v => (k, shV b v)))
theorem en_mem {b : Nat} {L : List Value} {k : Nat} {v : Value} (h : L[k]? = some v) : (k, shV b v) ∈ en b L := by
  refine List.mem_filterMap.mpr ⟨k, List.mem_range.mpr (List.getElem?_eq_some_iff.mp h).1, ?_⟩
  rw [h]; rfl
theorem LH.has {b : Nat} {ls : Array Slot} {nL : Nat} {L : List Value} (h : LH b ls nL L) : lv_has ls nL (en b L) := by
  refine ⟨h.1, h.2.1, fun q hq => ?_⟩
  obtain ⟨k, hk, hk2⟩ := List.mem_filterMap.mp hq
  cases hL : L[k]? with
  | none => rw [hL] at hk2; cases hk2
  | some v =>
    rw [hL] at hk2
    cases hk2
    exact h.2.2 k v hL
theorem LH.store {b : Nat} {ls' : Array Slot} {nL i : Nat} {L L' : List Value} {v : Value} (hc : v.category = 1) (hL : setL i v L = L') (h : lv_has ls' nL ((i, shV b v) :: (en b L).filter (fun q => !(q.1 == i) && !(q.1 + 1 == i && q.2.category == 2)))) (h2 : ∀ (k : Nat) (u : Value), L[k]? = some u → (shV b u).category = 1) : LH b ls' nL L' := by
  refine ⟨h.1, h.2.1, fun k u hu => ?_⟩
  subst hL
  rcases setL_get i v L k u hu with ⟨rfl, rfl⟩ | ⟨h3, h4⟩
  · exact h.2.2 (k, shV b u) List.mem_cons_self
  · refine h.2.2 (k, shV b u) (List.mem_cons_of_mem _ (List.mem_filter.mpr ⟨en_mem h4, ?_⟩))
    have := h2 k u h4
    simp [h3, this]
def c1 : List Value → Bool
  | [] => true
  | v :: t => decide (v.category = 1) && c1 t
theorem shV_cat (b : Nat) (v : Value) : (shV b v).category = v.category := by cases v <;> rfl
theorem c1_cat {b : Nat} : ∀ {L : List Value}, c1 L = true → ∀ (k : Nat) (u : Value), L[k]? = some u → (shV b u).category = 1
  | [], _, k, u, h => by simp at h
  | v :: t, hc, k, u, h => by
    simp only [c1, Bool.and_eq_true, decide_eq_true_eq] at hc
    match k, h with
    | 0, h => cases h; rw [shV_cat]; exact hc.1
    | k + 1, h => exact c1_cat hc.2 k u h
theorem LH.sub {b : Nat} {ls : Array Slot} {nL : Nat} {L L' : List Value} (h : LH b ls nL L) (hs : L' <+: L) : LH b ls nL L' := by
  refine ⟨h.1, h.2.1, fun k v hv => h.2.2 k v ?_⟩
  obtain ⟨t, rfl⟩ := hs
  rw [List.getElem?_append_left (List.getElem?_eq_some_iff.mp hv).1]
  exact hv
section RULES
variable {F : FT} {cc : ByteArray} {nL : Nat} {own : String} {ret : Option FieldType} {M : Mem} {cs sl pc pc' : Nat} {L st : List Value}
theorem Go.cut (L' : List Value) (n : Nat) (hn : L.take n = L') (k : Go F nL M cs sl pc L' st) : Go F nL M cs sl pc L st := by
  obtain ⟨p, l, e, R, s, m, args, below, meth, c, Q, b, D, cy⟩ := F
  intro H locs ls hH hS hl
  exact k H locs ls hH hS (hl.sub (by rw [← hn]; exact List.take_prefix n L))
theorem go_iconst (h : Fok F cc nL own ret) {n : Int} {v : Int32} (hd : Dc cc pc (.iconst n) 1 pc') (hv : Int32.ofInt n = v) (k : Go F nL M cs sl pc' L (.int v :: st)) : Go F nL M cs sl pc L st := by
  obtain ⟨p, l, e, R, s, m, args, below, meth, c, Q, b, D, cy⟩ := F
  obtain ⟨hx, hb, hml, hown, hts, hK, hr, hlk, hbs⟩ := h
  obtain ⟨hd, rfl⟩ := hd
  intro H locs ls hH hS hl
  exact lv_iconst hx hb hd hv (k H locs ls hH hS hl)
theorem go_bipush (h : Fok F cc nL own ret) {n : Int} {v : Int32} (hd : Dc cc pc (.bipush n) 2 pc') (hv : (Int8.ofInt n).toInt32 = v) (k : Go F nL M cs sl pc' L (.int v :: st)) : Go F nL M cs sl pc L st := by
  obtain ⟨p, l, e, R, s, m, args, below, meth, c, Q, b, D, cy⟩ := F
  obtain ⟨hx, hb, hml, hown, hts, hK, hr, hlk, hbs⟩ := h
  obtain ⟨hd, rfl⟩ := hd
  intro H locs ls hH hS hl
  exact lv_bipush hx hb hd hv (k H locs ls hH hS hl)
theorem go_sipush (h : Fok F cc nL own ret) {n : Int} {v : Int32} (hd : Dc cc pc (.sipush n) 3 pc') (hv : (Int16.ofInt n).toInt32 = v) (k : Go F nL M cs sl pc' L (.int v :: st)) : Go F nL M cs sl pc L st := by
  obtain ⟨p, l, e, R, s, m, args, below, meth, c, Q, b, D, cy⟩ := F
  obtain ⟨hx, hb, hml, hown, hts, hK, hr, hlk, hbs⟩ := h
  obtain ⟨hd, rfl⟩ := hd
  intro H locs ls hH hS hl
  exact lv_sipush hx hb hd hv (k H locs ls hH hS hl)
theorem go_lconst (h : Fok F cc nL own ret) {n : Fin 2} {v : Int64} (hd : Dc cc pc (.lconst n) 1 pc') (hv : Int64.ofNat (n : Nat) = v) (k : Go F nL M cs sl pc' L (.long v :: st)) : Go F nL M cs sl pc L st := by
  obtain ⟨p, l, e, R, s, m, args, below, meth, c, Q, b, D, cy⟩ := F
  obtain ⟨hx, hb, hml, hown, hts, hK, hr, hlk, hbs⟩ := h
  obtain ⟨hd, rfl⟩ := hd
  intro H locs ls hH hS hl
  exact lv_lconst hx hb hd hv (k H locs ls hH hS hl)
theorem go_iload_n (h : Fok F cc nL own ret) {i : Fin 4} {x : Int32} (hd : Dc cc pc (.iload_n i) 1 pc') (hi : L[(i : Nat)]? = some (.int x)) (k : Go F nL M cs sl pc' L (.int x :: st)) : Go F nL M cs sl pc L st := by
  obtain ⟨p, l, e, R, s, m, args, below, meth, c, Q, b, D, cy⟩ := F
  obtain ⟨hx, hb, hml, hown, hts, hK, hr, hlk, hbs⟩ := h
  obtain ⟨hd, rfl⟩ := hd
  intro H locs ls hH hS hl
  exact lv_iload_n hx hb hd rfl (hl.2.2 _ _ hi) (k H locs ls hH hS hl)
theorem go_iload (h : Fok F cc nL own ret) {i : Nat} {x : Int32} (hd : Dc cc pc (.iload i) 2 pc') (hi : L[i]? = some (.int x)) (k : Go F nL M cs sl pc' L (.int x :: st)) : Go F nL M cs sl pc L st := by
  obtain ⟨p, l, e, R, s, m, args, below, meth, c, Q, b, D, cy⟩ := F
  obtain ⟨hx, hb, hml, hown, hts, hK, hr, hlk, hbs⟩ := h
  obtain ⟨hd, rfl⟩ := hd
  intro H locs ls hH hS hl
  exact lv_iload hx hb hd (hl.2.2 _ _ hi) (k H locs ls hH hS hl)
theorem go_aload_n (h : Fok F cc nL own ret) {i : Fin 4} {x : Nat} (hd : Dc cc pc (.aload_n i) 1 pc') (hi : L[(i : Nat)]? = some (.ref x)) (k : Go F nL M cs sl pc' L (.ref x :: st)) : Go F nL M cs sl pc L st := by
  obtain ⟨p, l, e, R, s, m, args, below, meth, c, Q, b, D, cy⟩ := F
  obtain ⟨hx, hb, hml, hown, hts, hK, hr, hlk, hbs⟩ := h
  obtain ⟨hd, rfl⟩ := hd
  intro H locs ls hH hS hl
  exact lv_aload_n hx hb hd rfl (hl.2.2 _ _ hi) (k H locs ls hH hS hl)
theorem go_aload (h : Fok F cc nL own ret) {i : Nat} {x : Nat} (hd : Dc cc pc (.aload i) 2 pc') (hi : L[i]? = some (.ref x)) (k : Go F nL M cs sl pc' L (.ref x :: st)) : Go F nL M cs sl pc L st := by
  obtain ⟨p, l, e, R, s, m, args, below, meth, c, Q, b, D, cy⟩ := F
  obtain ⟨hx, hb, hml, hown, hts, hK, hr, hlk, hbs⟩ := h
  obtain ⟨hd, rfl⟩ := hd
  intro H locs ls hH hS hl
  exact lv_aload hx hb hd (hl.2.2 _ _ hi) (k H locs ls hH hS hl)
theorem go_istore_n (h : Fok F cc nL own ret) {i : Fin 4} {x : Int32} {L' : List Value} (hd : Dc cc pc (.istore_n i) 1 pc') (hn : (i : Nat) < nL) (hc : c1 L = true) (hL : setL (i : Nat) (.int x) L = L') (k : Go F nL M cs sl pc' L' st) : Go F nL M cs sl pc L (.int x :: st) := by
  obtain ⟨p, l, e, R, s, m, args, below, meth, c, Q, b, D, cy⟩ := F
  obtain ⟨hx, hb, hml, hown, hts, hK, hr, hlk, hbs⟩ := h
  obtain ⟨hd, rfl⟩ := hd
  intro H locs ls hH hS hl
  exact lv_istore_n hx hb hd rfl hl.has hn rfl (fun ls1 h1 => k H locs ls1 hH hS (LH.store (v := .int x) rfl hL h1 (c1_cat hc)))
theorem go_istore (h : Fok F cc nL own ret) {i : Nat} {x : Int32} {L' : List Value} (hd : Dc cc pc (.istore i) 2 pc') (hn : i < nL) (hc : c1 L = true) (hL : setL i (.int x) L = L') (k : Go F nL M cs sl pc' L' st) : Go F nL M cs sl pc L (.int x :: st) := by
  obtain ⟨p, l, e, R, s, m, args, below, meth, c, Q, b, D, cy⟩ := F
  obtain ⟨hx, hb, hml, hown, hts, hK, hr, hlk, hbs⟩ := h
  obtain ⟨hd, rfl⟩ := hd
  intro H locs ls hH hS hl
  exact lv_istore hx hb hd hl.has hn rfl (fun ls1 h1 => k H locs ls1 hH hS (LH.store (v := .int x) rfl hL h1 (c1_cat hc)))
theorem go_astore_n (h : Fok F cc nL own ret) {i : Fin 4} {x : Nat} {L' : List Value} (hd : Dc cc pc (.astore_n i) 1 pc') (hn : (i : Nat) < nL) (hc : c1 L = true) (hL : setL (i : Nat) (.ref x) L = L') (k : Go F nL M cs sl pc' L' st) : Go F nL M cs sl pc L (.ref x :: st) := by
  obtain ⟨p, l, e, R, s, m, args, below, meth, c, Q, b, D, cy⟩ := F
  obtain ⟨hx, hb, hml, hown, hts, hK, hr, hlk, hbs⟩ := h
  obtain ⟨hd, rfl⟩ := hd
  intro H locs ls hH hS hl
  exact lv_astore_n hx hb hd rfl hl.has hn rfl (fun ls1 h1 => k H locs ls1 hH hS (LH.store (v := .ref x) rfl hL h1 (c1_cat hc)))
theorem go_astore (h : Fok F cc nL own ret) {i : Nat} {x : Nat} {L' : List Value} (hd : Dc cc pc (.astore i) 2 pc') (hn : i < nL) (hc : c1 L = true) (hL : setL i (.ref x) L = L') (k : Go F nL M cs sl pc' L' st) : Go F nL M cs sl pc L (.ref x :: st) := by
  obtain ⟨p, l, e, R, s, m, args, below, meth, c, Q, b, D, cy⟩ := F
  obtain ⟨hx, hb, hml, hown, hts, hK, hr, hlk, hbs⟩ := h
  obtain ⟨hd, rfl⟩ := hd
  intro H locs ls hH hS hl
  exact lv_astore hx hb hd hl.has hn rfl (fun ls1 h1 => k H locs ls1 hH hS (LH.store (v := .ref x) rfl hL h1 (c1_cat hc)))
theorem go_iinc (h : Fok F cc nL own ret) {i : Nat} {n : Int} {x v : Int32} {L' : List Value} (hd : Dc cc pc (.iinc i n) 3 pc') (hi : L[i]? = some (.int x)) (hv : x + Int32.ofInt n = v) (hn : i < nL) (hc : c1 L = true) (hL : setL i (.int v) L = L') (k : Go F nL M cs sl pc' L' st) : Go F nL M cs sl pc L st := by
  obtain ⟨p, l, e, R, s, m, args, below, meth, c, Q, b, D, cy⟩ := F
  obtain ⟨hx, hb, hml, hown, hts, hK, hr, hlk, hbs⟩ := h
  obtain ⟨hd, rfl⟩ := hd
  intro H locs ls hH hS hl
  obtain ⟨j, hj⟩ := List.getElem?_of_mem (en_mem (b := b) hi)
  exact lv_iinc hx hb hd hl.has (k := j) (x := x) hj hv hn rfl (fun ls1 h1 => k H locs ls1 hH hS (LH.store (v := .int v) rfl hL h1 (c1_cat hc)))
theorem go_iadd (h : Fok F cc nL own ret) {x y : Int32} (hd : Dc cc pc .iadd 1 pc') (k : Go F nL M cs sl pc' L (.int (x + y) :: st)) : Go F nL M cs sl pc L (.int y :: .int x :: st) := by
  obtain ⟨p, l, e, R, s, m, args, below, meth, c, Q, b, D, cy⟩ := F
  obtain ⟨hx, hb, hml, hown, hts, hK, hr, hlk, hbs⟩ := h
  obtain ⟨hd, rfl⟩ := hd
  intro H locs ls hH hS hl
  exact lv_iadd hx hb hd (k H locs ls hH hS hl)
theorem go_isub (h : Fok F cc nL own ret) {x y : Int32} (hd : Dc cc pc .isub 1 pc') (k : Go F nL M cs sl pc' L (.int (x - y) :: st)) : Go F nL M cs sl pc L (.int y :: .int x :: st) := by
  obtain ⟨p, l, e, R, s, m, args, below, meth, c, Q, b, D, cy⟩ := F
  obtain ⟨hx, hb, hml, hown, hts, hK, hr, hlk, hbs⟩ := h
  obtain ⟨hd, rfl⟩ := hd
  intro H locs ls hH hS hl
  exact lv_isub hx hb hd (k H locs ls hH hS hl)
theorem go_imul (h : Fok F cc nL own ret) {x y : Int32} (hd : Dc cc pc .imul 1 pc') (k : Go F nL M cs sl pc' L (.int (x * y) :: st)) : Go F nL M cs sl pc L (.int y :: .int x :: st) := by
  obtain ⟨p, l, e, R, s, m, args, below, meth, c, Q, b, D, cy⟩ := F
  obtain ⟨hx, hb, hml, hown, hts, hK, hr, hlk, hbs⟩ := h
  obtain ⟨hd, rfl⟩ := hd
  intro H locs ls hH hS hl
  exact lv_imul hx hb hd (k H locs ls hH hS hl)
theorem go_iand (h : Fok F cc nL own ret) {x y : Int32} (hd : Dc cc pc .iand 1 pc') (k : Go F nL M cs sl pc' L (.int (x &&& y) :: st)) : Go F nL M cs sl pc L (.int y :: .int x :: st) := by
  obtain ⟨p, l, e, R, s, m, args, below, meth, c, Q, b, D, cy⟩ := F
  obtain ⟨hx, hb, hml, hown, hts, hK, hr, hlk, hbs⟩ := h
  obtain ⟨hd, rfl⟩ := hd
  intro H locs ls hH hS hl
  exact lv_iand hx hb hd (k H locs ls hH hS hl)
theorem go_ior (h : Fok F cc nL own ret) {x y : Int32} (hd : Dc cc pc .ior 1 pc') (k : Go F nL M cs sl pc' L (.int (x ||| y) :: st)) : Go F nL M cs sl pc L (.int y :: .int x :: st) := by
  obtain ⟨p, l, e, R, s, m, args, below, meth, c, Q, b, D, cy⟩ := F
  obtain ⟨hx, hb, hml, hown, hts, hK, hr, hlk, hbs⟩ := h
  obtain ⟨hd, rfl⟩ := hd
  intro H locs ls hH hS hl
  exact lv_ior hx hb hd (k H locs ls hH hS hl)
theorem go_idiv (h : Fok F cc nL own ret) {x y : Int32} (hd : Dc cc pc .idiv 1 pc') (hne : ¬ y = 0) (k : Go F nL M cs sl pc' L (.int (x / y) :: st)) : Go F nL M cs sl pc L (.int y :: .int x :: st) := by
  obtain ⟨p, l, e, R, s, m, args, below, meth, c, Q, b, D, cy⟩ := F
  obtain ⟨hx, hb, hml, hown, hts, hK, hr, hlk, hbs⟩ := h
  obtain ⟨hd, rfl⟩ := hd
  intro H locs ls hH hS hl
  exact lv_idiv hx hb hd hne (k H locs ls hH hS hl)
theorem go_irem (h : Fok F cc nL own ret) {x y : Int32} (hd : Dc cc pc .irem 1 pc') (hne : ¬ y = 0) (k : Go F nL M cs sl pc' L (.int (x - x / y * y) :: st)) : Go F nL M cs sl pc L (.int y :: .int x :: st) := by
  obtain ⟨p, l, e, R, s, m, args, below, meth, c, Q, b, D, cy⟩ := F
  obtain ⟨hx, hb, hml, hown, hts, hK, hr, hlk, hbs⟩ := h
  obtain ⟨hd, rfl⟩ := hd
  intro H locs ls hH hS hl
  exact lv_irem hx hb hd hne (k H locs ls hH hS hl)
theorem go_ishl (h : Fok F cc nL own ret) {x y : Int32} (hd : Dc cc pc .ishl 1 pc') (k : Go F nL M cs sl pc' L (.int (x <<< (y &&& 31)) :: st)) : Go F nL M cs sl pc L (.int y :: .int x :: st) := by
  obtain ⟨p, l, e, R, s, m, args, below, meth, c, Q, b, D, cy⟩ := F
  obtain ⟨hx, hb, hml, hown, hts, hK, hr, hlk, hbs⟩ := h
  obtain ⟨hd, rfl⟩ := hd
  intro H locs ls hH hS hl
  exact lv_ishl hx hb hd (k H locs ls hH hS hl)
theorem go_ishr (h : Fok F cc nL own ret) {x y : Int32} (hd : Dc cc pc .ishr 1 pc') (k : Go F nL M cs sl pc' L (.int (x >>> (y &&& 31)) :: st)) : Go F nL M cs sl pc L (.int y :: .int x :: st) := by
  obtain ⟨p, l, e, R, s, m, args, below, meth, c, Q, b, D, cy⟩ := F
  obtain ⟨hx, hb, hml, hown, hts, hK, hr, hlk, hbs⟩ := h
  obtain ⟨hd, rfl⟩ := hd
  intro H locs ls hH hS hl
  exact lv_ishr hx hb hd (k H locs ls hH hS hl)
theorem go_iushr (h : Fok F cc nL own ret) {x y v : Int32} (hd : Dc cc pc .iushr 1 pc') (hv : (x.toUInt32 >>> (y.toUInt32 &&& Int32.toUInt32 31)).toInt32 = v) (k : Go F nL M cs sl pc' L (.int v :: st)) : Go F nL M cs sl pc L (.int y :: .int x :: st) := by
  obtain ⟨p, l, e, R, s, m, args, below, meth, c, Q, b, D, cy⟩ := F
  obtain ⟨hx, hb, hml, hown, hts, hK, hr, hlk, hbs⟩ := h
  obtain ⟨hd, rfl⟩ := hd
  intro H locs ls hH hS hl
  exact lv_iushr hx hb hd hv (k H locs ls hH hS hl)
theorem go_ineg (h : Fok F cc nL own ret) {x : Int32} (hd : Dc cc pc .ineg 1 pc') (k : Go F nL M cs sl pc' L (.int (-x) :: st)) : Go F nL M cs sl pc L (.int x :: st) := by
  obtain ⟨p, l, e, R, s, m, args, below, meth, c, Q, b, D, cy⟩ := F
  obtain ⟨hx, hb, hml, hown, hts, hK, hr, hlk, hbs⟩ := h
  obtain ⟨hd, rfl⟩ := hd
  intro H locs ls hH hS hl
  exact lv_ineg hx hb hd (k H locs ls hH hS hl)
theorem go_ladd (h : Fok F cc nL own ret) {x y : Int64} (hd : Dc cc pc .ladd 1 pc') (k : Go F nL M cs sl pc' L (.long (x + y) :: st)) : Go F nL M cs sl pc L (.long y :: .long x :: st) := by
  obtain ⟨p, l, e, R, s, m, args, below, meth, c, Q, b, D, cy⟩ := F
  obtain ⟨hx, hb, hml, hown, hts, hK, hr, hlk, hbs⟩ := h
  obtain ⟨hd, rfl⟩ := hd
  intro H locs ls hH hS hl
  exact lv_ladd hx hb hd (k H locs ls hH hS hl)
theorem go_lcmp (h : Fok F cc nL own ret) {x y : Int64} (hd : Dc cc pc .lcmp 1 pc') (k : Go F nL M cs sl pc' L (.int (lg_cmp x y) :: st)) : Go F nL M cs sl pc L (.long y :: .long x :: st) := by
  obtain ⟨p, l, e, R, s, m, args, below, meth, c, Q, b, D, cy⟩ := F
  obtain ⟨hx, hb, hml, hown, hts, hK, hr, hlk, hbs⟩ := h
  obtain ⟨hd, rfl⟩ := hd
  intro H locs ls hH hS hl
  exact W.lcmp hx hb hd (k H locs ls hH hS hl)
theorem go_dup (h : Fok F cc nL own ret) {v : Value} (hd : Dc cc pc .dup 1 pc') (hv : v.category = 1) (k : Go F nL M cs sl pc' L (v :: v :: st)) : Go F nL M cs sl pc L (v :: st) := by
  obtain ⟨p, l, e, R, s, m, args, below, meth, c, Q, b, D, cy⟩ := F
  obtain ⟨hx, hb, hml, hown, hts, hK, hr, hlk, hbs⟩ := h
  obtain ⟨hd, rfl⟩ := hd
  intro H locs ls hH hS hl
  exact lv_dup hx hb hd (by rw [shV_cat]; exact hv) (k H locs ls hH hS hl)
theorem go_pop (h : Fok F cc nL own ret) {v : Value} (hd : Dc cc pc .pop 1 pc') (hv : v.category = 1) (k : Go F nL M cs sl pc' L st) : Go F nL M cs sl pc L (v :: st) := by
  obtain ⟨p, l, e, R, s, m, args, below, meth, c, Q, b, D, cy⟩ := F
  obtain ⟨hx, hb, hml, hown, hts, hK, hr, hlk, hbs⟩ := h
  obtain ⟨hd, rfl⟩ := hd
  intro H locs ls hH hS hl
  exact lv_pop hx hb hd (by rw [shV_cat]; exact hv) (k H locs ls hH hS hl)
theorem go_dup2 (h : Fok F cc nL own ret) {v u : Value} (hd : Dc cc pc .dup2 1 pc') (hv : v.category = 1) (hu : u.category = 1) (k : Go F nL M cs sl pc' L (v :: u :: v :: u :: st)) : Go F nL M cs sl pc L (v :: u :: st) := by
  obtain ⟨p, l, e, R, s, m, args, below, meth, c, Q, b, D, cy⟩ := F
  obtain ⟨hx, hb, hml, hown, hts, hK, hr, hlk, hbs⟩ := h
  obtain ⟨hd, rfl⟩ := hd
  intro H locs ls hH hS hl
  exact lv_dup2_11 hx hb hd (by rw [shV_cat]; exact hv) (by rw [shV_cat]; exact hu) (k H locs ls hH hS hl)
theorem go_ldc (h : Fok F cc nL own ret) {i : Nat} {v : Int32} (hd : Dc cc pc (.ldc i) 2 pc') (hc : Cond.constant own i v ∈ lw_ws) (k : Go F nL M cs sl pc' L (.int v :: st)) : Go F nL M cs sl pc L st := by
  obtain ⟨p, l, e, R, s, m, args, below, meth, c, Q, b, D, cy⟩ := F
  obtain ⟨hx, hb, hml, hown, hts, hK, hr, hlk, hbs⟩ := h
  obtain ⟨hd, rfl⟩ := hd
  intro H locs ls hH hS hl
  exact lv_ldc hx hb hown (hts _ hc) hd (k H locs ls hH hS hl)
theorem go_ldc_w (h : Fok F cc nL own ret) {i : Nat} {v : Int32} (hd : Dc cc pc (.ldc_w i) 3 pc') (hc : Cond.constant own i v ∈ lw_ws) (k : Go F nL M cs sl pc' L (.int v :: st)) : Go F nL M cs sl pc L st := by
  obtain ⟨p, l, e, R, s, m, args, below, meth, c, Q, b, D, cy⟩ := F
  obtain ⟨hx, hb, hml, hown, hts, hK, hr, hlk, hbs⟩ := h
  obtain ⟨hd, rfl⟩ := hd
  intro H locs ls hH hS hl
  exact lv_ldcw hx hb hown (hts _ hc) hd (k H locs ls hH hS hl)
theorem go_ldc2 (h : Fok F cc nL own ret) {i : Nat} {v : Int64} (hd : Dc cc pc (.ldc2_w i) 3 pc') (hc : Cond.constantLong own i v ∈ lw_ws) (k : Go F nL M cs sl pc' L (.long v :: st)) : Go F nL M cs sl pc L st := by
  obtain ⟨p, l, e, R, s, m, args, below, meth, c, Q, b, D, cy⟩ := F
  obtain ⟨hx, hb, hml, hown, hts, hK, hr, hlk, hbs⟩ := h
  obtain ⟨hd, rfl⟩ := hd
  intro H locs ls hH hS hl
  exact lv_ldc2 hx hb hown (hts _ hc) hd (k H locs ls hH hS hl)
theorem go_goto (h : Fok F cc nL own ret) {off : Int} {tgt n : Nat} (hd : decode cc pc = .ok (.goto off, 3)) (ht : (pc : Int) + off = (tgt : Int)) (k : Go F nL M cs sl tgt L st) : Go F nL M cs sl pc L st := by
  obtain ⟨p, l, e, R, s, m, args, below, meth, c, Q, b, D, cy⟩ := F
  obtain ⟨hx, hb, hml, hown, hts, hK, hr, hlk, hbs⟩ := h
  intro H locs ls hH hS hl
  exact lv_goto hx hb hd ht (k H locs ls hH hS hl)
theorem go_icmp_eq (h : Fok F cc nL own ret) {x y : Int32} {off : Int} {tgt : Nat} (hd : decode cc pc = .ok (.if_icmp .eq off, 3)) (ht : (pc : Int) + off = (tgt : Int)) (hp : pc + 3 = pc') (kt : x = y → Go F nL M cs sl tgt L st) (kf : ¬ x = y → Go F nL M cs sl pc' L st) : Go F nL M cs sl pc L (.int y :: .int x :: st) := by
  obtain ⟨p, l, e, R, s, m, args, below, meth, c, Q, b, D, cy⟩ := F
  obtain ⟨hx, hb, hml, hown, hts, hK, hr, hlk, hbs⟩ := h
  subst hp
  intro H locs ls hH hS hl
  exact lv_icmp_eq hx hb hd ht (fun q => kt q H locs ls hH hS hl) (fun q => kf q H locs ls hH hS hl)
theorem go_icmp_ne (h : Fok F cc nL own ret) {x y : Int32} {off : Int} {tgt : Nat} (hd : decode cc pc = .ok (.if_icmp .ne off, 3)) (ht : (pc : Int) + off = (tgt : Int)) (hp : pc + 3 = pc') (kt : ¬ x = y → Go F nL M cs sl tgt L st) (kf : x = y → Go F nL M cs sl pc' L st) : Go F nL M cs sl pc L (.int y :: .int x :: st) := by
  obtain ⟨p, l, e, R, s, m, args, below, meth, c, Q, b, D, cy⟩ := F
  obtain ⟨hx, hb, hml, hown, hts, hK, hr, hlk, hbs⟩ := h
  subst hp
  intro H locs ls hH hS hl
  exact lv_icmp_ne hx hb hd ht (fun q => kt q H locs ls hH hS hl) (fun q => kf q H locs ls hH hS hl)
theorem go_icmp_lt (h : Fok F cc nL own ret) {x y : Int32} {off : Int} {tgt : Nat} (hd : decode cc pc = .ok (.if_icmp .lt off, 3)) (ht : (pc : Int) + off = (tgt : Int)) (hp : pc + 3 = pc') (kt : x < y → Go F nL M cs sl tgt L st) (kf : ¬ x < y → Go F nL M cs sl pc' L st) : Go F nL M cs sl pc L (.int y :: .int x :: st) := by
  obtain ⟨p, l, e, R, s, m, args, below, meth, c, Q, b, D, cy⟩ := F
  obtain ⟨hx, hb, hml, hown, hts, hK, hr, hlk, hbs⟩ := h
  subst hp
  intro H locs ls hH hS hl
  exact lv_icmp_lt hx hb hd ht (fun q => kt q H locs ls hH hS hl) (fun q => kf q H locs ls hH hS hl)
theorem go_icmp_ge (h : Fok F cc nL own ret) {x y : Int32} {off : Int} {tgt : Nat} (hd : decode cc pc = .ok (.if_icmp .ge off, 3)) (ht : (pc : Int) + off = (tgt : Int)) (hp : pc + 3 = pc') (kt : y ≤ x → Go F nL M cs sl tgt L st) (kf : ¬ y ≤ x → Go F nL M cs sl pc' L st) : Go F nL M cs sl pc L (.int y :: .int x :: st) := by
  obtain ⟨p, l, e, R, s, m, args, below, meth, c, Q, b, D, cy⟩ := F
  obtain ⟨hx, hb, hml, hown, hts, hK, hr, hlk, hbs⟩ := h
  subst hp
  intro H locs ls hH hS hl
  exact lv_icmp_ge hx hb hd ht (fun q => kt q H locs ls hH hS hl) (fun q => kf q H locs ls hH hS hl)
theorem go_icmp_gt (h : Fok F cc nL own ret) {x y : Int32} {off : Int} {tgt : Nat} (hd : decode cc pc = .ok (.if_icmp .gt off, 3)) (ht : (pc : Int) + off = (tgt : Int)) (hp : pc + 3 = pc') (kt : y < x → Go F nL M cs sl tgt L st) (kf : ¬ y < x → Go F nL M cs sl pc' L st) : Go F nL M cs sl pc L (.int y :: .int x :: st) := by
  obtain ⟨p, l, e, R, s, m, args, below, meth, c, Q, b, D, cy⟩ := F
  obtain ⟨hx, hb, hml, hown, hts, hK, hr, hlk, hbs⟩ := h
  subst hp
  intro H locs ls hH hS hl
  exact lv_icmp_gt hx hb hd ht (fun q => kt q H locs ls hH hS hl) (fun q => kf q H locs ls hH hS hl)
theorem go_icmp_le (h : Fok F cc nL own ret) {x y : Int32} {off : Int} {tgt : Nat} (hd : decode cc pc = .ok (.if_icmp .le off, 3)) (ht : (pc : Int) + off = (tgt : Int)) (hp : pc + 3 = pc') (kt : x ≤ y → Go F nL M cs sl tgt L st) (kf : ¬ x ≤ y → Go F nL M cs sl pc' L st) : Go F nL M cs sl pc L (.int y :: .int x :: st) := by
  obtain ⟨p, l, e, R, s, m, args, below, meth, c, Q, b, D, cy⟩ := F
  obtain ⟨hx, hb, hml, hown, hts, hK, hr, hlk, hbs⟩ := h
  subst hp
  intro H locs ls hH hS hl
  exact lv_icmp_le hx hb hd ht (fun q => kt q H locs ls hH hS hl) (fun q => kf q H locs ls hH hS hl)
theorem go_if_eq (h : Fok F cc nL own ret) {x : Int32} {off : Int} {tgt : Nat} (hd : decode cc pc = .ok (.ifCond .eq off, 3)) (ht : (pc : Int) + off = (tgt : Int)) (hp : pc + 3 = pc') (kt : x = 0 → Go F nL M cs sl tgt L st) (kf : ¬ x = 0 → Go F nL M cs sl pc' L st) : Go F nL M cs sl pc L (.int x :: st) := by
  obtain ⟨p, l, e, R, s, m, args, below, meth, c, Q, b, D, cy⟩ := F
  obtain ⟨hx, hb, hml, hown, hts, hK, hr, hlk, hbs⟩ := h
  subst hp
  intro H locs ls hH hS hl
  exact lv_if_eq hx hb hd ht (fun q => kt q H locs ls hH hS hl) (fun q => kf q H locs ls hH hS hl)
theorem go_if_ne (h : Fok F cc nL own ret) {x : Int32} {off : Int} {tgt : Nat} (hd : decode cc pc = .ok (.ifCond .ne off, 3)) (ht : (pc : Int) + off = (tgt : Int)) (hp : pc + 3 = pc') (kt : ¬ x = 0 → Go F nL M cs sl tgt L st) (kf : x = 0 → Go F nL M cs sl pc' L st) : Go F nL M cs sl pc L (.int x :: st) := by
  obtain ⟨p, l, e, R, s, m, args, below, meth, c, Q, b, D, cy⟩ := F
  obtain ⟨hx, hb, hml, hown, hts, hK, hr, hlk, hbs⟩ := h
  subst hp
  intro H locs ls hH hS hl
  exact lv_if_ne hx hb hd ht (fun q => kt q H locs ls hH hS hl) (fun q => kf q H locs ls hH hS hl)
theorem go_if_lt (h : Fok F cc nL own ret) {x : Int32} {off : Int} {tgt : Nat} (hd : decode cc pc = .ok (.ifCond .lt off, 3)) (ht : (pc : Int) + off = (tgt : Int)) (hp : pc + 3 = pc') (kt : x < 0 → Go F nL M cs sl tgt L st) (kf : ¬ x < 0 → Go F nL M cs sl pc' L st) : Go F nL M cs sl pc L (.int x :: st) := by
  obtain ⟨p, l, e, R, s, m, args, below, meth, c, Q, b, D, cy⟩ := F
  obtain ⟨hx, hb, hml, hown, hts, hK, hr, hlk, hbs⟩ := h
  subst hp
  intro H locs ls hH hS hl
  exact lv_if_lt hx hb hd ht (fun q => kt q H locs ls hH hS hl) (fun q => kf q H locs ls hH hS hl)
theorem go_if_ge (h : Fok F cc nL own ret) {x : Int32} {off : Int} {tgt : Nat} (hd : decode cc pc = .ok (.ifCond .ge off, 3)) (ht : (pc : Int) + off = (tgt : Int)) (hp : pc + 3 = pc') (kt : 0 ≤ x → Go F nL M cs sl tgt L st) (kf : ¬ 0 ≤ x → Go F nL M cs sl pc' L st) : Go F nL M cs sl pc L (.int x :: st) := by
  obtain ⟨p, l, e, R, s, m, args, below, meth, c, Q, b, D, cy⟩ := F
  obtain ⟨hx, hb, hml, hown, hts, hK, hr, hlk, hbs⟩ := h
  subst hp
  intro H locs ls hH hS hl
  exact lv_if_ge hx hb hd ht (fun q => kt q H locs ls hH hS hl) (fun q => kf q H locs ls hH hS hl)
theorem go_if_gt (h : Fok F cc nL own ret) {x : Int32} {off : Int} {tgt : Nat} (hd : decode cc pc = .ok (.ifCond .gt off, 3)) (ht : (pc : Int) + off = (tgt : Int)) (hp : pc + 3 = pc') (kt : 0 < x → Go F nL M cs sl tgt L st) (kf : ¬ 0 < x → Go F nL M cs sl pc' L st) : Go F nL M cs sl pc L (.int x :: st) := by
  obtain ⟨p, l, e, R, s, m, args, below, meth, c, Q, b, D, cy⟩ := F
  obtain ⟨hx, hb, hml, hown, hts, hK, hr, hlk, hbs⟩ := h
  subst hp
  intro H locs ls hH hS hl
  exact lv_if_gt hx hb hd ht (fun q => kt q H locs ls hH hS hl) (fun q => kf q H locs ls hH hS hl)
theorem go_if_le (h : Fok F cc nL own ret) {x : Int32} {off : Int} {tgt : Nat} (hd : decode cc pc = .ok (.ifCond .le off, 3)) (ht : (pc : Int) + off = (tgt : Int)) (hp : pc + 3 = pc') (kt : x ≤ 0 → Go F nL M cs sl tgt L st) (kf : ¬ x ≤ 0 → Go F nL M cs sl pc' L st) : Go F nL M cs sl pc L (.int x :: st) := by
  obtain ⟨p, l, e, R, s, m, args, below, meth, c, Q, b, D, cy⟩ := F
  obtain ⟨hx, hb, hml, hown, hts, hK, hr, hlk, hbs⟩ := h
  subst hp
  intro H locs ls hH hS hl
  exact lv_if_le hx hb hd ht (fun q => kt q H locs ls hH hS hl) (fun q => kf q H locs ls hH hS hl)
theorem go_tabOut (h : Fok F cc nL own ret) {dflt lo hi : Int} {offs : Array Int} {len : Nat} {x : Int32} {tgt : Nat} (hd : decode cc pc = .ok (.tableswitch dflt lo hi offs, len)) (hq : x.toInt < lo ∨ hi < x.toInt) (ht : (pc : Int) + dflt = (tgt : Int)) (k : Go F nL M cs sl tgt L st) : Go F nL M cs sl pc L (.int x :: st) := by
  obtain ⟨p, l, e, R, s, m, args, below, meth, c, Q, b, D, cy⟩ := F
  obtain ⟨hx, hb, hml, hown, hts, hK, hr, hlk, hbs⟩ := h
  intro H locs ls hH hS hl
  exact lv_tableOut hx hb hd hq ht (k H locs ls hH hS hl)
theorem go_tabIn (h : Fok F cc nL own ret) {dflt lo hi : Int} {offs : Array Int} {len : Nat} {x : Int32} {off : Int} {tgt : Nat} (hd : decode cc pc = .ok (.tableswitch dflt lo hi offs, len)) (h1 : ¬ x.toInt < lo) (h2 : ¬ hi < x.toInt) (ho : offs[(x.toInt - lo).toNat]? = some off) (ht : (pc : Int) + off = (tgt : Int)) (k : Go F nL M cs sl tgt L st) : Go F nL M cs sl pc L (.int x :: st) := by
  obtain ⟨p, l, e, R, s, m, args, below, meth, c, Q, b, D, cy⟩ := F
  obtain ⟨hx, hb, hml, hown, hts, hK, hr, hlk, hbs⟩ := h
  intro H locs ls hH hS hl
  exact lv_tableIn hx hb hd h1 h2 ho ht (k H locs ls hH hS hl)
theorem go_lookup (h : Fok F cc nL own ret) {dflt : Int} {ps : Array (Int × Int)} {len : Nat} {x : Int32} {off : Int} {tgt : Nat} (hd : decode cc pc = .ok (.lookupswitch dflt ps, len)) (hp : (ps.toList.zip (ps.toList.drop 1)).all (fun (a, next) => a.1 < next.1) = true) (ho : Op.lookupswitch.offset ps.toList dflt x.toInt = off) (ht : (pc : Int) + off = (tgt : Int)) (k : Go F nL M cs sl tgt L st) : Go F nL M cs sl pc L (.int x :: st) := by
  obtain ⟨p, l, e, R, s, m, args, below, meth, c, Q, b, D, cy⟩ := F
  obtain ⟨hx, hb, hml, hown, hts, hK, hr, hlk, hbs⟩ := h
  intro H locs ls hH hS hl
  exact lv_lookup hx hb hd hp ho ht (k H locs ls hH hS hl)
end RULES
end
section
/-! the heap: fields, arrays, new cells -/
theorem Hold.set {b : Nat} {D : va_G} {cy : ClassId × ClassId} {M : Mem} {H H1 : Heap} {k : Nat} {c0 c : Ce} (h : Hold b D cy M H) (hk : gt M k = some c0) (z : H1.size = H.size) (oq : ∀ q, q ≠ b + k → H1[q]? = H[q]?) (hc : va_at D cl9 (b + k, toE b cy c) H1) : Hold b D cy (up M k c) H1 := by
  refine ⟨by rw [z]; exact h.1, fun j x hj => ?_⟩
  change (if j = k then some c else M.2 j) = some x at hj
  by_cases hjk : j = k
  · rw [if_pos hjk] at hj
    cases hj; subst hjk
    exact hc
  · rw [if_neg hjk] at hj
    exact (h.2 j x hj).kept (oq _ (show b + j ≠ b + k by omega))
theorem Hold.push {b : Nat} {D : va_G} {cy : ClassId × ClassId} {M : Mem} {H H1 : Heap} {c : Ce} (h : Hold b D cy M H) (z : H1.size = H.size + 1) (oq : ∀ q, q < H.size → H1[q]? = H[q]?) (hc : va_at D cl9 (b + M.1, toE b cy c) H1) : Hold b D cy (nw M c) H1 := by
  refine ⟨by rw [z, h.1]; show _ = b + (M.1 + 1); omega, fun j x hj => ?_⟩
  change (if j = M.1 then some c else M.2 j) = some x at hj
  by_cases hjk : j = M.1
  · rw [if_pos hjk] at hj
    cases hj; subst hjk
    exact hc
  · rw [if_neg hjk] at hj
    exact (h.2 j x hj).kept (oq _ (h.2 j x hj).lt)
def FL (own : String) (idx ci k : Nat) : Prop := ∃ (C : String) (T : u_T) (N : Nat), cl9[ci]? = some (C, T, N) ∧ k < N ∧ (∀ w ∈ u_ws C T N, w ∈ lw_ws) ∧ Cond.fieldLink own idx (T k).1 (T k).2.1 (T k).2.2.1 ∈ lw_ws
def FP (own : String) (idx ci k : Nat) (fin : Bool) (ty : FieldType) : Prop := ∃ (C : String) (T : u_T) (N : Nat) (Y : Nat → FieldType), cl9[ci]? = some (C, T, N) ∧ k < N ∧ (∀ w ∈ u_ws C T N, w ∈ lw_ws) ∧ Cond.fieldLink own idx (T k).1 (T k).2.1 (T k).2.2.1 ∈ lw_ws ∧ (∀ k, k < N → parseFieldDescriptor (T k).2.2.1 = some (Y k)) ∧ (∀ a, a < N → ∀ b, b < N → a ≠ b → (T a).2.1 ≠ (T b).2.1) ∧ (T k).2.2.2 = fin ∧ Y k = ty ∧ (fin = true → (T k).1 = own)
def inInit (F : FT) : Prop := match F with
  | (p, l, e, R, s, m, args, below, meth, c, Q, b, D, cy) => meth.name = "<init>"
section HEAP
variable {F : FT} {cc : ByteArray} {nL : Nat} {own : String} {ret : Option FieldType} {M : Mem} {cs sl pc pc' : Nat} {L st : List Value}
theorem go_get (h : Fok F cc nL own ret) {idx ci k a : Nat} {fs : List Value} {v : Value} (hd : Dc cc pc (.getfield idx) 3 pc') (lk : FL own idx ci k) (hg : gt M a = some (ob ci fs)) (hv : fs[k]? = some v) (kk : Go F nL M cs sl pc' L (v :: st)) : Go F nL M cs sl pc L (.ref a :: st) := by
  obtain ⟨p, l, e, R, s, m, args, below, meth, c, Q, b, D, cy⟩ := F
  obtain ⟨hx, hb, hml, hown, hts, hK, hr, hlk, hbs⟩ := h
  obtain ⟨hd, rfl⟩ := hd
  obtain ⟨C, T, N, hc, hk, hin, hl1⟩ := lk
  intro H locs ls hH hS hl
  exact va_get hx hb hts hin hown hK (hH.one hg) 0 rfl hc k hk (hts _ hl1) (fun _ h => h) (v := shV b v) (by rw [List.getElem?_map, hv]; rfl) hd (kk H locs ls hH hS hl)
theorem go_put (h : Fok F cc nL own ret) {idx ci k a : Nat} {fs fs' : List Value} {v : Value} {ty : FieldType} (hd : Dc cc pc (.putfield idx) 3 pc') (lk : FP own idx ci k false ty) (hg : gt M a = some (ob ci fs)) (hn : ∀ b, narrow ty (shV b v) = shV b v) (hfit : ∀ b, fits ty (shV b v) = true) (hl0 : k < fs.length) (hs : fs.set k v = fs') (kk : Go F nL (up M a (ob ci fs')) cs sl pc' L st) : Go F nL M cs sl pc L (v :: .ref a :: st) := by
  obtain ⟨p, l, e, R, s, m, args, below, meth, c, Q, b, D, cy⟩ := F
  obtain ⟨hx, hb, hml, hown, hts, hK, hr, hlk, hbs⟩ := h
  obtain ⟨hd, rfl⟩ := hd
  obtain ⟨C, T, N, Y, hc, hk, hin, hl1, hty, hnm, hfin, hY, -⟩ := lk
  subst hY
  intro H locs ls hH hS hl
  have hap := va_apart (own := own) hts hin Y hty hnm hK hc
  obtain ⟨r, h1, cell, q1, q2, q3, q4⟩ := hH.2 a _ hg
  have hr : r = (C, T, N) := Option.some.inj (h1.symm.trans hc)
  subst hr
  obtain ⟨hSl, hfc, kC, hkC, hkind⟩ := hK.1 ci _ hc
  obtain ⟨cf, kf, fi, f, hi, hsl⟩ := hSl k hk
  have hlay := hts _ (hin _ (u_in_lay hk))
  unfold u_lay at hlay
  rw [if_neg (by rw [hfin]; decide)] at hlay
  have hst := (u_facts hfc hkC (u_lays hts hin hk) hi).1
  have h6 := u_store hfc hkC hkind hlay hi (hty k hk) (hn b) (hfit b)
  refine W.putK hx hb (f := f) ⟨hown, hts _ hl1, ⟨_, _, _, hi⟩, hst⟩ (by rw [q2]; exact h6) q1 q3 (by rw [hsl]; exact k2_hasslot (q4 k hk)) rfl rfl hd fun H' e1 e2 e3 => ?_
  rw [hsl] at e1 ⊢
  refine kk H' _ ls (hH.set hg e2 e3 ?_) (hS.put e2 e3 (Nat.le_add_right b a)) hl
  refine ⟨_, hc, t_OB.to (V := updV (vp_V (fs.map (shV b))) k (shV b v)) ⟨_, e1, q2, q3, t_set q4 hap hk _⟩ (fun j _ => ?_)⟩
  rw [vp_updV_set (by simpa using hl0), ← hs, List.map_set]
theorem go_putF (h : Fok F cc nL own ret) (hini : inInit F) {idx ci k a : Nat} {fs fs' : List Value} {v : Value} {ty : FieldType} (hd : Dc cc pc (.putfield idx) 3 pc') (lk : FP own idx ci k true ty) (hg : gt M a = some (ob ci fs)) (hn : ∀ b, narrow ty (shV b v) = shV b v) (hfit : ∀ b, fits ty (shV b v) = true) (hl0 : k < fs.length) (hs : fs.set k v = fs') (kk : Go F nL (up M a (ob ci fs')) cs sl pc' L st) : Go F nL M cs sl pc L (v :: .ref a :: st) := by
  obtain ⟨p, l, e, R, s, m, args, below, meth, c, Q, b, D, cy⟩ := F
  obtain ⟨hx, hb, hml, hown, hts, hK, hr, hlk, hbs⟩ := h
  obtain ⟨hd, rfl⟩ := hd
  obtain ⟨C, T, N, Y, hc, hk, hin, hl1, hty, hnm, hfin, hY, hdecl⟩ := lk
  subst hY
  intro H locs ls hH hS hl
  have hap := va_apart (own := own) hts hin Y hty hnm hK hc
  obtain ⟨r, h1, cell, q1, q2, q3, q4⟩ := hH.2 a _ hg
  have hr : r = (C, T, N) := Option.some.inj (h1.symm.trans hc)
  subst hr
  obtain ⟨hSl, hfc, kC, hkC, hkind⟩ := hK.1 ci _ hc
  obtain ⟨cf, kf, fi, f, hi, hsl⟩ := hSl k hk
  have hlay := hts _ (hin _ (u_in_lay hk))
  unfold u_lay at hlay
  rw [if_pos hfin] at hlay
  have hst := (u_facts hfc hkC (u_lays hts hin hk) hi).1
  have hcf : m.cls = cf := by
    obtain ⟨_, _, c', _, _, _, -, -, hf', -, -, -, hown2, -⟩ := Cond.laysFinal_spec hlay
    have e1 : c' = cf := by have := hi.symm.trans hf'; simp at this; exact this.1.symm
    rw [hdecl rfl] at hown2
    rw [← e1]; exact Option.some.inj (hown.symm.trans hown2)
  have h6 := u_fits hfc hkC hkind (Or.inr hlay) hi (hty k hk) (hn b) (hfit b)
  refine W.putFinK hx hb hown (hts _ hl1) hi hst hcf hini (by rw [q2]; exact h6) q1 q3 (by rw [hsl]; exact k2_hasslot (q4 k hk)) rfl rfl hd fun H' e1 e2 e3 => ?_
  rw [hsl] at e1 ⊢
  refine kk H' _ ls (hH.set hg e2 e3 ?_) (hS.put e2 e3 (Nat.le_add_right b a)) hl
  refine ⟨_, hc, t_OB.to (V := updV (vp_V (fs.map (shV b))) k (shV b v)) ⟨_, e1, q2, q3, t_set q4 hap hk _⟩ (fun j _ => ?_)⟩
  rw [vp_updV_set (by simpa using hl0), ← hs, List.map_set]
theorem go_alen (h : Fok F cc nL own ret) {a n : Nat} {f : Nat → Int32} {v : Int32} (hd : Dc cc pc .arraylength 1 pc') (hg : gt M a = some (ar n f)) (hv : Int32.ofNat n = v) (kk : Go F nL M cs sl pc' L (.int v :: st)) : Go F nL M cs sl pc L (.ref a :: st) := by
  obtain ⟨p, l, e, R, s, m, args, below, meth, c, Q, b, D, cy⟩ := F
  obtain ⟨hx, hb, hml, hown, hts, hK, hr, hlk, hbs⟩ := h
  obtain ⟨hd, rfl⟩ := hd
  intro H locs ls hH hS hl
  exact va_alen hx hb hK (hH.one hg) 0 0 (x := (n, .inl f)) rfl rfl hv hd (kk H locs ls hH hS hl)
theorem go_iald (h : Fok F cc nL own ret) {a n : Nat} {f : Nat → Int32} {i : Int32} (hd : Dc cc pc .iaload 1 pc') (hg : gt M a = some (ar n f)) (hi : vp_in i n) {v : Int32} (hv : f i.toNatClampNeg = v) (kk : Go F nL M cs sl pc' L (.int v :: st)) : Go F nL M cs sl pc L (.int i :: .ref a :: st) := by
  obtain ⟨p, l, e, R, s, m, args, below, meth, c, Q, b, D, cy⟩ := F
  obtain ⟨hx, hb, hml, hown, hts, hK, hr, hlk, hbs⟩ := h
  obtain ⟨hd, rfl⟩ := hd
  subst hv
  intro H locs ls hH hS hl
  exact va_iald hx hb hK (hH.one hg) 0 0 rfl rfl hi hd (kk H locs ls hH hS hl)
theorem go_zald (h : Fok F cc nL own ret) {a n : Nat} {f : Nat → Int32} {i : Int32} (hd : Dc cc pc .baload 1 pc') (hg : gt M a = some (zr n f)) (hi : vp_in i n) {v : Int32} (hv : f i.toNatClampNeg = v) (kk : Go F nL M cs sl pc' L (.int v :: st)) : Go F nL M cs sl pc L (.int i :: .ref a :: st) := by
  obtain ⟨p, l, e, R, s, m, args, below, meth, c, Q, b, D, cy⟩ := F
  obtain ⟨hx, hb, hml, hown, hts, hK, hr, hlk, hbs⟩ := h
  obtain ⟨hd, rfl⟩ := hd
  subst hv
  intro H locs ls hH hS hl
  exact va_zald hx hb hK (hH.one hg) 0 1 rfl rfl hi hd (kk H locs ls hH hS hl)
theorem go_iast (h : Fok F cc nL own ret) {a n : Nat} {f : Nat → Int32} {i x : Int32} (hd : Dc cc pc .iastore 1 pc') (hg : gt M a = some (ar n f)) (hi : vp_in i n) (kk : Go F nL (up M a (ar n (upd f i.toNatClampNeg x))) cs sl pc' L st) : Go F nL M cs sl pc L (.int x :: .int i :: .ref a :: st) := by
  obtain ⟨p, l, e, R, s, m, args, below, meth, c, Q, b, D, cy⟩ := F
  obtain ⟨hx, hb, hml, hown, hts, hK, hr, hlk, hbs⟩ := h
  obtain ⟨hd, rfl⟩ := hd
  intro H locs ls hH hS hl
  have hat : H[b + a]? = some (vp_cell cy.1 (n, .inl f)) := hH.2 a _ hg
  refine W.iast hx hb hat ((hK.2 0 (cy.1, .int) rfl).1 n (fun j => .int (f j))) (fun q => by cases q) (by show ¬ (i < 0 ∨ (arrV _ _ _).slots.size ≤ _); rw [arrV_size]; exact hi) rfl rfl hd fun H1 e1 e2 e3 => ?_
  refine kk H1 _ ls (hH.set hg e2 e3 ?_) (hS.put e2 e3 (Nat.le_add_right b a)) hl
  show H1[b + a]? = some (vp_cell _ _)
  rw [e1]
  show some (Cell.setSlot (vp_cell _ _) _ _) = some (vp_cell _ _)
  rw [vp_cell_i, vp_cell_i, arrV_store]
  congr 2
  funext q
  by_cases hq : q = i.toNatClampNeg
  · subst hq
    simp [updV, upd]
  · simp [updV, upd, hq]
theorem go_zast (h : Fok F cc nL own ret) {a n : Nat} {f : Nat → Int32} {i x : Int32} (hd : Dc cc pc .bastore 1 pc') (hg : gt M a = some (zr n f)) (hi : vp_in i n) (hx1 : narrow .boolean (.int x) = .int x) (kk : Go F nL (up M a (zr n (upd f i.toNatClampNeg x))) cs sl pc' L st) : Go F nL M cs sl pc L (.int x :: .int i :: .ref a :: st) := by
  obtain ⟨p, l, e, R, s, m, args, below, meth, c, Q, b, D, cy⟩ := F
  obtain ⟨hx, hb, hml, hown, hts, hK, hr, hlk, hbs⟩ := h
  obtain ⟨hd, rfl⟩ := hd
  intro H locs ls hH hS hl
  have hat : H[b + a]? = some (vp_cell cy.2 (n, .inl f)) := hH.2 a _ hg
  refine W.zast hx hb hat ((hK.2 1 (cy.2, .boolean) rfl).1 n (fun j => .int (f j))) (fun q => by cases q) (by show ¬ (i < 0 ∨ (arrV _ _ _).slots.size ≤ _); rw [arrV_size]; exact hi) rfl rfl hd fun H1 e1 e2 e3 => ?_
  refine kk H1 _ ls (hH.set hg e2 e3 ?_) (hS.put e2 e3 (Nat.le_add_right b a)) hl
  show H1[b + a]? = some (vp_cell _ _)
  rw [e1, hx1]
  show some (Cell.setSlot (vp_cell _ _) _ _) = some (vp_cell _ _)
  rw [vp_cell_i, vp_cell_i, arrV_store]
  congr 2
  funext q
  by_cases hq : q = i.toNatClampNeg
  · subst hq
    simp [updV, upd]
  · simp [updV, upd, hq]
def Room3 (F : FT) (cs sl : Nat) : Prop := match F with
  | (p, l, e, R, s, m, args, below, meth, c, Q, b, D, cy) => cs ≤ R.cells ∧ sl ≤ R.slots
def NW (own : String) (idx ci : Nat) (fs : List Value) : Prop := ∃ (C : String) (T : u_T) (N : Nat) (Y : Nat → FieldType), cl9[ci]? = some (C, T, N) ∧ (∀ w ∈ u_ws C T N, w ∈ lw_ws) ∧ (∀ k, k < N → parseFieldDescriptor (T k).2.2.1 = some (Y k)) ∧ Cond.classLink own idx C ∈ lw_ws ∧ Cond.instantiable C N ∈ lw_ws ∧ Cond.initialized C ∈ lw_ws ∧ fs.length = N ∧ (∀ j, j < N → ∀ b, defaultValue (Y j) = vp_V (fs.map (shV b)) j)
theorem go_new (h : Fok F cc nL own ret) {idx ci n a : Nat} {fs : List Value} (hd : Dc cc pc (.new idx) 3 pc') (lk : NW own idx ci fs) (hn : fs.length = n) (hro : Room3 F (cs + 1) (sl + n)) (ha : M.1 = a) (kk : Go F nL (nw M (ob ci fs)) (cs + 1) (sl + n) pc' L (.ref a :: st)) : Go F nL M cs sl pc L st := by
  obtain ⟨p, l, e, R, s, m, args, below, meth, c, Q, b, D, cy⟩ := F
  obtain ⟨hx, hb, hml, hown, hts, hK, hr, hlk, hbs⟩ := h
  obtain ⟨hd, rfl⟩ := hd
  obtain ⟨C, T, N, Y, hc, hin, hty, w1, w2, w3, hlen, hdf⟩ := lk
  subst hn; subst ha; subst hlen
  intro H locs ls hH hS hl
  have hKn := hK.1 ci _ hc
  refine W.newcK hx hb hown (hts _ w1) (hts _ w2) (hts _ w3) rfl hd hro.1 hro.2 hKn.2.1 hH.1 fun H1 kC hkC e1 z1 o1 => ?_
  refine kk H1 locs ls (hH.push (by rw [z1, hH.1]) (fun q hq => o1 q (by rw [← hH.1]; exact hq)) ?_) ⟨Nat.le_trans hS.1 (by rw [z1, hH.1]; omega), fun x h1 h2 => (o1 x (by have := hS.1; rw [hH.1] at this; omega)).trans (hS.2.1 x h1 h2), hS.2.2⟩ hl
  exact ⟨_, hc, (u_born Y hts hin hKn hkC e1 hty).to (fun j hj => hdf j hj b)⟩
theorem find_one {s : State} {n : String} {a b : ClassId} (h1 : s.vm.findClass n = some a) (h2 : s.vm.findClass n = some b) : a = b := Option.some.inj (h1.symm.trans h2)
theorem go_newaI (h : Fok F cc nL own ret) {n : Int32} {N a : Nat} (hd : Dc cc pc (.newarray .int) 2 pc') (hw : Cond.arrayClass .int ∈ lw_ws) (h0 : ¬ n < 0) (hN : n.toNatClampNeg = N) (hby : N * 4 ≤ 536870912) (hro : Room3 F (cs + 1) (sl + N)) (ha : M.1 = a) (kk : Go F nL (nw M (ar N (fun _ => 0))) (cs + 1) (sl + N) pc' L (.ref a :: st)) : Go F nL M cs sl pc L (.int n :: st) := by
  obtain ⟨p, l, e, R, s, m, args, below, meth, c, Q, b, D, cy⟩ := F
  obtain ⟨hx, hb, hml, hown, hts, hK, hr, hlk, hbs⟩ := h
  obtain ⟨hd, rfl⟩ := hd
  subst ha
  intro H locs ls hH hS hl
  refine va_newaK hx hb (atype := .int) (hts _ hw) rfl hd rfl h0 hN hby hro.1 hro.2 hH.1 fun H1 cA e1 z1 o1 hAr hNm => ?_
  have hcA : cA = cy.1 := find_one hNm ((hK.2 0 (cy.1, .int) rfl).2)
  subst hcA
  refine kk H1 locs ls (hH.push (by rw [z1, hH.1]) (fun q hq => o1 q (by rw [← hH.1]; exact hq)) ?_) ⟨Nat.le_trans hS.1 (by rw [z1, hH.1]; omega), fun x h1 h2 => (o1 x (by have := hS.1; rw [hH.1] at this; omega)).trans (hS.2.1 x h1 h2), hS.2.2⟩ hl
  exact e1
theorem go_newaZ (h : Fok F cc nL own ret) {n : Int32} {N a : Nat} (hd : Dc cc pc (.newarray .boolean) 2 pc') (hw : Cond.arrayClass .boolean ∈ lw_ws) (h0 : ¬ n < 0) (hN : n.toNatClampNeg = N) (hby : N * 1 ≤ 536870912) (hro : Room3 F (cs + 1) (sl + N)) (ha : M.1 = a) (kk : Go F nL (nw M (zr N (fun _ => 0))) (cs + 1) (sl + N) pc' L (.ref a :: st)) : Go F nL M cs sl pc L (.int n :: st) := by
  obtain ⟨p, l, e, R, s, m, args, below, meth, c, Q, b, D, cy⟩ := F
  obtain ⟨hx, hb, hml, hown, hts, hK, hr, hlk, hbs⟩ := h
  obtain ⟨hd, rfl⟩ := hd
  subst ha
  intro H locs ls hH hS hl
  refine va_newaK hx hb (atype := .boolean) (hts _ hw) rfl hd rfl h0 hN hby hro.1 hro.2 hH.1 fun H1 cA e1 z1 o1 hAr hNm => ?_
  have hcA : cA = cy.2 := find_one hNm ((hK.2 1 (cy.2, .boolean) rfl).2)
  subst hcA
  refine kk H1 locs ls (hH.push (by rw [z1, hH.1]) (fun q hq => o1 q (by rw [← hH.1]; exact hq)) ?_) ⟨Nat.le_trans hS.1 (by rw [z1, hH.1]; omega), fun x h1 h2 => (o1 x (by have := hS.1; rw [hH.1] at this; omega)).trans (hS.2.1 x h1 h2), hS.2.2⟩ hl
  exact e1
def OI (own : String) (idx : Nat) : Prop := Cond.methodLink own idx Lib.objectInit ∈ lw_ws ∧ Cond.instanceMethod Lib.objectInit ∈ lw_ws ∧ Cond.code Lib.objectInit ⟨#[0xb1]⟩ 1 none ∈ lw_ws
def Rge (F : FT) (d : Nat) : Prop := match F with
  | (p, l, e, R, s, m, args, below, meth, c, Q, b, D, cy) => d ≤ R.frames ∧ 64 * d ≤ R.locals
theorem cat_map (b : Nat) (st : List Value) : ((st.map (shV b)).map fun v => v.category) = st.map fun v => v.category := by
  induction st with
  | nil => rfl
  | cons a t ih => simp only [List.map_cons, ih, shV_cat]
theorem go_obj (h : Fok F cc nL own ret) {idx a d : Nat} (hd : Dc cc pc (.invokespecial idx) 3 pc') (lk : OI own idx) (hR : Rge F d) (h1 : 1 ≤ d) (h8 : (st.map fun v => v.category).sum ≤ 8) (kk : Go F nL M cs sl pc' L st) : Go F nL M cs sl pc L (.ref a :: st) := by
  obtain ⟨p, l, e, R, s, m, args, below, meth, c, Q, b, D, cy⟩ := F
  obtain ⟨hx, hb, hml, hown, hts, hK, hr, hlk, hbs⟩ := h
  obtain ⟨hd, rfl⟩ := hd
  obtain ⟨w1, w2, w3⟩ := lk
  intro H locs ls hH hS hl
  obtain ⟨hR1, hR2⟩ := hR
  have h9 := lv_room (m := m) (pc := pc) (ls := ls) (st := st.map (shV b)) (rest := (.ref (b + a)) :: st.map (shV b)) (by rw [cat_map]; exact h8)
  refine W.objInit hx hb hown (hts _ w1) (hts _ w2) (hts _ w3) (g := F0 m pc ls (.ref (b + a) :: st.map (shV b))) rfl (by rw [hml]; exact hl.1) rfl hd (by omega) ?_ (kk H locs ls hH hS hl)
  show _ ≤ _
  have : 2 * (F0 m pc ls (.ref (b + a) :: st.map (shV b))).monitorRoom + ((st.map (shV b)).map fun v => v.category).sum ≤ 8 := by first | exact h9 | (rw [cat_map]; simpa using h8)
  omega
end HEAP
end
section
/-! contracts, calls, ends -/
abbrev XT : Type := Launch × Nat × va_G × (ClassId × ClassId)
def rmv (d mc ms : Nat) : Room := { frames := d, cells := mc, slots := ms, locals := 64 * d }
def Qct (b : Nat) (D : va_G) (cy : ClassId × ClassId) (Post : Option Value → Mem → Prop) : Array Value → State → Outcome → State → Prop := fun _ st oc t => (∃ (v : Option Value) (M' : Mem), oc = .returned (v.map (shV b)) ∧ Post v M' ∧ Hold b D cy M' t.heap) ∧ va_F (fun q => b ≤ q) st t
def Ctr (X : XT) (d : Nat) (y : MethodName) (cc : ByteArray) (nL : Nat) (ret : Option FieldType) (args : List Value) (M : Mem) (Post : Option Value → Mem → Prop) (mc ms : Nat) : Prop := match X with
  | (l, b, D, cy) => Met l y (Cond.code y cc nL ret :: lw_ws) (rmv d mc ms) (va_Pc (args.map (shV b)) (fun U => Hold b D cy M U.heap ∧ va_K D cl9 (tyZ cy) U)) (Qct b D cy Post) mc ms (fun q => b ≤ q)
def FX (F : FT) (X : XT) : Prop := match F with
  | (p, l, e, R, s, m, args, below, meth, c, Q, b, D, cy) => X = (l, b, D, cy)
def Fend (F : FT) (Post : Option Value → Mem → Prop) (mc ms : Nat) : Prop := match F with
  | (p, l, e, R, s, m, args, below, meth, c, Q, b, D, cy) => Q = MQ below (Qct b D cy Post) args s mc ms (fun q => b ≤ q)
theorem c1_args {vs : List Value} : ∀ {i : Nat}, c1 vs = true → ∀ (k : Nat) (v : Value), vs[k]? = some v → (i + k, v) ∈ lv_args i vs := by
  induction vs with
  | nil => intro i _ k v h; simp at h
  | cons a t ih =>
    intro i hc k v h
    simp only [c1, Bool.and_eq_true, decide_eq_true_eq] at hc
    match k, h with
    | 0, h => cases h; exact List.mem_cons_self
    | k + 1, h =>
      have := ih (i := i + 1) hc.2 k v h
      rw [lv_args, if_neg (by rw [hc.1]; decide)]
      refine List.mem_cons_of_mem _ ?_
      rw [show i + (k + 1) = i + 1 + k by omega]
      exact this
theorem c1_map (b : Nat) : ∀ (vs : List Value), c1 (vs.map (shV b)) = c1 vs
  | [] => rfl
  | v :: t => by simp only [List.map_cons, c1, shV_cat, c1_map b t]
theorem c1_len : ∀ {vs : List Value}, c1 vs = true → (lg_sl vs).length = vs.length
  | [], _ => rfl
  | v :: t, h => by
    simp only [c1, Bool.and_eq_true, decide_eq_true_eq] at h
    have := c1_len h.2
    simp only [lg_sl, List.flatMap_cons, List.length_append, List.length_cons] at this ⊢
    rw [if_neg (by rw [h.1]; decide)]
    simp only [List.length_singleton]
    omega
theorem Ctr.of {X : XT} {d : Nat} {y : MethodName} {cc : ByteArray} {nL : Nat} {ret : Option FieldType} {av : List Value} {M : Mem} {Post : Option Value → Mem → Prop} {mc ms : Nat} (hy : plainName y.cls = true) (hc : c1 av = true) (hlen : av.length ≤ nL) (body : ∀ F : FT, Fok F cc nL y.cls ret → FX F X → Rge F d → Room3 F mc ms → Fend F Post mc ms → (y.name = "<init>" → inInit F) → Go F nL M 0 0 0 av []) : Ctr X d y cc nL ret av M Post mc ms := by
  obtain ⟨l, b, D, cy⟩ := X
  refine Met.ofW (cc := cc) (maxL := nL) (ret := ret) hy rfl ?_
  intro p e s m args below meth c s₁ B hml hv
  obtain ⟨rfl, hH, hK⟩ := hv
  have hts := atoms_spec (ws := Cond.code y cc nL ret :: lw_ws) B.pre
  have hown : s.vm.findClass y.cls = some m.cls := findClass_of_methodNamed B.named
  have hc' : c1 (av.map (shV b)) = true := by rw [c1_map]; exact hc
  have hl := lv_entry (av.map (shV b)) (n := nL) (by rw [c1_len hc', List.length_map]; exact hlen)
  rw [lg_entry_eq]
  generalize (lg_sl (av.map (shV b)) ++ List.replicate (nL - (lg_sl (av.map (shV b))).length) Slot.unset).toArray = ls at hl ⊢
  refine body (p, l, e, rmv d mc ms, s, m, (av.map (shV b)).toArray, below, meth, c, _, b, D, cy) ⟨B.exec, B.bytes, hml, hown, fun w hw => hts w (List.mem_cons_of_mem _ hw), hK, B.returns, B.notSynchronized, by rw [hH.1]; exact Nat.le_add_right b M.1⟩ rfl ⟨Nat.le_refl _, Nat.le_refl _⟩ ⟨Nat.le_refl _, Nat.le_refl _⟩ rfl (fun hn => ((name_of_methodNamed B.named B.method).1).trans hn) s.heap [] ls hH va_S.rf ⟨hl.1, hl.2.1, fun k v hv => ?_⟩
  have h2 : (av.map (shV b))[k]? = some (shV b v) := by rw [List.getElem?_map, hv]; rfl
  have h3 := c1_args (i := 0) hc' k _ h2
  rw [Nat.zero_add] at h3
  exact hl.2.2 _ h3
section CALLS
variable {F : FT} {cc : ByteArray} {nL : Nat} {own : String} {ret : Option FieldType} {M : Mem} {cs sl pc pc' : Nat} {L st : List Value} {X : XT} {d d' : Nat}
variable {y : MethodName} {bytes : ByteArray} {maxL : Nat} {rt : Option FieldType} {n idx : Nat} {As : List Value} {Post : Option Value → Mem → Prop} {mc ms : Nat}
def KC (y : MethodName) (bytes : ByteArray) (maxL : Nat) (rt : Option FieldType) (n : Nat) : Prop := Cond.code y bytes maxL rt ∈ lw_ws ∧ Cond.initialized y.cls ∈ lw_ws ∧ (y.cls ≠ "java/lang/invoke/MethodHandle" ∧ y.cls ≠ "java/lang/invoke/VarHandle" ∧ (parseMethodDescriptor y.desc).map (fun d => d.parameters.length) = some n) ∧ maxL ≤ 40
def KV (own : String) (idx : Nat) (y : MethodName) (bytes : ByteArray) (maxL : Nat) (rt : Option FieldType) (n : Nat) : Prop := KC y bytes maxL rt n ∧ Cond.methodLink own idx y ∈ lw_ws ∧ Cond.instanceMethod y ∈ lw_ws ∧ Cond.selects y.cls y y ∈ lw_ws
def KS (own : String) (idx : Nat) (y : MethodName) (bytes : ByteArray) (maxL : Nat) (rt : Option FieldType) (n : Nat) : Prop := KC y bytes maxL rt n ∧ Cond.methodLink own idx y ∈ lw_ws ∧ Cond.static y ∈ lw_ws
def KI (own : String) (idx : Nat) (y : MethodName) (bytes : ByteArray) (maxL : Nat) (rt : Option FieldType) (n : Nat) : Prop := KC y bytes maxL rt n ∧ Cond.methodLink own idx y ∈ lw_ws ∧ y.name = "<init>" ∧ Cond.instanceMethod y ∈ lw_ws
def KSN (own : String) (idx : Nat) (y : MethodName) (bytes : ByteArray) (maxL : Nat) (rt : Option FieldType) (n : Nat) : Prop := KC y bytes maxL rt n ∧ (∃ host, Cond.methodLinkNest own idx y host ∈ lw_ws) ∧ Cond.static y ∈ lw_ws
def KIN (own : String) (idx : Nat) (y : MethodName) (bytes : ByteArray) (maxL : Nat) (rt : Option FieldType) (n : Nat) : Prop := KC y bytes maxL rt n ∧ (∃ host, Cond.methodLinkNest own idx y host ∈ lw_ws) ∧ y.name = "<init>" ∧ Cond.instanceMethod y ∈ lw_ws
theorem lw_pays {s : State} {args : Array Value} (hts : ∀ w ∈ lw_ws, w.before args s = true) {y : MethodName} {bytes : ByteArray} {maxL : Nat} {rt : Option FieldType} (hc : Cond.code y bytes maxL rt ∈ lw_ws) : ∀ w ∈ Cond.code y bytes maxL rt :: lw_ws, ∀ (a' : Array Value) (U : State), s.WarmedH U.vm → w.before a' U = true := by
  intro w hw a' U hW
  have hw2 : w ∈ lw_ws := by
    rcases List.mem_cons.mp hw with rfl | h
    · exact hc
    · exact h
  have hg := (List.mem_filter.mp hw2).2
  have hb := hts w hw2
  unfold gw at hg
  rcases (Bool.or_eq_true _ _).mp hg with h1 | h1
  · exact word_at hW (good_of_word h1) hb
  · cases w <;> first | (simp [isNest] at h1; done) | exact va_Nw.use rfl (va_Nw.warmM hW (va_Nw.of rfl hb))
theorem lw_blind {b : Nat} {D : va_G} {cy : ClassId × ClassId} {M : Mem} {av : List Value} : FrameBlind (va_Pc av (fun U => Hold b D cy M U.heap ∧ va_K D cl9 (tyZ cy) U)) := fun a U g mk q => ⟨q.1, q.2.1, va_K.moved (u := U) (U := U.calling g mk a) (Vm.Alike.refl U.vm) q.2.2⟩
theorem run_go {p : Program} {l : Launch} {e : Env} {R : Room} {s : State} {m : MethodId} {args : Array Value} {below : List Frame} {meth : Method} {c : Code} {Q : State → Prop} {b : Nat} {D : va_G} {cy : ClassId × ClassId} {a : Array Value} {H : Heap} {locs : List Loc} {ls : Array Slot} {st0 : List Value} {st : List Value}
    (hr : va_Run p l e R s m args below meth c H locs cs sl mc ms (F0 m pc ls st0) (st.map (shV b)) (Qct b D cy Post a) (fun q => b ≤ q)) (hbs : b ≤ s.heap.size) (hS : va_S (fun q => b ≤ q) s.heap H locs) (hl : LH b ls nL L)
    (kk : ∀ (v : Option Value) (M' : Mem), Post v M' → Go (p, l, e, R, s, m, args, below, meth, c, Q, b, D, cy) nL M' (cs + mc) (sl + ms) (pc + 3) L (v.toList ++ st)) : W p l e R s m args below meth c H locs cs sl Q (F0 m pc ls st0) := by
  intro T hT X
  obtain ⟨v, st₀, t, T', L1, h0, X', hL, e1, e2, ⟨⟨u, M', hv, hp, hh⟩, hz, hk⟩, stp⟩ := hr T hT X
  have hv := Outcome.returned.inj hv
  subst hv
  rw [h0] at hz hk
  have hS' : va_S (fun q => b ≤ q) s.heap T'.heap (locs ++ L1) := ⟨Nat.le_trans hS.1 (by rw [e1]; exact hz), fun q h1 h2 => by rw [e1, hk q (Nat.lt_of_lt_of_le h1 hS.1) h2]; exact hS.2.1 q h1 h2, fun q hq => by
    rcases List.mem_append.mp hq with h | h
    · exact hS.2.2 q h
    · exact hL q h⟩
  obtain ⟨t2, a1, b1⟩ := kk u M' hp T'.heap (locs ++ L1) ls (by rw [e1]; exact hh) hS' hl T' rfl X'
  refine ⟨t2, stp t2 ?_, b1⟩
  have e3 : (u.toList ++ st).map (shV b) = (u.map (shV b)).toList ++ st.map (shV b) := by cases u <;> rfl
  rw [e3] at a1
  exact a1
theorem go_callV (h : Fok F cc nL own ret) {k ci : Nat} {fs : List Value} {st0 : List Value} (hd : Dc cc pc (.invokevirtual idx) 3 pc') (kv : KV own idx y bytes maxL rt n) (hX : FX F X) (hR : Rge F d) (hro : Room3 F (cs + mc) (sl + ms)) (ct : Ctr X d' y bytes maxL rt (.ref k :: As) M Post mc ms) (hdd : d' + 1 ≤ d) (hg : gt M k = some (ob ci fs)) (hci : ∃ T N, cl9[ci]? = some (y.cls, T, N)) (hn : As.length = n) (h8 : (st.map fun v => v.category).sum ≤ 8) (hst : st0 = As.reverse ++ .ref k :: st) (kk : ∀ (v : Option Value) (M' : Mem), Post v M' → Go F nL M' (cs + mc) (sl + ms) pc' L (v.toList ++ st)) : Go F nL M cs sl pc L st0 := by
  obtain ⟨p, l, e, R, s, m, args, below, meth, c, Q, b, D, cy⟩ := F
  have h9 := h
  obtain ⟨hx, hb, hml, hown, hts, hK, hr, hlk, hbs⟩ := h
  obtain ⟨hd, rfl⟩ := hd
  subst hst
  cases hX
  obtain ⟨hR1, hR2⟩ := hR
  obtain ⟨⟨k1, k2, k3, k4⟩, k5, k6, k7⟩ := kv
  intro H locs ls hH hS hl
  obtain ⟨T, N, hcl⟩ := hci
  refine run_go (hr := va_runV (As := As.map (shV b)) (rest := st.map (shV b)) (Ts := lw_ws) ⟨hx, hb, hml, hown, hts⟩ ct ⟨(⟨rfl, rfl, by show d' + 1 ≤ _; omega, by show 8 + (maxL + 11) + 64 * d' ≤ _; omega, lw_pays hts k1, List.mem_cons_self, hts _ k1, hts _ k2, ⟨k3.1, k3.2.1⟩, fun sig hsg => by have h2 := k3.2.2; rw [hsg] at h2; exact (Option.some.inj h2).symm, hts _ k5⟩ : CallB R s args own idx y bytes maxL rt _ (rmv d' mc ms) mc ms n), hts _ k6, hts _ k7⟩ ⟨lw_blind, va_recv hK (hH.one hg) hcl (q0 := 0) rfl, fun U hU hW => ⟨by simp [shV], by rw [hU]; exact hH, va_K.moved hW.alike hK⟩⟩ rfl (by rw [List.length_map]; exact hn) hl.1 (by simp [shV]) (lv_room (by rw [cat_map]; exact h8)) hd hro) hbs hS hl kk
theorem go_callS (h : Fok F cc nL own ret) {st0 : List Value} (hd : Dc cc pc (.invokestatic idx) 3 pc') (kv : KS own idx y bytes maxL rt n) (hX : FX F X) (hR : Rge F d) (hro : Room3 F (cs + mc) (sl + ms)) (ct : Ctr X d' y bytes maxL rt As M Post mc ms) (hdd : d' + 1 ≤ d) (hn : As.length = n) (h8 : (st.map fun v => v.category).sum ≤ 8) (hst : st0 = As.reverse ++ st) (kk : ∀ (v : Option Value) (M' : Mem), Post v M' → Go F nL M' (cs + mc) (sl + ms) pc' L (v.toList ++ st)) : Go F nL M cs sl pc L st0 := by
  obtain ⟨p, l, e, R, s, m, args, below, meth, c, Q, b, D, cy⟩ := F
  have h9 := h
  obtain ⟨hx, hb, hml, hown, hts, hK, hr, hlk, hbs⟩ := h
  obtain ⟨hd, rfl⟩ := hd
  subst hst
  cases hX
  obtain ⟨hR1, hR2⟩ := hR
  obtain ⟨⟨k1, k2, k3, k4⟩, k5, k6⟩ := kv
  intro H locs ls hH hS hl
  refine run_go (hr := va_runS (As := As.map (shV b)) (rest := st.map (shV b)) (Ts := lw_ws) ⟨hx, hb, hml, hown, hts⟩ ct ⟨(⟨rfl, rfl, by show d' + 1 ≤ _; omega, by show 8 + (maxL + 11) + 64 * d' ≤ _; omega, lw_pays hts k1, List.mem_cons_self, hts _ k1, hts _ k2, ⟨k3.1, k3.2.1⟩, fun sig hsg => by have h2 := k3.2.2; rw [hsg] at h2; exact (Option.some.inj h2).symm, hts _ k5⟩ : CallB R s args own idx y bytes maxL rt _ (rmv d' mc ms) mc ms n), hts _ k6⟩ ⟨lw_blind, fun U hU hW => ⟨by simp [shV], by rw [hU]; exact hH, va_K.moved hW.alike hK⟩⟩ rfl (by rw [List.length_map]; exact hn) hl.1 (by simp [shV]) (lv_room (by rw [cat_map]; exact h8)) hd hro) hbs hS hl kk
theorem go_callI (h : Fok F cc nL own ret) {k : Nat} {st0 : List Value} (hd : Dc cc pc (.invokespecial idx) 3 pc') (kv : KI own idx y bytes maxL none n) (hX : FX F X) (hR : Rge F d) (hro : Room3 F (cs + mc) (sl + ms)) (ct : Ctr X d' y bytes maxL none (.ref k :: As) M Post mc ms) (hdd : d' + 1 ≤ d) (hn : As.length = n) (h8 : (st.map fun v => v.category).sum ≤ 8) (hst : st0 = As.reverse ++ .ref k :: st) (kk : ∀ (v : Option Value) (M' : Mem), Post v M' → Go F nL M' (cs + mc) (sl + ms) pc' L (v.toList ++ st)) : Go F nL M cs sl pc L st0 := by
  obtain ⟨p, l, e, R, s, m, args, below, meth, c, Q, b, D, cy⟩ := F
  have h9 := h
  obtain ⟨hx, hb, hml, hown, hts, hK, hr, hlk, hbs⟩ := h
  obtain ⟨hd, rfl⟩ := hd
  subst hst
  cases hX
  obtain ⟨hR1, hR2⟩ := hR
  obtain ⟨⟨k1, k2, k3, k4⟩, k5, k6, k7⟩ := kv
  intro H locs ls hH hS hl
  refine run_go (hr := va_runI (b := b + k) (As := As.map (shV b)) (rest := st.map (shV b)) (Ts := lw_ws) ⟨hx, hb, hml, hown, hts⟩ ct ⟨(⟨rfl, rfl, by show d' + 1 ≤ _; omega, by show 8 + (maxL + 11) + 64 * d' ≤ _; omega, lw_pays hts k1, List.mem_cons_self, hts _ k1, hts _ k2, ⟨k3.1, k3.2.1⟩, fun sig hsg => by have h2 := k3.2.2; rw [hsg] at h2; exact (Option.some.inj h2).symm, hts _ k5⟩ : CallB R s args own idx y bytes maxL none _ (rmv d' mc ms) mc ms n), k6, hts _ k7⟩ ⟨lw_blind, fun U hU hW => ⟨by simp [shV], by rw [hU]; exact hH, va_K.moved hW.alike hK⟩⟩ rfl (by rw [List.length_map]; exact hn) hl.1 (by simp [shV]) (lv_room (by rw [cat_map]; exact h8)) hd hro) hbs hS hl kk
theorem go_callSN (h : Fok F cc nL own ret) {st0 : List Value} (hd : Dc cc pc (.invokestatic idx) 3 pc') (kv : KSN own idx y bytes maxL rt n) (hX : FX F X) (hR : Rge F d) (hro : Room3 F (cs + mc) (sl + ms)) (ct : Ctr X d' y bytes maxL rt As M Post mc ms) (hdd : d' + 1 ≤ d) (hn : As.length = n) (h8 : (st.map fun v => v.category).sum ≤ 8) (hst : st0 = As.reverse ++ st) (kk : ∀ (v : Option Value) (M' : Mem), Post v M' → Go F nL M' (cs + mc) (sl + ms) pc' L (v.toList ++ st)) : Go F nL M cs sl pc L st0 := by
  obtain ⟨p, l, e, R, s, m, args, below, meth, c, Q, b, D, cy⟩ := F
  have h9 := h
  obtain ⟨hx, hb, hml, hown, hts, hK, hr, hlk, hbs⟩ := h
  obtain ⟨hd, rfl⟩ := hd
  subst hst
  cases hX
  obtain ⟨hR1, hR2⟩ := hR
  obtain ⟨⟨k1, k2, k3, k4⟩, ⟨host, k5⟩, k6⟩ := kv
  intro H locs ls hH hS hl
  refine run_go (hr := va_runSN (As := As.map (shV b)) (rest := st.map (shV b)) (Ts := lw_ws) ⟨hx, hb, hml, hown, hts⟩ ct ⟨(⟨⟨rfl, rfl, by show d' + 1 ≤ _; omega, by show 8 + (maxL + 11) + 64 * d' ≤ _; omega, lw_pays hts k1, List.mem_cons_self⟩, hts _ k1, hts _ k2, ⟨k3.1, k3.2.1⟩, fun sig hsg => by have h2 := k3.2.2; rw [hsg] at h2; exact (Option.some.inj h2).symm, hts _ k5⟩ : va_CN R s args own idx y host bytes maxL rt _ (rmv d' mc ms) mc ms n), hts _ k6, trivial⟩ ⟨lw_blind, fun U hU hW => ⟨by simp [shV], by rw [hU]; exact hH, va_K.moved hW.alike hK⟩⟩ rfl (by rw [List.length_map]; exact hn) hl.1 (by simp [shV]) (lv_room (by rw [cat_map]; exact h8)) hd hro) hbs hS hl kk
theorem go_callIN (h : Fok F cc nL own ret) {k : Nat} {st0 : List Value} (hd : Dc cc pc (.invokespecial idx) 3 pc') (kv : KIN own idx y bytes maxL none n) (hX : FX F X) (hR : Rge F d) (hro : Room3 F (cs + mc) (sl + ms)) (ct : Ctr X d' y bytes maxL none (.ref k :: As) M Post mc ms) (hdd : d' + 1 ≤ d) (hn : As.length = n) (h8 : (st.map fun v => v.category).sum ≤ 8) (hst : st0 = As.reverse ++ .ref k :: st) (kk : ∀ (v : Option Value) (M' : Mem), Post v M' → Go F nL M' (cs + mc) (sl + ms) pc' L (v.toList ++ st)) : Go F nL M cs sl pc L st0 := by
  obtain ⟨p, l, e, R, s, m, args, below, meth, c, Q, b, D, cy⟩ := F
  have h9 := h
  obtain ⟨hx, hb, hml, hown, hts, hK, hr, hlk, hbs⟩ := h
  obtain ⟨hd, rfl⟩ := hd
  subst hst
  cases hX
  obtain ⟨hR1, hR2⟩ := hR
  obtain ⟨⟨k1, k2, k3, k4⟩, ⟨host, k5⟩, k6, k7⟩ := kv
  intro H locs ls hH hS hl
  refine run_go (hr := va_runIN (b := b + k) (As := As.map (shV b)) (rest := st.map (shV b)) (Ts := lw_ws) ⟨hx, hb, hml, hown, hts⟩ ct ⟨(⟨⟨rfl, rfl, by show d' + 1 ≤ _; omega, by show 8 + (maxL + 11) + 64 * d' ≤ _; omega, lw_pays hts k1, List.mem_cons_self⟩, hts _ k1, hts _ k2, ⟨k3.1, k3.2.1⟩, fun sig hsg => by have h2 := k3.2.2; rw [hsg] at h2; exact (Option.some.inj h2).symm, hts _ k5⟩ : va_CN R s args own idx y host bytes maxL none _ (rmv d' mc ms) mc ms n), k6, hts _ k7⟩ ⟨lw_blind, fun U hU hW => ⟨by simp [shV], by rw [hU]; exact hH, va_K.moved hW.alike hK⟩⟩ rfl (by rw [List.length_map]; exact hn) hl.1 (by simp [shV]) (lv_room (by rw [cat_map]; exact h8)) hd hro) hbs hS hl kk
end CALLS
section ENDS
variable {F : FT} {cc : ByteArray} {nL : Nat} {own : String} {M : Mem} {cs sl pc : Nat} {L : List Value} {Post : Option Value → Mem → Prop}
theorem go_iret (h : Fok F cc nL own (some .int)) (hE : Fend F Post cs sl) {v : Int32} (hP : Post (some (.int v)) M) (hd : decode cc pc = .ok (.ireturn, 1)) : Go F nL M cs sl pc L [.int v] := by
  obtain ⟨p, l, e, R, s, m, args, below, meth, c, Q, b, D, cy⟩ := F
  obtain ⟨hx, hb, hml, hown, hts, hK, hr, hlk, hbs⟩ := h
  cases hE
  intro H locs ls hH hS hl
  exact W.iret hx hb hr (fun t ht hW => ⟨⟨some (.int v), M, rfl, hP, by rw [ht]; exact hH⟩, hS.F ht⟩) hS.2.2 hd hlk
theorem go_zret (h : Fok F cc nL own (some .boolean)) (hE : Fend F Post cs sl) {v : Int32} (hv : narrow .boolean (.int v) = .int v) (hP : Post (some (.int v)) M) (hd : decode cc pc = .ok (.ireturn, 1)) : Go F nL M cs sl pc L [.int v] := by
  obtain ⟨p, l, e, R, s, m, args, below, meth, c, Q, b, D, cy⟩ := F
  obtain ⟨hx, hb, hml, hown, hts, hK, hr, hlk, hbs⟩ := h
  cases hE
  intro H locs ls hH hS hl
  exact W.zret hx hb hr hv (fun t ht hW => ⟨⟨some (.int v), M, rfl, hP, by rw [ht]; exact hH⟩, hS.F ht⟩) hS.2.2 hd hlk
theorem go_lret (h : Fok F cc nL own (some .long)) (hE : Fend F Post cs sl) {v : Int64} (hP : Post (some (.long v)) M) (hd : decode cc pc = .ok (.lreturn, 1)) : Go F nL M cs sl pc L [.long v] := by
  obtain ⟨p, l, e, R, s, m, args, below, meth, c, Q, b, D, cy⟩ := F
  obtain ⟨hx, hb, hml, hown, hts, hK, hr, hlk, hbs⟩ := h
  cases hE
  intro H locs ls hH hS hl
  exact W.lret hx hb hr (fun t ht hW => ⟨⟨some (.long v), M, rfl, hP, by rw [ht]; exact hH⟩, hS.F ht⟩) hS.2.2 hd hlk
theorem go_vret (h : Fok F cc nL own none) {mc ms : Nat} (hE : Fend F Post mc ms) (h1 : cs ≤ mc) (h2 : sl ≤ ms) (hP : Post none M) (hd : decode cc pc = .ok (.return_, 1)) : Go F nL M cs sl pc L [] := by
  obtain ⟨p, l, e, R, s, m, args, below, meth, c, Q, b, D, cy⟩ := F
  obtain ⟨hx, hb, hml, hown, hts, hK, hr, hlk, hbs⟩ := h
  cases hE
  intro H locs ls hH hS hl
  refine W.widen (k := mc) (n := ms) h1 h2 ?_
  exact W.vret hx hb hr (fun t ht hW => ⟨⟨none, M, rfl, hP, by rw [ht]; exact hH⟩, hS.F ht⟩) hS.2.2 hd hlk
theorem go_aret {nm : String} (h : Fok F cc nL own (some (.object nm))) {a : Nat} (hE : Fend F Post cs sl) (hP : Post (some (.ref a)) M) (hd : decode cc pc = .ok (.areturn, 1)) : Go F nL M cs sl pc L [.ref a] := by
  obtain ⟨p, l, e, R, s, m, args, below, meth, c, Q, b, D, cy⟩ := F
  obtain ⟨hx, hb, hml, hown, hts, hK, hr, hlk, hbs⟩ := h
  cases hE
  intro H locs ls hH hS hl
  exact W.aret hx hb hr (Or.inl ⟨_, rfl⟩) (Or.inr ⟨_, rfl⟩) (fun t ht hW => ⟨⟨some (.ref a), M, rfl, hP, by rw [ht]; exact hH⟩, hS.F ht⟩) hS.2.2 hd hlk
end ENDS
end
section
/-! whole numbers: every int is iI of a whole number -/
def iI (a : Int) : Int32 := Int32.ofInt a
theorem iI_add (a b : Int) : iI a + iI b = iI (a + b) := (Int32.ofInt_add a b).symm
theorem iI_sub (a b : Int) : iI a - iI b = iI (a - b) := (Int32.ofInt_sub a b).symm
theorem iI_mul (a b : Int) : iI a * iI b = iI (a * b) := (Int32.ofInt_mul a b).symm
theorem iI_neg (a : Int) : - iI a = iI (-a) := (Int32.ofInt_neg a).symm
theorem iI_toInt {a : Int} (h : -2147483648 ≤ a) (h2 : a ≤ 2147483647) : (iI a).toInt = a := by
  unfold iI
  rw [Int32.toInt_ofInt]
  have hz : (Int32.size : Int) = 4294967296 := rfl
  exact Int.bmod_eq_of_le (by omega) (by omega)
theorem iI_of (x : Int32) : iI x.toInt = x := Int32.ofInt_toInt x
theorem iI_lt {a b : Int} (h : -2147483648 ≤ a ∧ a ≤ 2147483647 ∧ -2147483648 ≤ b ∧ b ≤ 2147483647) : iI a < iI b ↔ a < b := by
  rw [Int32.lt_iff_toInt_lt, iI_toInt h.1 h.2.1, iI_toInt h.2.2.1 h.2.2.2]
theorem iI_le {a b : Int} (h : -2147483648 ≤ a ∧ a ≤ 2147483647 ∧ -2147483648 ≤ b ∧ b ≤ 2147483647) : iI a ≤ iI b ↔ a ≤ b := by
  rw [Int32.le_iff_toInt_le, iI_toInt h.1 h.2.1, iI_toInt h.2.2.1 h.2.2.2]
theorem iI_eq {a b : Int} (h : -2147483648 ≤ a ∧ a ≤ 2147483647 ∧ -2147483648 ≤ b ∧ b ≤ 2147483647) : iI a = iI b ↔ a = b := by
  constructor
  · intro e
    have := congrArg Int32.toInt e
    rwa [iI_toInt h.1 h.2.1, iI_toInt h.2.2.1 h.2.2.2] at this
  · intro e; rw [e]
theorem iI_nat (n : Nat) : Int32.ofNat n = iI (n : Int) := by
  unfold iI
  rw [Int32.ofInt_eq_ofNat]
theorem iI_cl {a : Int} (h : 0 ≤ a) (h2 : a ≤ 2147483647) : (iI a).toNatClampNeg = a.toNat := by
  rw [Int32.toNatClampNeg, iI_toInt (by omega) h2]
theorem iI_in {a : Int} {n : Nat} (h : 0 ≤ a ∧ a < (n : Int) ∧ (n : Int) ≤ 2147483647) : vp_in (iI a) n := by
  rw [vp_in_iff, iI_toInt (by omega) (by omega)]
  omega
theorem iI_div {a b : Int} (h : 0 ≤ a ∧ a ≤ 2147483647 ∧ 0 < b ∧ b ≤ 2147483647) : iI a / iI b = iI (a / b) := by
  apply Int32.toInt_inj.mp
  rw [Int32.toInt_div_of_ne_left, iI_toInt (by omega) (by omega), iI_toInt (by omega) (by omega), Int.tdiv_eq_ediv_of_nonneg h.1]
  · have h1 : 0 ≤ a / b := Int.ediv_nonneg h.1 (by omega)
    have h2 : a / b ≤ a := Int.ediv_le_self _ h.1
    rw [iI_toInt (by omega) (by omega)]
  · intro e
    have := congrArg Int32.toInt e
    rw [iI_toInt (by omega) (by omega)] at this
    have h3 : Int32.minValue.toInt = -2147483648 := by decide
    omega
theorem iI_ne0 {b : Int} (h : 0 < b ∧ b ≤ 2147483647) : ¬ iI b = 0 := by
  have : iI b = iI 0 ↔ b = 0 := iI_eq (by omega)
  intro e
  have := this.mp e
  omega
/-! the world of this claim: the survey at 0 .. 87, the reference at 88 .. 105 -/
abbrev Sg : Type := (Nat → Int → Int) × (Nat → Int64) × (Nat × Nat)
def kdL : List Nat := [7, 6, 3, 9, 2, 3, 9, 3, 9, 3, 9, 3, 9, 3, 9, 3, 9, 2, 3, 9, 3, 9, 3, 9, 3, 9, 3, 9, 3, 9, 4, 3, 9, 3, 9, 3, 9, 3, 9, 3, 9, 4, 3, 9, 3, 9, 3, 9, 3, 9, 3, 9, 4, 3, 9, 3, 9, 3, 9, 3, 9, 3, 9, 3, 9, 0, 3, 9, 3, 9, 3, 9, 5, 3, 9, 3, 9, 3, 9, 1, 3, 9, 3, 9, 3, 9, 3, 9, 8, 9, 9, 9, 9, 9, 9, 9, 9, 10, 9, 9, 9, 9, 9, 9, 9, 9]
def lnL : List Nat := [0, 0, 0, 120, 0, 0, 5, 0, 5, 0, 5, 0, 5, 0, 100, 0, 4, 0, 0, 5, 0, 5, 0, 5, 0, 5, 0, 100, 0, 4, 0, 0, 4, 0, 4, 0, 100, 0, 100, 0, 6, 0, 0, 4, 0, 4, 0, 100, 0, 100, 0, 6, 0, 0, 4, 0, 4, 0, 100, 0, 100, 0, 6, 0, 2, 0, 0, 10, 0, 10, 0, 10, 0, 0, 6, 0, 6, 0, 41, 0, 0, 6, 0, 6, 0, 6, 0, 6, 0, 120, 8, 10, 10, 10, 8, 212, 424, 2, 2120, 6, 6, 6, 6, 6, 6, 6]
def kd (k : Nat) : Nat := kdL.getD k 11
def ln (k : Nat) : Nat := lnL.getD k 0
def fl (W : Int → Int) (t : Int64) (P : Nat × Nat) (k c : Nat) : List Value := match c with
  | 0 => [.ref (k + 1), .ref (k + 3), .ref (k + 5)]
  | 1 => [.ref (k + 1), .ref (k + 3), .ref (k + 5), .ref (k + 7)]
  | 2 => [.ref (k + 1), .ref (k + 3), .ref (k + 5), .ref (k + 7), .ref (k + 9), .ref (k + 11), .int (iI (W 6)), .int (iI (W 7))]
  | 3 => [.ref (k + 1), .int (iI (W 1))]
  | 4 => [.ref (k + 1), .ref (k + 3), .ref (k + 5), .ref (k + 7), .ref (k + 9)]
  | 5 => [.ref (k + 1), .ref (k + 3), .ref (k + 5)]
  | 6 => [.ref (k + 1), .int (iI (W 1)), .int (iI (W 2)), .int (iI (W 3)), .int (iI (W 4)), .int (iI (W 5)), .int (iI (W 6))]
  | 7 => [.ref 1, .ref P.1, .ref P.2, .ref 30, .ref 41, .ref 52, .ref 63, .ref 65, .ref 72, .ref 79, .long t]
  | 8 => [.int (iI (W 0)), .long t, .ref 89, .int (iI (W 3)), .int (iI (W 4)), .int (iI (W 5)), .int (iI (W 6)), .int (iI (W 7)), .int (iI (W 8)), .ref 90, .int (iI (W 10)), .ref 91, .ref 92, .ref 93, .ref 94, .ref 95, .ref 96, .ref 97, .ref 98, .int (iI (W 19)), .ref 99, .ref 100, .int (iI (W 22)), .ref 101, .ref 102, .ref 103, .int (iI (W 26)), .ref 104, .ref 105]
  | _ => []
def af (W : Int → Int) : Nat → Int32 := fun q => iI (W (q : Int))
def mkc (W : Int → Int) (t : Int64) (P : Nat × Nat) (k c : Nat) : Option Ce := if c ≤ 8 then some (ob c (fl W t P k c)) else if c = 9 then some (ar (ln k) (af W)) else if c = 10 then some (zr (ln k) (af W)) else none
def mk (S : Sg) : Mem := (106, fun k => mkc (S.1 k) (S.2.1 k) S.2.2 k (kd k))
def uF (f : Int → Int) (i x : Int) : Int → Int := fun j => if j = i then x else f j
def uA (V : Nat → Int → Int) (k : Nat) (f : Int → Int) : Nat → Int → Int := fun a => if a = k then f else V a
/-- a number put: the i-th of what k holds becomes x -/
def pt (S : Sg) (k : Nat) (i x : Int) : Sg := (uA S.1 k (uF (S.1 k) i x), S.2)
def ptT (S : Sg) (k : Nat) (x : Int64) : Sg := (S.1, (fun j => if j = k then x else S.2.1 j), S.2.2)
def ptP (S : Sg) (P : Nat × Nat) : Sg := (S.1, S.2.1, P)
theorem uA_eq (V : Nat → Int → Int) (k : Nat) (f : Int → Int) : uA V k f k = f := if_pos rfl
theorem uA_ne (V : Nat → Int → Int) {k a : Nat} (f : Int → Int) (h : a ≠ k) : uA V k f a = V a := if_neg h
theorem uF_eq (f : Int → Int) (i x : Int) : uF f i x i = x := if_pos rfl
theorem uF_ne (f : Int → Int) {i j : Int} (x : Int) (h : j ≠ i) : uF f i x j = f j := if_neg h
def isI (c : Nat) (i : Int) : Bool := (c == 2 && (i == 6 || i == 7)) || (c == 3 && i == 1) || (c == 6 && (i == 1 || i == 2 || i == 3 || i == 4 || i == 5 || i == 6)) || (c == 8 && (i == 0 || i == 3 || i == 4 || i == 5 || i == 6 || i == 7 || i == 8 || i == 10 || i == 19 || i == 22 || i == 26))
theorem fl_set (W : Int → Int) (t : Int64) (P : Nat × Nat) (k c i : Nat) (x : Int) (h : isI c (i : Int) = true) : (fl W t P k c).set i (.int (iI x)) = fl (uF W (i : Int) x) t P k c ∧ i < (fl W t P k c).length := by
  have h2 : (c = 2 ∧ (i = 6 ∨ i = 7)) ∨ (c = 3 ∧ i = 1) ∨ (c = 6 ∧ (i = 1 ∨ i = 2 ∨ i = 3 ∨ i = 4 ∨ i = 5 ∨ i = 6)) ∨ (c = 8 ∧ (i = 0 ∨ i = 3 ∨ i = 4 ∨ i = 5 ∨ i = 6 ∨ i = 7 ∨ i = 8 ∨ i = 10 ∨ i = 19 ∨ i = 22 ∨ i = 26)) := by
    simp only [isI, Bool.or_eq_true, Bool.and_eq_true, beq_iff_eq] at h
    omega
  rcases h2 with ⟨rfl, rfl | rfl⟩ | ⟨rfl, rfl⟩ | ⟨rfl, rfl | rfl | rfl | rfl | rfl | rfl⟩ | ⟨rfl, rfl | rfl | rfl | rfl | rfl | rfl | rfl | rfl | rfl | rfl | rfl⟩ <;> simp [fl, uF]
theorem gt_ob (S : Sg) {k c : Nat} (hk : kd k = c) (h8 : c ≤ 8) : gt (mk S) k = some (ob c (fl (S.1 k) (S.2.1 k) S.2.2 k c)) := by
  subst hk
  simp only [gt, mk, mkc]
  rw [if_pos h8]
theorem gt_ar (S : Sg) {k : Nat} (hk : kd k = 9) : gt (mk S) k = some (ar (ln k) (af (S.1 k))) := by
  simp only [gt, mk, mkc, hk]
  rfl
theorem gt_zr (S : Sg) {k : Nat} (hk : kd k = 10) : gt (mk S) k = some (zr (ln k) (af (S.1 k))) := by
  simp only [gt, mk, mkc, hk]
  rfl
theorem up_mk {S S' : Sg} {k : Nat} {c : Ce} (h1 : mkc (S'.1 k) (S'.2.1 k) S'.2.2 k (kd k) = some c) (h2 : ∀ j, j ≠ k → mkc (S'.1 j) (S'.2.1 j) S'.2.2 j (kd j) = mkc (S.1 j) (S.2.1 j) S.2.2 j (kd j)) : up (mk S) k c = mk S' := by
  unfold up mk
  congr 1
  funext j
  by_cases hj : j = k
  · subst hj; rw [if_pos rfl]; exact h1.symm
  · rw [if_neg hj]; exact (h2 j hj).symm
theorem up_pt (S : Sg) {k c i : Nat} {x : Int} (hk : kd k = c) (h8 : c ≤ 8) : up (mk S) k (ob c (fl (uF (S.1 k) (i : Int) x) (S.2.1 k) S.2.2 k c)) = mk (pt S k (i : Int) x) := by
  subst hk
  refine up_mk ?_ (fun j hj => ?_)
  · simp only [pt, uA_eq, mkc]; rw [if_pos h8]
  · simp only [pt, uA_ne _ _ hj]
theorem af_up (W : Int → Int) {i x : Int} (h : 0 ≤ i) : upd (af W) i.toNat (iI x) = af (uF W i x) := by
  funext q
  simp only [upd, af, uF]
  by_cases hq : q = i.toNat
  · rw [if_pos hq, if_pos (by omega)]
  · rw [if_neg hq, if_neg (by omega)]
theorem up_ar (S : Sg) {k : Nat} {i x : Int} (hk : kd k = 9) (h : 0 ≤ i) : up (mk S) k (ar (ln k) (upd (af (S.1 k)) i.toNat (iI x))) = mk (pt S k i x) := by
  refine up_mk ?_ (fun j hj => ?_)
  · simp only [pt, uA_eq, mkc, hk, af_up _ h]; rfl
  · simp only [pt, uA_ne _ _ hj]
theorem up_zr (S : Sg) {k : Nat} {i x : Int} (hk : kd k = 10) (h : 0 ≤ i) : up (mk S) k (zr (ln k) (upd (af (S.1 k)) i.toNat (iI x))) = mk (pt S k i x) := by
  refine up_mk ?_ (fun j hj => ?_)
  · simp only [pt, uA_eq, mkc, hk, af_up _ h]; rfl
  · simp only [pt, uA_ne _ _ hj]
theorem kd7 : ∀ j, kd j = 7 → j = 0 := by
  intro j h
  by_cases hj : j < 106
  · have : ∀ j, j < 106 → kd j = 7 → j = 0 := by decide +kernel
    exact this j hj h
  · have : kd j = 11 := by
      unfold kd
      have h2 : kdL.length = 106 := by decide +kernel
      rw [List.getD_eq_getElem?_getD, List.getElem?_eq_none (by omega)]
      rfl
    omega
section GI
variable {F : FT} {cc : ByteArray} {nL : Nat} {own : String} {ret : Option FieldType} {M : Mem} {S : Sg} {cs sl pc pc' : Nat} {L st : List Value}
theorem gi_iconst (h : Fok F cc nL own ret) {n : Int} (hd : Dc cc pc (.iconst n) 1 pc') (k : Go F nL M cs sl pc' L (.int (iI n) :: st)) : Go F nL M cs sl pc L st := go_iconst h hd rfl k
theorem gi_bipush (h : Fok F cc nL own ret) {n : Int} (hd : Dc cc pc (.bipush n) 2 pc') (hv : (Int8.ofInt n).toInt32 = iI n) (k : Go F nL M cs sl pc' L (.int (iI n) :: st)) : Go F nL M cs sl pc L st := go_bipush h hd hv k
theorem gi_sipush (h : Fok F cc nL own ret) {n : Int} (hd : Dc cc pc (.sipush n) 3 pc') (hv : (Int16.ofInt n).toInt32 = iI n) (k : Go F nL M cs sl pc' L (.int (iI n) :: st)) : Go F nL M cs sl pc L st := go_sipush h hd hv k
theorem gi_ldc (h : Fok F cc nL own ret) {i : Nat} (n : Int) (hd : Dc cc pc (.ldc i) 2 pc') (hc : Cond.constant own i (iI n) ∈ lw_ws) (k : Go F nL M cs sl pc' L (.int (iI n) :: st)) : Go F nL M cs sl pc L st := go_ldc h hd hc k
theorem gi_iinc (h : Fok F cc nL own ret) {i : Nat} {n a : Int} {L' : List Value} (hd : Dc cc pc (.iinc i n) 3 pc') (hi : L[i]? = some (.int (iI a))) (hn : i < nL) (hc : c1 L = true) (hL : setL i (.int (iI (a + n))) L = L') (k : Go F nL M cs sl pc' L' st) : Go F nL M cs sl pc L st := go_iinc h hd hi (iI_add a n) hn hc hL k
theorem gi_iadd (h : Fok F cc nL own ret) {a b : Int} (hd : Dc cc pc .iadd 1 pc') (k : Go F nL M cs sl pc' L (.int (iI (a + b)) :: st)) : Go F nL M cs sl pc L (.int (iI b) :: .int (iI a) :: st) := go_iadd h hd (by rw [iI_add]; exact k)
theorem gi_isub (h : Fok F cc nL own ret) {a b : Int} (hd : Dc cc pc .isub 1 pc') (k : Go F nL M cs sl pc' L (.int (iI (a - b)) :: st)) : Go F nL M cs sl pc L (.int (iI b) :: .int (iI a) :: st) := go_isub h hd (by rw [iI_sub]; exact k)
theorem gi_imul (h : Fok F cc nL own ret) {a b : Int} (hd : Dc cc pc .imul 1 pc') (k : Go F nL M cs sl pc' L (.int (iI (a * b)) :: st)) : Go F nL M cs sl pc L (.int (iI b) :: .int (iI a) :: st) := go_imul h hd (by rw [iI_mul]; exact k)
theorem gi_ineg (h : Fok F cc nL own ret) {a : Int} (hd : Dc cc pc .ineg 1 pc') (k : Go F nL M cs sl pc' L (.int (iI (-a)) :: st)) : Go F nL M cs sl pc L (.int (iI a) :: st) := go_ineg h hd (by rw [iI_neg]; exact k)
theorem gi_idiv (h : Fok F cc nL own ret) {a b : Int} (hd : Dc cc pc .idiv 1 pc') (hq : 0 ≤ a ∧ a ≤ 2147483647 ∧ 0 < b ∧ b ≤ 2147483647) (k : Go F nL M cs sl pc' L (.int (iI (a / b)) :: st)) : Go F nL M cs sl pc L (.int (iI b) :: .int (iI a) :: st) := go_idiv h hd (iI_ne0 hq.2.2) (by rw [iI_div hq]; exact k)
theorem gi_irem (h : Fok F cc nL own ret) {a b : Int} (hd : Dc cc pc .irem 1 pc') (hq : 0 ≤ a ∧ a ≤ 2147483647 ∧ 0 < b ∧ b ≤ 2147483647) (k : Go F nL M cs sl pc' L (.int (iI (a % b)) :: st)) : Go F nL M cs sl pc L (.int (iI b) :: .int (iI a) :: st) := go_irem h hd (iI_ne0 hq.2.2) (by rw [iI_div hq, iI_mul, iI_sub, Int.mul_comm, show a - b * (a / b) = a % b from by have := Int.mul_ediv_add_emod a b; omega]; exact k)
theorem gi_iand (h : Fok F cc nL own ret) {a b : Int} (c : Int) (hd : Dc cc pc .iand 1 pc') (hv : iI a &&& iI b = iI c) (k : Go F nL M cs sl pc' L (.int (iI c) :: st)) : Go F nL M cs sl pc L (.int (iI b) :: .int (iI a) :: st) := go_iand h hd (by rw [hv]; exact k)
theorem gi_ior (h : Fok F cc nL own ret) {a b : Int} (c : Int) (hd : Dc cc pc .ior 1 pc') (hv : iI a ||| iI b = iI c) (k : Go F nL M cs sl pc' L (.int (iI c) :: st)) : Go F nL M cs sl pc L (.int (iI b) :: .int (iI a) :: st) := go_ior h hd (by rw [hv]; exact k)
theorem gi_ishl (h : Fok F cc nL own ret) {a b : Int} (c : Int) (hd : Dc cc pc .ishl 1 pc') (hv : iI a <<< (iI b &&& 31) = iI c) (k : Go F nL M cs sl pc' L (.int (iI c) :: st)) : Go F nL M cs sl pc L (.int (iI b) :: .int (iI a) :: st) := go_ishl h hd (by rw [hv]; exact k)
theorem gi_ishr (h : Fok F cc nL own ret) {a b : Int} (c : Int) (hd : Dc cc pc .ishr 1 pc') (hv : iI a >>> (iI b &&& 31) = iI c) (k : Go F nL M cs sl pc' L (.int (iI c) :: st)) : Go F nL M cs sl pc L (.int (iI b) :: .int (iI a) :: st) := go_ishr h hd (by rw [hv]; exact k)
theorem gi_icmp_eq (h : Fok F cc nL own ret) {a b : Int} {off : Int} {tgt : Nat} (hd : decode cc pc = .ok (.if_icmp .eq off, 3)) (ht : (pc : Int) + off = (tgt : Int)) (hp : pc + 3 = pc') (hq : -2147483648 ≤ a ∧ a ≤ 2147483647 ∧ -2147483648 ≤ b ∧ b ≤ 2147483647) (kt : a = b → Go F nL M cs sl tgt L st) (kf : ¬ a = b → Go F nL M cs sl pc' L st) : Go F nL M cs sl pc L (.int (iI b) :: .int (iI a) :: st) := go_icmp_eq h hd ht hp (fun q => kt ((iI_eq hq).mp q)) (fun q => kf (fun z => q ((iI_eq hq).mpr z)))
theorem gi_icmp_ne (h : Fok F cc nL own ret) {a b : Int} {off : Int} {tgt : Nat} (hd : decode cc pc = .ok (.if_icmp .ne off, 3)) (ht : (pc : Int) + off = (tgt : Int)) (hp : pc + 3 = pc') (hq : -2147483648 ≤ a ∧ a ≤ 2147483647 ∧ -2147483648 ≤ b ∧ b ≤ 2147483647) (kt : ¬ a = b → Go F nL M cs sl tgt L st) (kf : a = b → Go F nL M cs sl pc' L st) : Go F nL M cs sl pc L (.int (iI b) :: .int (iI a) :: st) := go_icmp_ne h hd ht hp (fun q => kt (fun z => q ((iI_eq hq).mpr z))) (fun q => kf ((iI_eq hq).mp q))
theorem gi_icmp_lt (h : Fok F cc nL own ret) {a b : Int} {off : Int} {tgt : Nat} (hd : decode cc pc = .ok (.if_icmp .lt off, 3)) (ht : (pc : Int) + off = (tgt : Int)) (hp : pc + 3 = pc') (hq : -2147483648 ≤ a ∧ a ≤ 2147483647 ∧ -2147483648 ≤ b ∧ b ≤ 2147483647) (kt : a < b → Go F nL M cs sl tgt L st) (kf : b ≤ a → Go F nL M cs sl pc' L st) : Go F nL M cs sl pc L (.int (iI b) :: .int (iI a) :: st) := go_icmp_lt h hd ht hp (fun q => kt ((iI_lt hq).mp q)) (fun q => kf (by have := mt (iI_lt hq).mpr q; omega))
theorem gi_icmp_ge (h : Fok F cc nL own ret) {a b : Int} {off : Int} {tgt : Nat} (hd : decode cc pc = .ok (.if_icmp .ge off, 3)) (ht : (pc : Int) + off = (tgt : Int)) (hp : pc + 3 = pc') (hq : -2147483648 ≤ a ∧ a ≤ 2147483647 ∧ -2147483648 ≤ b ∧ b ≤ 2147483647) (kt : b ≤ a → Go F nL M cs sl tgt L st) (kf : a < b → Go F nL M cs sl pc' L st) : Go F nL M cs sl pc L (.int (iI b) :: .int (iI a) :: st) := go_icmp_ge h hd ht hp (fun q => kt ((iI_le (by omega)).mp q)) (fun q => kf (by have := mt (iI_le (a := b) (b := a) (by omega)).mpr q; omega))
theorem gi_icmp_gt (h : Fok F cc nL own ret) {a b : Int} {off : Int} {tgt : Nat} (hd : decode cc pc = .ok (.if_icmp .gt off, 3)) (ht : (pc : Int) + off = (tgt : Int)) (hp : pc + 3 = pc') (hq : -2147483648 ≤ a ∧ a ≤ 2147483647 ∧ -2147483648 ≤ b ∧ b ≤ 2147483647) (kt : b < a → Go F nL M cs sl tgt L st) (kf : a ≤ b → Go F nL M cs sl pc' L st) : Go F nL M cs sl pc L (.int (iI b) :: .int (iI a) :: st) := go_icmp_gt h hd ht hp (fun q => kt ((iI_lt (by omega)).mp q)) (fun q => kf (by have := mt (iI_lt (a := b) (b := a) (by omega)).mpr q; omega))
theorem gi_icmp_le (h : Fok F cc nL own ret) {a b : Int} {off : Int} {tgt : Nat} (hd : decode cc pc = .ok (.if_icmp .le off, 3)) (ht : (pc : Int) + off = (tgt : Int)) (hp : pc + 3 = pc') (hq : -2147483648 ≤ a ∧ a ≤ 2147483647 ∧ -2147483648 ≤ b ∧ b ≤ 2147483647) (kt : a ≤ b → Go F nL M cs sl tgt L st) (kf : b < a → Go F nL M cs sl pc' L st) : Go F nL M cs sl pc L (.int (iI b) :: .int (iI a) :: st) := go_icmp_le h hd ht hp (fun q => kt ((iI_le hq).mp q)) (fun q => kf (by have := mt (iI_le hq).mpr q; omega))
theorem gi_if_eq (h : Fok F cc nL own ret) {a : Int} {off : Int} {tgt : Nat} (hd : decode cc pc = .ok (.ifCond .eq off, 3)) (ht : (pc : Int) + off = (tgt : Int)) (hp : pc + 3 = pc') (hq : -2147483648 ≤ a ∧ a ≤ 2147483647) (kt : a = 0 → Go F nL M cs sl tgt L st) (kf : ¬ a = 0 → Go F nL M cs sl pc' L st) : Go F nL M cs sl pc L (.int (iI a) :: st) := go_if_eq h hd ht hp (fun q => kt ((iI_eq (b := 0) (by omega)).mp q)) (fun q => kf (fun z => q ((iI_eq (b := 0) (by omega)).mpr z)))
theorem gi_if_ne (h : Fok F cc nL own ret) {a : Int} {off : Int} {tgt : Nat} (hd : decode cc pc = .ok (.ifCond .ne off, 3)) (ht : (pc : Int) + off = (tgt : Int)) (hp : pc + 3 = pc') (hq : -2147483648 ≤ a ∧ a ≤ 2147483647) (kt : ¬ a = 0 → Go F nL M cs sl tgt L st) (kf : a = 0 → Go F nL M cs sl pc' L st) : Go F nL M cs sl pc L (.int (iI a) :: st) := go_if_ne h hd ht hp (fun q => kt (fun z => q ((iI_eq (b := 0) (by omega)).mpr z))) (fun q => kf ((iI_eq (b := 0) (by omega)).mp q))
theorem gi_if_lt (h : Fok F cc nL own ret) {a : Int} {off : Int} {tgt : Nat} (hd : decode cc pc = .ok (.ifCond .lt off, 3)) (ht : (pc : Int) + off = (tgt : Int)) (hp : pc + 3 = pc') (hq : -2147483648 ≤ a ∧ a ≤ 2147483647) (kt : a < 0 → Go F nL M cs sl tgt L st) (kf : 0 ≤ a → Go F nL M cs sl pc' L st) : Go F nL M cs sl pc L (.int (iI a) :: st) := go_if_lt h hd ht hp (fun q => kt ((iI_lt (b := 0) (by omega)).mp q)) (fun q => kf (by have := mt (iI_lt (a := a) (b := 0) (by omega)).mpr q; omega))
theorem gi_if_ge (h : Fok F cc nL own ret) {a : Int} {off : Int} {tgt : Nat} (hd : decode cc pc = .ok (.ifCond .ge off, 3)) (ht : (pc : Int) + off = (tgt : Int)) (hp : pc + 3 = pc') (hq : -2147483648 ≤ a ∧ a ≤ 2147483647) (kt : 0 ≤ a → Go F nL M cs sl tgt L st) (kf : a < 0 → Go F nL M cs sl pc' L st) : Go F nL M cs sl pc L (.int (iI a) :: st) := go_if_ge h hd ht hp (fun q => kt ((iI_le (a := 0) (by omega)).mp q)) (fun q => kf (by have := mt (iI_le (a := 0) (b := a) (by omega)).mpr q; omega))
theorem gi_if_gt (h : Fok F cc nL own ret) {a : Int} {off : Int} {tgt : Nat} (hd : decode cc pc = .ok (.ifCond .gt off, 3)) (ht : (pc : Int) + off = (tgt : Int)) (hp : pc + 3 = pc') (hq : -2147483648 ≤ a ∧ a ≤ 2147483647) (kt : 0 < a → Go F nL M cs sl tgt L st) (kf : a ≤ 0 → Go F nL M cs sl pc' L st) : Go F nL M cs sl pc L (.int (iI a) :: st) := go_if_gt h hd ht hp (fun q => kt ((iI_lt (a := 0) (by omega)).mp q)) (fun q => kf (by have := mt (iI_lt (a := 0) (b := a) (by omega)).mpr q; omega))
theorem gi_if_le (h : Fok F cc nL own ret) {a : Int} {off : Int} {tgt : Nat} (hd : decode cc pc = .ok (.ifCond .le off, 3)) (ht : (pc : Int) + off = (tgt : Int)) (hp : pc + 3 = pc') (hq : -2147483648 ≤ a ∧ a ≤ 2147483647) (kt : a ≤ 0 → Go F nL M cs sl tgt L st) (kf : 0 < a → Go F nL M cs sl pc' L st) : Go F nL M cs sl pc L (.int (iI a) :: st) := go_if_le h hd ht hp (fun q => kt ((iI_le (b := 0) (by omega)).mp q)) (fun q => kf (by have := mt (iI_le (a := a) (b := 0) (by omega)).mpr q; omega))
theorem gs_get (h : Fok F cc nL own ret) {idx ci k a : Nat} {v : Value} (hd : Dc cc pc (.getfield idx) 3 pc') (lk : FL own idx ci k) (hk : kd a = ci) (h8 : ci ≤ 8) (hv : (fl (S.1 a) (S.2.1 a) S.2.2 a ci)[k]? = some v) (kk : Go F nL (mk S) cs sl pc' L (v :: st)) : Go F nL (mk S) cs sl pc L (.ref a :: st) := go_get h hd lk (gt_ob S hk h8) hv kk
theorem gs_putI (h : Fok F cc nL own ret) {idx ci k a : Nat} {x : Int} (hd : Dc cc pc (.putfield idx) 3 pc') (lk : FP own idx ci k false .int) (hk : kd a = ci) (h8 : ci ≤ 8) (hi : isI ci (k : Int) = true) (kk : Go F nL (mk (pt S a (k : Int) x)) cs sl pc' L st) : Go F nL (mk S) cs sl pc L (.int (iI x) :: .ref a :: st) := by
  have h1 := fl_set (S.1 a) (S.2.1 a) S.2.2 a ci k x hi
  refine go_put h hd lk (gt_ob S hk h8) (fun b => vp_nar_int _) (fun b => rfl) h1.2 h1.1 ?_
  rw [up_pt S hk h8]
  exact kk
theorem gs_putZ (h : Fok F cc nL own ret) {idx ci k a : Nat} {x : Int} (hd : Dc cc pc (.putfield idx) 3 pc') (lk : FP own idx ci k false .boolean) (hk : kd a = ci) (h8 : ci ≤ 8) (hi : isI ci (k : Int) = true) (hx : x = 0 ∨ x = 1) (kk : Go F nL (mk (pt S a (k : Int) x)) cs sl pc' L st) : Go F nL (mk S) cs sl pc L (.int (iI x) :: .ref a :: st) := by
  have h1 := fl_set (S.1 a) (S.2.1 a) S.2.2 a ci k x hi
  refine go_put h hd lk (gt_ob S hk h8) (fun b => by rcases hx with rfl | rfl <;> rfl) (fun b => by rcases hx with rfl | rfl <;> rfl) h1.2 h1.1 ?_
  rw [up_pt S hk h8]
  exact kk
theorem gs_alen (h : Fok F cc nL own ret) {a : Nat} (hd : Dc cc pc .arraylength 1 pc') (hk : kd a = 9) (kk : Go F nL (mk S) cs sl pc' L (.int (iI (ln a : Int)) :: st)) : Go F nL (mk S) cs sl pc L (.ref a :: st) := go_alen h hd (gt_ar S hk) (iI_nat _) kk
theorem gs_iald (h : Fok F cc nL own ret) {a : Nat} {i : Int} (hd : Dc cc pc .iaload 1 pc') (hk : kd a = 9) (hi : 0 ≤ i ∧ i < (ln a : Int) ∧ (ln a : Int) ≤ 2147483647) (kk : Go F nL (mk S) cs sl pc' L (.int (iI (S.1 a i)) :: st)) : Go F nL (mk S) cs sl pc L (.int (iI i) :: .ref a :: st) := go_iald h hd (gt_ar S hk) (iI_in hi) (by rw [iI_cl hi.1 (by omega)]; show iI (S.1 a (i.toNat : Int)) = _; rw [Int.toNat_of_nonneg hi.1]) kk
theorem gs_zald (h : Fok F cc nL own ret) {a : Nat} {i : Int} (hd : Dc cc pc .baload 1 pc') (hk : kd a = 10) (hi : 0 ≤ i ∧ i < (ln a : Int) ∧ (ln a : Int) ≤ 2147483647) (kk : Go F nL (mk S) cs sl pc' L (.int (iI (S.1 a i)) :: st)) : Go F nL (mk S) cs sl pc L (.int (iI i) :: .ref a :: st) := go_zald h hd (gt_zr S hk) (iI_in hi) (by rw [iI_cl hi.1 (by omega)]; show iI (S.1 a (i.toNat : Int)) = _; rw [Int.toNat_of_nonneg hi.1]) kk
theorem gs_iast (h : Fok F cc nL own ret) {a : Nat} {i x : Int} (hd : Dc cc pc .iastore 1 pc') (hk : kd a = 9) (hi : 0 ≤ i ∧ i < (ln a : Int) ∧ (ln a : Int) ≤ 2147483647) (kk : Go F nL (mk (pt S a i x)) cs sl pc' L st) : Go F nL (mk S) cs sl pc L (.int (iI x) :: .int (iI i) :: .ref a :: st) := go_iast h hd (gt_ar S hk) (iI_in hi) (by rw [iI_cl hi.1 (by omega), up_ar S hk hi.1]; exact kk)
theorem gs_zast (h : Fok F cc nL own ret) {a : Nat} {i x : Int} (hd : Dc cc pc .bastore 1 pc') (hk : kd a = 10) (hi : 0 ≤ i ∧ i < (ln a : Int) ∧ (ln a : Int) ≤ 2147483647) (hx : x = 0 ∨ x = 1) (kk : Go F nL (mk (pt S a i x)) cs sl pc' L st) : Go F nL (mk S) cs sl pc L (.int (iI x) :: .int (iI i) :: .ref a :: st) := go_zast h hd (gt_zr S hk) (iI_in hi) (by rcases hx with rfl | rfl <;> rfl) (by rw [iI_cl hi.1 (by omega), up_zr S hk hi.1]; exact kk)
theorem gs_putL7 (h : Fok F cc nL own ret) {idx : Nat} {x : Int64} (hd : Dc cc pc (.putfield idx) 3 pc') (lk : FP own idx 7 10 false .long) (kk : Go F nL (mk (ptT S 0 x)) cs sl pc' L st) : Go F nL (mk S) cs sl pc L (.long x :: .ref 0 :: st) := by
  refine go_put h hd lk (gt_ob S (k := 0) (c := 7) rfl (by decide)) (fun b => rfl) (fun b => rfl) (by simp [fl]) rfl ?_
  rw [up_mk (S := S) (S' := ptT S 0 x) (by rfl) (fun j hj => by simp only [ptT, if_neg hj])]
  exact kk
theorem gs_putL8 (h : Fok F cc nL own ret) {idx : Nat} {x : Int64} (hd : Dc cc pc (.putfield idx) 3 pc') (lk : FP own idx 8 1 false .long) (kk : Go F nL (mk (ptT S 88 x)) cs sl pc' L st) : Go F nL (mk S) cs sl pc L (.long x :: .ref 88 :: st) := by
  refine go_put h hd lk (gt_ob S (k := 88) (c := 8) rfl (by decide)) (fun b => rfl) (fun b => rfl) (by simp [fl]) rfl ?_
  rw [up_mk (S := S) (S' := ptT S 88 x) (by rfl) (fun j hj => by simp only [ptT, if_neg hj])]
  exact kk
theorem mkc_P (W : Int → Int) (t : Int64) (P P' : Nat × Nat) (k : Nat) (h : k ≠ 0) : mkc W t P k (kd k) = mkc W t P' k (kd k) := by
  by_cases h8 : kd k ≤ 8
  · have h7 : kd k ≠ 7 := fun e => h (kd7 k e)
    simp only [mkc]
    rw [if_pos h8, if_pos h8]
    have hh : kd k = 0 ∨ kd k = 1 ∨ kd k = 2 ∨ kd k = 3 ∨ kd k = 4 ∨ kd k = 5 ∨ kd k = 6 ∨ kd k = 8 := by omega
    rcases hh with e | e | e | e | e | e | e | e <;> rw [e] <;> rfl
  · simp only [mkc]
    rw [if_neg h8, if_neg h8]
theorem gs_putP1 (h : Fok F cc nL own ret) {idx x : Nat} (hd : Dc cc pc (.putfield idx) 3 pc') (lk : FP own idx 7 1 false (.object "LadderSurvey$Plan")) (kk : Go F nL (mk (ptP S (x, S.2.2.2))) cs sl pc' L st) : Go F nL (mk S) cs sl pc L (.ref x :: .ref 0 :: st) := by
  refine go_put h hd lk (gt_ob S (k := 0) (c := 7) rfl (by decide)) (fun b => rfl) (fun b => rfl) (by simp [fl]) rfl ?_
  rw [up_mk (S := S) (S' := ptP S (x, S.2.2.2)) (by rfl) (fun j hj => mkc_P _ _ _ _ j hj)]
  exact kk
theorem gs_putP2 (h : Fok F cc nL own ret) {idx x : Nat} (hd : Dc cc pc (.putfield idx) 3 pc') (lk : FP own idx 7 2 false (.object "LadderSurvey$Plan")) (kk : Go F nL (mk (ptP S (S.2.2.1, x))) cs sl pc' L st) : Go F nL (mk S) cs sl pc L (.ref x :: .ref 0 :: st) := by
  refine go_put h hd lk (gt_ob S (k := 0) (c := 7) rfl (by decide)) (fun b => rfl) (fun b => rfl) (by simp [fl]) rfl ?_
  rw [up_mk (S := S) (S' := ptP S (S.2.2.1, x)) (by rfl) (fun j hj => mkc_P _ _ _ _ j hj)]
  exact kk
end GI
end
