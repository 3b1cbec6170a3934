section
-- ===== PART A: goes FIRST, ahead of the names: the tables' words, and 'selects' of the private methods out of them =====
/-- a private method of a class that the tables say can be made, by its rows of tables_1 -/
def lw_okq (q : MethodName × Nat) : Prop := (q.1.cls ≠ "java/lang/invoke/MethodHandle" ∧ q.1.cls ≠ "java/lang/invoke/VarHandle") ∧ Cond.instantiable q.1.cls q.2 ∈ tables_1 ∧ Cond.privateMethod q.1 ∈ tables_1 ∧ Cond.instanceMethod q.1 ∈ tables_1
theorem lw_p0 : lw_okq (⟨"LadderSurvey$Text", "nextToken", "()V"⟩, 7) := ⟨⟨by decide +kernel, by decide +kernel⟩, List.mem_of_getElem? (i := 21) (by decide +kernel), List.mem_of_getElem? (i := 279) (by decide +kernel), List.mem_of_getElem? (i := 280) (by decide +kernel)⟩
theorem lw_p1 : lw_okq (⟨"LadderSurvey$Text", "readItem", "(LLadderSurvey$Plan;)Z"⟩, 7) := ⟨⟨by decide +kernel, by decide +kernel⟩, List.mem_of_getElem? (i := 21) (by decide +kernel), List.mem_of_getElem? (i := 294) (by decide +kernel), List.mem_of_getElem? (i := 295) (by decide +kernel)⟩
theorem lw_p2 : lw_okq (⟨"LadderSurvey$Text", "readStretch", "(LLadderSurvey$Plan;)Z"⟩, 7) := ⟨⟨by decide +kernel, by decide +kernel⟩, List.mem_of_getElem? (i := 21) (by decide +kernel), List.mem_of_getElem? (i := 299) (by decide +kernel), List.mem_of_getElem? (i := 300) (by decide +kernel)⟩
theorem lw_p3 : lw_okq (⟨"LadderSurvey$Text", "readNumber", "(II)Z"⟩, 7) := ⟨⟨by decide +kernel, by decide +kernel⟩, List.mem_of_getElem? (i := 21) (by decide +kernel), List.mem_of_getElem? (i := 303) (by decide +kernel), List.mem_of_getElem? (i := 304) (by decide +kernel)⟩
theorem lw_p4 : lw_okq (⟨"LadderSurvey$Text", "readItemEnd", "()Z"⟩, 7) := ⟨⟨by decide +kernel, by decide +kernel⟩, List.mem_of_getElem? (i := 21) (by decide +kernel), List.mem_of_getElem? (i := 314) (by decide +kernel), List.mem_of_getElem? (i := 315) (by decide +kernel)⟩
theorem lw_p5 : lw_okq (⟨"LadderSurvey$Text", "readTraveller", "(LLadderSurvey$Plan;)Z"⟩, 7) := ⟨⟨by decide +kernel, by decide +kernel⟩, List.mem_of_getElem? (i := 21) (by decide +kernel), List.mem_of_getElem? (i := 318) (by decide +kernel), List.mem_of_getElem? (i := 319) (by decide +kernel)⟩
theorem lw_p6 : lw_okq (⟨"LadderSurvey$Text", "readReach", "(LLadderSurvey$Plan;)Z"⟩, 7) := ⟨⟨by decide +kernel, by decide +kernel⟩, List.mem_of_getElem? (i := 21) (by decide +kernel), List.mem_of_getElem? (i := 323) (by decide +kernel), List.mem_of_getElem? (i := 324) (by decide +kernel)⟩
theorem lw_p7 : lw_okq (⟨"LadderSurvey$Text", "readBoys", "(LLadderSurvey$Plan;)Z"⟩, 7) := ⟨⟨by decide +kernel, by decide +kernel⟩, List.mem_of_getElem? (i := 21) (by decide +kernel), List.mem_of_getElem? (i := 327) (by decide +kernel), List.mem_of_getElem? (i := 328) (by decide +kernel)⟩
theorem lw_p8 : lw_okq (⟨"LadderSurvey$Deeds", "drop", "(I)V"⟩, 3) := ⟨⟨by decide +kernel, by decide +kernel⟩, List.mem_of_getElem? (i := 144) (by decide +kernel), List.mem_of_getElem? (i := 441) (by decide +kernel), List.mem_of_getElem? (i := 442) (by decide +kernel)⟩
theorem lw_p9 : lw_okq (⟨"LadderSurvey$Seen", "dropUnlikeSeen", "(I)V"⟩, 3) := ⟨⟨by decide +kernel, by decide +kernel⟩, List.mem_of_getElem? (i := 162) (by decide +kernel), List.mem_of_getElem? (i := 531) (by decide +kernel), List.mem_of_getElem? (i := 532) (by decide +kernel)⟩
theorem lw_p10 : lw_okq (⟨"LadderSurvey$Seen", "keepOnly", "(I)V"⟩, 3) := ⟨⟨by decide +kernel, by decide +kernel⟩, List.mem_of_getElem? (i := 162) (by decide +kernel), List.mem_of_getElem? (i := 537) (by decide +kernel), List.mem_of_getElem? (i := 538) (by decide +kernel)⟩
theorem lw_p11 : lw_okq (⟨"LadderSurvey$Seen", "addGoings", "(II)V"⟩, 3) := ⟨⟨by decide +kernel, by decide +kernel⟩, List.mem_of_getElem? (i := 162) (by decide +kernel), List.mem_of_getElem? (i := 541) (by decide +kernel), List.mem_of_getElem? (i := 542) (by decide +kernel)⟩
theorem lw_p12 : lw_okq (⟨"LadderSurvey$Measures", "gapOf", "(I)I"⟩, 4) := ⟨⟨by decide +kernel, by decide +kernel⟩, List.mem_of_getElem? (i := 181) (by decide +kernel), List.mem_of_getElem? (i := 585) (by decide +kernel), List.mem_of_getElem? (i := 586) (by decide +kernel)⟩
theorem lw_p13 : lw_okq (⟨"LadderSurvey", "rateStretch", "(I)I"⟩, 11) := ⟨⟨by decide +kernel, by decide +kernel⟩, List.mem_of_getElem? (i := 13) (by decide +kernel), List.mem_of_getElem? (i := 631) (by decide +kernel), List.mem_of_getElem? (i := 632) (by decide +kernel)⟩
theorem lw_p14 : lw_okq (⟨"LadderSurvey", "rateFeather", "(I)I"⟩, 11) := ⟨⟨by decide +kernel, by decide +kernel⟩, List.mem_of_getElem? (i := 13) (by decide +kernel), List.mem_of_getElem? (i := 635) (by decide +kernel), List.mem_of_getElem? (i := 636) (by decide +kernel)⟩
theorem lw_p15 : lw_okq (⟨"LadderSurvey", "rateBench", "(I)I"⟩, 11) := ⟨⟨by decide +kernel, by decide +kernel⟩, List.mem_of_getElem? (i := 13) (by decide +kernel), List.mem_of_getElem? (i := 644) (by decide +kernel), List.mem_of_getElem? (i := 645) (by decide +kernel)⟩
def lw_privs_1 : List (MethodName × Nat) := [(⟨"LadderSurvey$Text", "nextToken", "()V"⟩, 7), (⟨"LadderSurvey$Text", "readItem", "(LLadderSurvey$Plan;)Z"⟩, 7), (⟨"LadderSurvey$Text", "readStretch", "(LLadderSurvey$Plan;)Z"⟩, 7), (⟨"LadderSurvey$Text", "readNumber", "(II)Z"⟩, 7), (⟨"LadderSurvey$Text", "readItemEnd", "()Z"⟩, 7), (⟨"LadderSurvey$Text", "readTraveller", "(LLadderSurvey$Plan;)Z"⟩, 7), (⟨"LadderSurvey$Text", "readReach", "(LLadderSurvey$Plan;)Z"⟩, 7), (⟨"LadderSurvey$Text", "readBoys", "(LLadderSurvey$Plan;)Z"⟩, 7), (⟨"LadderSurvey$Deeds", "drop", "(I)V"⟩, 3), (⟨"LadderSurvey$Seen", "dropUnlikeSeen", "(I)V"⟩, 3), (⟨"LadderSurvey$Seen", "keepOnly", "(I)V"⟩, 3), (⟨"LadderSurvey$Seen", "addGoings", "(II)V"⟩, 3), (⟨"LadderSurvey$Measures", "gapOf", "(I)I"⟩, 4), (⟨"LadderSurvey", "rateStretch", "(I)I"⟩, 11), (⟨"LadderSurvey", "rateFeather", "(I)I"⟩, 11), (⟨"LadderSurvey", "rateBench", "(I)I"⟩, 11)]
theorem lw_r1 : ∀ q ∈ lw_privs_1, lw_okq q := List.forall_mem_cons.mpr ⟨lw_p0, List.forall_mem_cons.mpr ⟨lw_p1, List.forall_mem_cons.mpr ⟨lw_p2, List.forall_mem_cons.mpr ⟨lw_p3, List.forall_mem_cons.mpr ⟨lw_p4, List.forall_mem_cons.mpr ⟨lw_p5, List.forall_mem_cons.mpr ⟨lw_p6, List.forall_mem_cons.mpr ⟨lw_p7, List.forall_mem_cons.mpr ⟨lw_p8, List.forall_mem_cons.mpr ⟨lw_p9, List.forall_mem_cons.mpr ⟨lw_p10, List.forall_mem_cons.mpr ⟨lw_p11, List.forall_mem_cons.mpr ⟨lw_p12, List.forall_mem_cons.mpr ⟨lw_p13, List.forall_mem_cons.mpr ⟨lw_p14, List.forall_mem_cons.mpr ⟨lw_p15, fun _ h => absurd h List.not_mem_nil⟩⟩⟩⟩⟩⟩⟩⟩⟩⟩⟩⟩⟩⟩⟩⟩
theorem lw_p16 : lw_okq (⟨"LadderSurvey", "rateWing", "(I)I"⟩, 11) := ⟨⟨by decide +kernel, by decide +kernel⟩, List.mem_of_getElem? (i := 13) (by decide +kernel), List.mem_of_getElem? (i := 649) (by decide +kernel), List.mem_of_getElem? (i := 650) (by decide +kernel)⟩
theorem lw_p17 : lw_okq (⟨"LadderSurvey", "rateName", "(I)I"⟩, 11) := ⟨⟨by decide +kernel, by decide +kernel⟩, List.mem_of_getElem? (i := 13) (by decide +kernel), List.mem_of_getElem? (i := 654) (by decide +kernel), List.mem_of_getElem? (i := 655) (by decide +kernel)⟩
theorem lw_p18 : lw_okq (⟨"LadderSurvey", "rateCloud", "(I)I"⟩, 11) := ⟨⟨by decide +kernel, by decide +kernel⟩, List.mem_of_getElem? (i := 13) (by decide +kernel), List.mem_of_getElem? (i := 659) (by decide +kernel), List.mem_of_getElem? (i := 660) (by decide +kernel)⟩
theorem lw_p19 : lw_okq (⟨"LadderSurvey", "imageOf", "(I)LLadderSurvey$Scene;"⟩, 11) := ⟨⟨by decide +kernel, by decide +kernel⟩, List.mem_of_getElem? (i := 13) (by decide +kernel), List.mem_of_getElem? (i := 668) (by decide +kernel), List.mem_of_getElem? (i := 669) (by decide +kernel)⟩
theorem lw_p20 : lw_okq (⟨"LadderSurveyModel", "begins", "()V"⟩, 29) := ⟨⟨by decide +kernel, by decide +kernel⟩, List.mem_of_getElem? (i := 693) (by decide +kernel), List.mem_of_getElem? (i := 699) (by decide +kernel), List.mem_of_getElem? (i := 700) (by decide +kernel)⟩
theorem lw_p21 : lw_okq (⟨"LadderSurveyModel", "settles", "()V"⟩, 29) := ⟨⟨by decide +kernel, by decide +kernel⟩, List.mem_of_getElem? (i := 693) (by decide +kernel), List.mem_of_getElem? (i := 703) (by decide +kernel), List.mem_of_getElem? (i := 704) (by decide +kernel)⟩
theorem lw_p22 : lw_okq (⟨"LadderSurveyModel", "advances", "()V"⟩, 29) := ⟨⟨by decide +kernel, by decide +kernel⟩, List.mem_of_getElem? (i := 693) (by decide +kernel), List.mem_of_getElem? (i := 811) (by decide +kernel), List.mem_of_getElem? (i := 812) (by decide +kernel)⟩
theorem lw_p23 : lw_okq (⟨"LadderSurveyModel", "letterAt", "(I)I"⟩, 29) := ⟨⟨by decide +kernel, by decide +kernel⟩, List.mem_of_getElem? (i := 693) (by decide +kernel), List.mem_of_getElem? (i := 815) (by decide +kernel), List.mem_of_getElem? (i := 816) (by decide +kernel)⟩
theorem lw_p24 : lw_okq (⟨"LadderSurveyModel", "isWell", "()Z"⟩, 29) := ⟨⟨by decide +kernel, by decide +kernel⟩, List.mem_of_getElem? (i := 693) (by decide +kernel), List.mem_of_getElem? (i := 822) (by decide +kernel), List.mem_of_getElem? (i := 823) (by decide +kernel)⟩
theorem lw_p25 : lw_okq (⟨"LadderSurveyModel", "mayBegin", "()Z"⟩, 29) := ⟨⟨by decide +kernel, by decide +kernel⟩, List.mem_of_getElem? (i := 693) (by decide +kernel), List.mem_of_getElem? (i := 826) (by decide +kernel), List.mem_of_getElem? (i := 827) (by decide +kernel)⟩
theorem lw_p26 : lw_okq (⟨"LadderSurveyModel", "takes", "(Z)I"⟩, 29) := ⟨⟨by decide +kernel, by decide +kernel⟩, List.mem_of_getElem? (i := 693) (by decide +kernel), List.mem_of_getElem? (i := 830) (by decide +kernel), List.mem_of_getElem? (i := 831) (by decide +kernel)⟩
theorem lw_p27 : lw_okq (⟨"LadderSurveyModel", "readsItem", "(I)V"⟩, 29) := ⟨⟨by decide +kernel, by decide +kernel⟩, List.mem_of_getElem? (i := 693) (by decide +kernel), List.mem_of_getElem? (i := 834) (by decide +kernel), List.mem_of_getElem? (i := 835) (by decide +kernel)⟩
theorem lw_p28 : lw_okq (⟨"LadderSurveyModel", "number", "(II)I"⟩, 29) := ⟨⟨by decide +kernel, by decide +kernel⟩, List.mem_of_getElem? (i := 693) (by decide +kernel), List.mem_of_getElem? (i := 838) (by decide +kernel), List.mem_of_getElem? (i := 839) (by decide +kernel)⟩
theorem lw_p29 : lw_okq (⟨"LadderSurveyModel", "isStretch", "(I)Z"⟩, 29) := ⟨⟨by decide +kernel, by decide +kernel⟩, List.mem_of_getElem? (i := 693) (by decide +kernel), List.mem_of_getElem? (i := 846) (by decide +kernel), List.mem_of_getElem? (i := 847) (by decide +kernel)⟩
theorem lw_p30 : lw_okq (⟨"LadderSurveyModel", "markOf", "(I)I"⟩, 29) := ⟨⟨by decide +kernel, by decide +kernel⟩, List.mem_of_getElem? (i := 693) (by decide +kernel), List.mem_of_getElem? (i := 851) (by decide +kernel), List.mem_of_getElem? (i := 852) (by decide +kernel)⟩
theorem lw_p31 : lw_okq (⟨"LadderSurveyModel", "isTraveller", "(I)Z"⟩, 29) := ⟨⟨by decide +kernel, by decide +kernel⟩, List.mem_of_getElem? (i := 693) (by decide +kernel), List.mem_of_getElem? (i := 859) (by decide +kernel), List.mem_of_getElem? (i := 860) (by decide +kernel)⟩
def lw_privs_2 : List (MethodName × Nat) := [(⟨"LadderSurvey", "rateWing", "(I)I"⟩, 11), (⟨"LadderSurvey", "rateName", "(I)I"⟩, 11), (⟨"LadderSurvey", "rateCloud", "(I)I"⟩, 11), (⟨"LadderSurvey", "imageOf", "(I)LLadderSurvey$Scene;"⟩, 11), (⟨"LadderSurveyModel", "begins", "()V"⟩, 29), (⟨"LadderSurveyModel", "settles", "()V"⟩, 29), (⟨"LadderSurveyModel", "advances", "()V"⟩, 29), (⟨"LadderSurveyModel", "letterAt", "(I)I"⟩, 29), (⟨"LadderSurveyModel", "isWell", "()Z"⟩, 29), (⟨"LadderSurveyModel", "mayBegin", "()Z"⟩, 29), (⟨"LadderSurveyModel", "takes", "(Z)I"⟩, 29), (⟨"LadderSurveyModel", "readsItem", "(I)V"⟩, 29), (⟨"LadderSurveyModel", "number", "(II)I"⟩, 29), (⟨"LadderSurveyModel", "isStretch", "(I)Z"⟩, 29), (⟨"LadderSurveyModel", "markOf", "(I)I"⟩, 29), (⟨"LadderSurveyModel", "isTraveller", "(I)Z"⟩, 29)]
theorem lw_r2 : ∀ q ∈ lw_privs_2, lw_okq q := List.forall_mem_cons.mpr ⟨lw_p16, List.forall_mem_cons.mpr ⟨lw_p17, List.forall_mem_cons.mpr ⟨lw_p18, List.forall_mem_cons.mpr ⟨lw_p19, List.forall_mem_cons.mpr ⟨lw_p20, List.forall_mem_cons.mpr ⟨lw_p21, List.forall_mem_cons.mpr ⟨lw_p22, List.forall_mem_cons.mpr ⟨lw_p23, List.forall_mem_cons.mpr ⟨lw_p24, List.forall_mem_cons.mpr ⟨lw_p25, List.forall_mem_cons.mpr ⟨lw_p26, List.forall_mem_cons.mpr ⟨lw_p27, List.forall_mem_cons.mpr ⟨lw_p28, List.forall_mem_cons.mpr ⟨lw_p29, List.forall_mem_cons.mpr ⟨lw_p30, List.forall_mem_cons.mpr ⟨lw_p31, fun _ h => absurd h List.not_mem_nil⟩⟩⟩⟩⟩⟩⟩⟩⟩⟩⟩⟩⟩⟩⟩⟩
theorem lw_p32 : lw_okq (⟨"LadderSurveyModel", "top", "()I"⟩, 29) := ⟨⟨by decide +kernel, by decide +kernel⟩, List.mem_of_getElem? (i := 693) (by decide +kernel), List.mem_of_getElem? (i := 867) (by decide +kernel), List.mem_of_getElem? (i := 868) (by decide +kernel)⟩
theorem lw_p33 : lw_okq (⟨"LadderSurveyModel", "allWear", "()I"⟩, 29) := ⟨⟨by decide +kernel, by decide +kernel⟩, List.mem_of_getElem? (i := 693) (by decide +kernel), List.mem_of_getElem? (i := 882) (by decide +kernel), List.mem_of_getElem? (i := 883) (by decide +kernel)⟩
theorem lw_p34 : lw_okq (⟨"LadderSurveyModel", "steepest", "()I"⟩, 29) := ⟨⟨by decide +kernel, by decide +kernel⟩, List.mem_of_getElem? (i := 693) (by decide +kernel), List.mem_of_getElem? (i := 886) (by decide +kernel), List.mem_of_getElem? (i := 887) (by decide +kernel)⟩
theorem lw_p35 : lw_okq (⟨"LadderSurveyModel", "heightAt", "(I)I"⟩, 29) := ⟨⟨by decide +kernel, by decide +kernel⟩, List.mem_of_getElem? (i := 693) (by decide +kernel), List.mem_of_getElem? (i := 890) (by decide +kernel), List.mem_of_getElem? (i := 891) (by decide +kernel)⟩
theorem lw_p36 : lw_okq (⟨"LadderSurveyModel", "daysBy", "(I)I"⟩, 29) := ⟨⟨by decide +kernel, by decide +kernel⟩, List.mem_of_getElem? (i := 693) (by decide +kernel), List.mem_of_getElem? (i := 894) (by decide +kernel), List.mem_of_getElem? (i := 895) (by decide +kernel)⟩
theorem lw_p37 : lw_okq (⟨"LadderSurveyModel", "isStaying", "(I)Z"⟩, 29) := ⟨⟨by decide +kernel, by decide +kernel⟩, List.mem_of_getElem? (i := 693) (by decide +kernel), List.mem_of_getElem? (i := 902) (by decide +kernel), List.mem_of_getElem? (i := 903) (by decide +kernel)⟩
theorem lw_p38 : lw_okq (⟨"LadderSurveyModel", "notes", "()V"⟩, 29) := ⟨⟨by decide +kernel, by decide +kernel⟩, List.mem_of_getElem? (i := 693) (by decide +kernel), List.mem_of_getElem? (i := 906) (by decide +kernel), List.mem_of_getElem? (i := 907) (by decide +kernel)⟩
theorem lw_p39 : lw_okq (⟨"LadderSurveyModel", "oldestAt", "(I)I"⟩, 29) := ⟨⟨by decide +kernel, by decide +kernel⟩, List.mem_of_getElem? (i := 693) (by decide +kernel), List.mem_of_getElem? (i := 922) (by decide +kernel), List.mem_of_getElem? (i := 923) (by decide +kernel)⟩
theorem lw_p40 : lw_okq (⟨"LadderSurveyModel", "altitudeOf", "(I)I"⟩, 29) := ⟨⟨by decide +kernel, by decide +kernel⟩, List.mem_of_getElem? (i := 693) (by decide +kernel), List.mem_of_getElem? (i := 934) (by decide +kernel), List.mem_of_getElem? (i := 935) (by decide +kernel)⟩
theorem lw_p41 : lw_okq (⟨"LadderSurveyModel", "isAsSeen", "(I)Z"⟩, 29) := ⟨⟨by decide +kernel, by decide +kernel⟩, List.mem_of_getElem? (i := 693) (by decide +kernel), List.mem_of_getElem? (i := 958) (by decide +kernel), List.mem_of_getElem? (i := 959) (by decide +kernel)⟩
theorem lw_p42 : lw_okq (⟨"LadderSurveyModel", "leastChanges", "()I"⟩, 29) := ⟨⟨by decide +kernel, by decide +kernel⟩, List.mem_of_getElem? (i := 693) (by decide +kernel), List.mem_of_getElem? (i := 974) (by decide +kernel), List.mem_of_getElem? (i := 975) (by decide +kernel)⟩
theorem lw_p43 : lw_okq (⟨"LadderSurveyModel", "hangs", "(I)Z"⟩, 29) := ⟨⟨by decide +kernel, by decide +kernel⟩, List.mem_of_getElem? (i := 693) (by decide +kernel), List.mem_of_getElem? (i := 979) (by decide +kernel), List.mem_of_getElem? (i := 980) (by decide +kernel)⟩
theorem lw_p44 : lw_okq (⟨"LadderSurveyModel", "canOwn", "(I)Z"⟩, 29) := ⟨⟨by decide +kernel, by decide +kernel⟩, List.mem_of_getElem? (i := 693) (by decide +kernel), List.mem_of_getElem? (i := 994) (by decide +kernel), List.mem_of_getElem? (i := 995) (by decide +kernel)⟩
theorem lw_p45 : lw_okq (⟨"LadderSurveyModel", "thingsOn", "(I)I"⟩, 29) := ⟨⟨by decide +kernel, by decide +kernel⟩, List.mem_of_getElem? (i := 693) (by decide +kernel), List.mem_of_getElem? (i := 1015) (by decide +kernel), List.mem_of_getElem? (i := 1016) (by decide +kernel)⟩
def lw_privs_3 : List (MethodName × Nat) := [(⟨"LadderSurveyModel", "top", "()I"⟩, 29), (⟨"LadderSurveyModel", "allWear", "()I"⟩, 29), (⟨"LadderSurveyModel", "steepest", "()I"⟩, 29), (⟨"LadderSurveyModel", "heightAt", "(I)I"⟩, 29), (⟨"LadderSurveyModel", "daysBy", "(I)I"⟩, 29), (⟨"LadderSurveyModel", "isStaying", "(I)Z"⟩, 29), (⟨"LadderSurveyModel", "notes", "()V"⟩, 29), (⟨"LadderSurveyModel", "oldestAt", "(I)I"⟩, 29), (⟨"LadderSurveyModel", "altitudeOf", "(I)I"⟩, 29), (⟨"LadderSurveyModel", "isAsSeen", "(I)Z"⟩, 29), (⟨"LadderSurveyModel", "leastChanges", "()I"⟩, 29), (⟨"LadderSurveyModel", "hangs", "(I)Z"⟩, 29), (⟨"LadderSurveyModel", "canOwn", "(I)Z"⟩, 29), (⟨"LadderSurveyModel", "thingsOn", "(I)I"⟩, 29)]
theorem lw_r3 : ∀ q ∈ lw_privs_3, lw_okq q := List.forall_mem_cons.mpr ⟨lw_p32, List.forall_mem_cons.mpr ⟨lw_p33, List.forall_mem_cons.mpr ⟨lw_p34, List.forall_mem_cons.mpr ⟨lw_p35, List.forall_mem_cons.mpr ⟨lw_p36, List.forall_mem_cons.mpr ⟨lw_p37, List.forall_mem_cons.mpr ⟨lw_p38, List.forall_mem_cons.mpr ⟨lw_p39, List.forall_mem_cons.mpr ⟨lw_p40, List.forall_mem_cons.mpr ⟨lw_p41, List.forall_mem_cons.mpr ⟨lw_p42, List.forall_mem_cons.mpr ⟨lw_p43, List.forall_mem_cons.mpr ⟨lw_p44, List.forall_mem_cons.mpr ⟨lw_p45, fun _ h => absurd h List.not_mem_nil⟩⟩⟩⟩⟩⟩⟩⟩⟩⟩⟩⟩⟩⟩
def lw_privs : List (MethodName × Nat) := lw_privs_1 ++ (lw_privs_2 ++ (lw_privs_3))
def lw_tbl : List Cond := k2_sels lw_privs ++ tables_1
theorem lw_privs_ok : ∀ q ∈ lw_privs, lw_okq q := by
  show ∀ q ∈ lw_privs_1 ++ (lw_privs_2 ++ (lw_privs_3)), lw_okq q
  exact List.forall_mem_append.mpr ⟨lw_r1, List.forall_mem_append.mpr ⟨lw_r2, lw_r3⟩⟩
/-! the classes, their fields -/
def cN0 : String := "LadderSurvey$Deeds"
def fT0 : u_T := fun k => match k with
  | 0 => ("LadderSurvey$Deeds", "kinds", "LLadderSurvey$Row;", true)
  | 1 => ("LadderSurvey$Deeds", "travellers", "LLadderSurvey$Row;", true)
  | _ => ("LadderSurvey$Deeds", "details", "LLadderSurvey$Row;", true)
def fY0 : Nat → FieldType := fun k => match k with
  | 0 => .object "LadderSurvey$Row"
  | 1 => .object "LadderSurvey$Row"
  | _ => .object "LadderSurvey$Row"
theorem fN0 : ∀ a, a < 3 → ∀ b, b < 3 → a ≠ b → (fT0 a).2.1 ≠ (fT0 b).2.1 := by decide +kernel
theorem fO0 : ∀ k, k < 3 → parseFieldDescriptor (fT0 k).2.2.1 = some (fY0 k) := by decide +kernel
def cN1 : String := "LadderSurvey$Measures"
def fT1 : u_T := fun k => match k with
  | 0 => ("LadderSurvey$Measures", "froms", "LLadderSurvey$Row;", true)
  | 1 => ("LadderSurvey$Measures", "tos", "LLadderSurvey$Row;", true)
  | 2 => ("LadderSurvey$Measures", "heights", "LLadderSurvey$Row;", true)
  | _ => ("LadderSurvey$Measures", "balance", "LLadderSurvey$Row;", true)
def fY1 : Nat → FieldType := fun k => match k with
  | 0 => .object "LadderSurvey$Row"
  | 1 => .object "LadderSurvey$Row"
  | 2 => .object "LadderSurvey$Row"
  | _ => .object "LadderSurvey$Row"
theorem fN1 : ∀ a, a < 4 → ∀ b, b < 4 → a ≠ b → (fT1 a).2.1 ≠ (fT1 b).2.1 := by decide +kernel
theorem fO1 : ∀ k, k < 4 → parseFieldDescriptor (fT1 k).2.2.1 = some (fY1 k) := by decide +kernel
def cN2 : String := "LadderSurvey$Plan"
def fT2 : u_T := fun k => match k with
  | 0 => ("LadderSurvey$Plan", "longs", "LLadderSurvey$Row;", true)
  | 1 => ("LadderSurvey$Plan", "rises", "LLadderSurvey$Row;", true)
  | 2 => ("LadderSurvey$Plan", "bends", "LLadderSurvey$Row;", true)
  | 3 => ("LadderSurvey$Plan", "uppers", "LLadderSurvey$Row;", true)
  | 4 => ("LadderSurvey$Plan", "heights", "LLadderSurvey$Row;", true)
  | 5 => ("LadderSurvey$Plan", "breaths", "LLadderSurvey$Row;", true)
  | 6 => ("LadderSurvey$Plan", "reach", "I", false)
  | _ => ("LadderSurvey$Plan", "boys", "I", false)
def fY2 : Nat → FieldType := fun k => match k with
  | 0 => .object "LadderSurvey$Row"
  | 1 => .object "LadderSurvey$Row"
  | 2 => .object "LadderSurvey$Row"
  | 3 => .object "LadderSurvey$Row"
  | 4 => .object "LadderSurvey$Row"
  | 5 => .object "LadderSurvey$Row"
  | 6 => .int
  | _ => .int
theorem fN2 : ∀ a, a < 8 → ∀ b, b < 8 → a ≠ b → (fT2 a).2.1 ≠ (fT2 b).2.1 := by decide +kernel
theorem fO2 : ∀ k, k < 8 → parseFieldDescriptor (fT2 k).2.2.1 = some (fY2 k) := by decide +kernel
def cN3 : String := "LadderSurvey$Row"
def fT3 : u_T := fun k => match k with
  | 0 => ("LadderSurvey$Row", "cells", "[I", true)
  | _ => ("LadderSurvey$Row", "size", "I", false)
def fY3 : Nat → FieldType := fun k => match k with
  | 0 => .array .int
  | _ => .int
theorem fN3 : ∀ a, a < 2 → ∀ b, b < 2 → a ≠ b → (fT3 a).2.1 ≠ (fT3 b).2.1 := by decide +kernel
theorem fO3 : ∀ k, k < 2 → parseFieldDescriptor (fT3 k).2.2.1 = some (fY3 k) := by decide +kernel
def cN4 : String := "LadderSurvey$Scene"
def fT4 : u_T := fun k => match k with
  | 0 => ("LadderSurvey$Scene", "places", "LLadderSurvey$Row;", true)
  | 1 => ("LadderSurvey$Scene", "stayed", "LLadderSurvey$Row;", true)
  | 2 => ("LadderSurvey$Scene", "left", "LLadderSurvey$Row;", true)
  | 3 => ("LadderSurvey$Scene", "right", "LLadderSurvey$Row;", true)
  | _ => ("LadderSurvey$Scene", "things", "LLadderSurvey$Row;", true)
def fY4 : Nat → FieldType := fun k => match k with
  | 0 => .object "LadderSurvey$Row"
  | 1 => .object "LadderSurvey$Row"
  | 2 => .object "LadderSurvey$Row"
  | 3 => .object "LadderSurvey$Row"
  | _ => .object "LadderSurvey$Row"
theorem fN4 : ∀ a, a < 5 → ∀ b, b < 5 → a ≠ b → (fT4 a).2.1 ≠ (fT4 b).2.1 := by decide +kernel
theorem fO4 : ∀ k, k < 5 → parseFieldDescriptor (fT4 k).2.2.1 = some (fY4 k) := by decide +kernel
def cN5 : String := "LadderSurvey$Seen"
def fT5 : u_T := fun k => match k with
  | 0 => ("LadderSurvey$Seen", "climbers", "LLadderSurvey$Row;", true)
  | 1 => ("LadderSurvey$Seen", "wears", "LLadderSurvey$Row;", true)
  | _ => ("LadderSurvey$Seen", "ways", "LLadderSurvey$Row;", true)
def fY5 : Nat → FieldType := fun k => match k with
  | 0 => .object "LadderSurvey$Row"
  | 1 => .object "LadderSurvey$Row"
  | _ => .object "LadderSurvey$Row"
theorem fN5 : ∀ a, a < 3 → ∀ b, b < 3 → a ≠ b → (fT5 a).2.1 ≠ (fT5 b).2.1 := by decide +kernel
theorem fO5 : ∀ k, k < 3 → parseFieldDescriptor (fT5 k).2.2.1 = some (fY5 k) := by decide +kernel
def cN6 : String := "LadderSurvey$Text"
def fT6 : u_T := fun k => match k with
  | 0 => ("LadderSurvey$Text", "letters", "LLadderSurvey$Row;", true)
  | 1 => ("LadderSurvey$Text", "place", "I", false)
  | 2 => ("LadderSurvey$Text", "token", "I", false)
  | 3 => ("LadderSurvey$Text", "tokenPlace", "I", false)
  | 4 => ("LadderSurvey$Text", "number", "I", false)
  | 5 => ("LadderSurvey$Text", "reachTold", "Z", false)
  | _ => ("LadderSurvey$Text", "boysTold", "Z", false)
def fY6 : Nat → FieldType := fun k => match k with
  | 0 => .object "LadderSurvey$Row"
  | 1 => .int
  | 2 => .int
  | 3 => .int
  | 4 => .int
  | 5 => .boolean
  | _ => .boolean
theorem fN6 : ∀ a, a < 7 → ∀ b, b < 7 → a ≠ b → (fT6 a).2.1 ≠ (fT6 b).2.1 := by decide +kernel
theorem fO6 : ∀ k, k < 7 → parseFieldDescriptor (fT6 k).2.2.1 = some (fY6 k) := by decide +kernel
def cN7 : String := "LadderSurvey"
def fT7 : u_T := fun k => match k with
  | 0 => ("LadderSurvey", "text", "LLadderSurvey$Text;", true)
  | 1 => ("LadderSurvey", "plan", "LLadderSurvey$Plan;", false)
  | 2 => ("LadderSurvey", "draft", "LLadderSurvey$Plan;", false)
  | 3 => ("LadderSurvey", "scene", "LLadderSurvey$Scene;", true)
  | 4 => ("LadderSurvey", "firstImage", "LLadderSurvey$Scene;", true)
  | 5 => ("LadderSurvey", "secondImage", "LLadderSurvey$Scene;", true)
  | 6 => ("LadderSurvey", "kept", "LLadderSurvey$Row;", true)
  | 7 => ("LadderSurvey", "deeds", "LLadderSurvey$Deeds;", true)
  | 8 => ("LadderSurvey", "seen", "LLadderSurvey$Seen;", true)
  | 9 => ("LadderSurvey", "measured", "LLadderSurvey$Measures;", true)
  | _ => ("LadderSurvey", "trace", "J", false)
def fY7 : Nat → FieldType := fun k => match k with
  | 0 => .object "LadderSurvey$Text"
  | 1 => .object "LadderSurvey$Plan"
  | 2 => .object "LadderSurvey$Plan"
  | 3 => .object "LadderSurvey$Scene"
  | 4 => .object "LadderSurvey$Scene"
  | 5 => .object "LadderSurvey$Scene"
  | 6 => .object "LadderSurvey$Row"
  | 7 => .object "LadderSurvey$Deeds"
  | 8 => .object "LadderSurvey$Seen"
  | 9 => .object "LadderSurvey$Measures"
  | _ => .long
theorem fN7 : ∀ a, a < 11 → ∀ b, b < 11 → a ≠ b → (fT7 a).2.1 ≠ (fT7 b).2.1 := by decide +kernel
theorem fO7 : ∀ k, k < 11 → parseFieldDescriptor (fT7 k).2.2.1 = some (fY7 k) := by decide +kernel
def cN8 : String := "LadderSurveyModel"
def fT8 : u_T := fun k => match k with
  | 0 => ("LadderSurveyModel", "thrown", "I", false)
  | 1 => ("LadderSurveyModel", "trace", "J", false)
  | 2 => ("LadderSurveyModel", "text", "[I", true)
  | 3 => ("LadderSurveyModel", "typed", "I", false)
  | 4 => ("LadderSurveyModel", "next", "I", false)
  | 5 => ("LadderSurveyModel", "token", "I", false)
  | 6 => ("LadderSurveyModel", "place", "I", false)
  | 7 => ("LadderSurveyModel", "value", "I", false)
  | 8 => ("LadderSurveyModel", "fault", "I", false)
  | 9 => ("LadderSurveyModel", "many", "[I", true)
  | 10 => ("LadderSurveyModel", "told", "I", false)
  | 11 => ("LadderSurveyModel", "lengths", "[I", true)
  | 12 => ("LadderSurveyModel", "rises", "[I", true)
  | 13 => ("LadderSurveyModel", "bends", "[I", true)
  | 14 => ("LadderSurveyModel", "breath", "[I", true)
  | 15 => ("LadderSurveyModel", "s", "[I", true)
  | 16 => ("LadderSurveyModel", "kept", "[I", true)
  | 17 => ("LadderSurveyModel", "isKept", "[Z", true)
  | 18 => ("LadderSurveyModel", "undos", "[I", true)
  | 19 => ("LadderSurveyModel", "undoMany", "I", false)
  | 20 => ("LadderSurveyModel", "seenMark", "[I", true)
  | 21 => ("LadderSurveyModel", "seenWear", "[I", true)
  | 22 => ("LadderSurveyModel", "seenMany", "I", false)
  | 23 => ("LadderSurveyModel", "from", "[I", true)
  | 24 => ("LadderSurveyModel", "to", "[I", true)
  | 25 => ("LadderSurveyModel", "amount", "[I", true)
  | 26 => ("LadderSurveyModel", "measured", "I", false)
  | 27 => ("LadderSurveyModel", "land", "[I", true)
  | _ => ("LadderSurveyModel", "group", "[I", true)
def fY8 : Nat → FieldType := fun k => match k with
  | 0 => .int
  | 1 => .long
  | 2 => .array .int
  | 3 => .int
  | 4 => .int
  | 5 => .int
  | 6 => .int
  | 7 => .int
  | 8 => .int
  | 9 => .array .int
  | 10 => .int
  | 11 => .array .int
  | 12 => .array .int
  | 13 => .array .int
  | 14 => .array .int
  | 15 => .array .int
  | 16 => .array .int
  | 17 => .array .boolean
  | 18 => .array .int
  | 19 => .int
  | 20 => .array .int
  | 21 => .array .int
  | 22 => .int
  | 23 => .array .int
  | 24 => .array .int
  | 25 => .array .int
  | 26 => .int
  | 27 => .array .int
  | _ => .array .int
theorem fN8 : ∀ a, a < 29 → ∀ b, b < 29 → a ≠ b → (fT8 a).2.1 ≠ (fT8 b).2.1 := by decide +kernel
theorem fO8 : ∀ k, k < 29 → parseFieldDescriptor (fT8 k).2.2.1 = some (fY8 k) := by decide +kernel
abbrev cl9 : List vw_C := [(cN0, fT0, 3), (cN1, fT1, 4), (cN2, fT2, 8), (cN3, fT3, 2), (cN4, fT4, 5), (cN5, fT5, 3), (cN6, fT6, 7), (cN7, fT7, 11), (cN8, fT8, 29)]
def isNest : Cond → Bool
  | .methodLinkNest .. => true
  | _ => false
def gw (w : Cond) : Bool := goodWord w || isNest w
def lw_ws : List Cond := lw_tbl.filter gw
theorem mw {w : Cond} (i : Nat) (h : lw_tbl[i]? = some w) (hg : gw w = true) : w ∈ lw_ws := List.mem_filter.mpr ⟨List.mem_of_getElem? h, hg⟩
theorem fI0 : ∀ w ∈ u_ws cN0 fT0 3, w ∈ lw_ws := fun w hw => by
  have g : (u_ws cN0 fT0 3).all gw = true := by decide +kernel
  have g1 := List.all_eq_true.mp g w hw
  have e : u_ws cN0 fT0 3 = ([200, 202, 204] : List Nat).filterMap (fun i => lw_tbl[i]?) := by decide +kernel
  rw [e] at hw
  obtain ⟨i, -, hi⟩ := List.mem_filterMap.mp hw
  exact List.mem_filter.mpr ⟨List.mem_of_getElem? hi, g1⟩
theorem fI1 : ∀ w ∈ u_ws cN1 fT1 4, w ∈ lw_ws := fun w hw => by
  have g : (u_ws cN1 fT1 4).all gw = true := by decide +kernel
  have g1 := List.all_eq_true.mp g w hw
  have e : u_ws cN1 fT1 4 = ([239, 241, 243, 245] : List Nat).filterMap (fun i => lw_tbl[i]?) := by decide +kernel
  rw [e] at hw
  obtain ⟨i, -, hi⟩ := List.mem_filterMap.mp hw
  exact List.mem_filter.mpr ⟨List.mem_of_getElem? hi, g1⟩
theorem fI2 : ∀ w ∈ u_ws cN2 fT2 8, w ∈ lw_ws := fun w hw => by
  have g : (u_ws cN2 fT2 8).all gw = true := by decide +kernel
  have g1 := List.all_eq_true.mp g w hw
  have e : u_ws cN2 fT2 8 = ([138, 140, 142, 144, 146, 148, 150, 152] : List Nat).filterMap (fun i => lw_tbl[i]?) := by decide +kernel
  rw [e] at hw
  obtain ⟨i, -, hi⟩ := List.mem_filterMap.mp hw
  exact List.mem_filter.mpr ⟨List.mem_of_getElem? hi, g1⟩
theorem fI3 : ∀ w ∈ u_ws cN3 fT3 2, w ∈ lw_ws := fun w hw => by
  have g : (u_ws cN3 fT3 2).all gw = true := by decide +kernel
  have g1 := List.all_eq_true.mp g w hw
  have e : u_ws cN3 fT3 2 = ([83, 85] : List Nat).filterMap (fun i => lw_tbl[i]?) := by decide +kernel
  rw [e] at hw
  obtain ⟨i, -, hi⟩ := List.mem_filterMap.mp hw
  exact List.mem_filter.mpr ⟨List.mem_of_getElem? hi, g1⟩
theorem fI4 : ∀ w ∈ u_ws cN4 fT4 5, w ∈ lw_ws := fun w hw => by
  have g : (u_ws cN4 fT4 5).all gw = true := by decide +kernel
  have g1 := List.all_eq_true.mp g w hw
  have e : u_ws cN4 fT4 5 = ([176, 178, 180, 182, 184] : List Nat).filterMap (fun i => lw_tbl[i]?) := by decide +kernel
  rw [e] at hw
  obtain ⟨i, -, hi⟩ := List.mem_filterMap.mp hw
  exact List.mem_filter.mpr ⟨List.mem_of_getElem? hi, g1⟩
theorem fI5 : ∀ w ∈ u_ws cN5 fT5 3, w ∈ lw_ws := fun w hw => by
  have g : (u_ws cN5 fT5 3).all gw = true := by decide +kernel
  have g1 := List.all_eq_true.mp g w hw
  have e : u_ws cN5 fT5 3 = ([219, 221, 223] : List Nat).filterMap (fun i => lw_tbl[i]?) := by decide +kernel
  rw [e] at hw
  obtain ⟨i, -, hi⟩ := List.mem_filterMap.mp hw
  exact List.mem_filter.mpr ⟨List.mem_of_getElem? hi, g1⟩
theorem fI6 : ∀ w ∈ u_ws cN6 fT6 7, w ∈ lw_ws := fun w hw => by
  have g : (u_ws cN6 fT6 7).all gw = true := by decide +kernel
  have g1 := List.all_eq_true.mp g w hw
  have e : u_ws cN6 fT6 7 = ([97, 99, 101, 103, 105, 107, 109] : List Nat).filterMap (fun i => lw_tbl[i]?) := by decide +kernel
  rw [e] at hw
  obtain ⟨i, -, hi⟩ := List.mem_filterMap.mp hw
  exact List.mem_filter.mpr ⟨List.mem_of_getElem? hi, g1⟩
theorem fI7 : ∀ w ∈ u_ws cN7 fT7 11, w ∈ lw_ws := fun w hw => by
  have g : (u_ws cN7 fT7 11).all gw = true := by decide +kernel
  have g1 := List.all_eq_true.mp g w hw
  have e : u_ws cN7 fT7 11 = ([259, 261, 263, 265, 267, 269, 271, 273, 275, 277, 279] : List Nat).filterMap (fun i => lw_tbl[i]?) := by decide +kernel
  rw [e] at hw
  obtain ⟨i, -, hi⟩ := List.mem_filterMap.mp hw
  exact List.mem_filter.mpr ⟨List.mem_of_getElem? hi, g1⟩
theorem fI8 : ∀ w ∈ u_ws cN8 fT8 29, w ∈ lw_ws := fun w hw => by
  have g : (u_ws cN8 fT8 29).all gw = true := by decide +kernel
  have g1 := List.all_eq_true.mp g w hw
  have e : u_ws cN8 fT8 29 = ([781, 783, 785, 787, 789, 791, 793, 795, 797, 799, 801, 803, 805, 807, 809, 811, 813, 815, 817, 819, 821, 823, 825, 827, 829, 831, 833, 835, 837] : List Nat).filterMap (fun i => lw_tbl[i]?) := by decide +kernel
  rw [e] at hw
  obtain ⟨i, -, hi⟩ := List.mem_filterMap.mp hw
  exact List.mem_filter.mpr ⟨List.mem_of_getElem? hi, g1⟩
end
section
/-! memories: a memory is how many cells there are, and what each holds, by its number behind the base; references in it are such numbers -/
abbrev Ce : Type := (Nat × List Value) ⊕ (Bool × Nat × (Nat → Int32))
abbrev Mem : Type := Nat × (Nat → Option Ce)
abbrev ob (ci : Nat) (fs : List Value) : Ce := .inl (ci, fs)
abbrev ar (n : Nat) (f : Nat → Int32) : Ce := .inr (false, n, f)
abbrev zr (n : Nat) (f : Nat → Int32) : Ce := .inr (true, n, f)
def gt (M : Mem) (k : Nat) : Option Ce := M.2 k
def up (M : Mem) (k : Nat) (c : Ce) : Mem := (M.1, fun j => if j = k then some c else M.2 j)
def nw (M : Mem) (c : Ce) : Mem := (M.1 + 1, fun j => if j = M.1 then some c else M.2 j)
def shV (b : Nat) (v : Value) : Value := match v with
  | .ref a => .ref (b + a)
  | w => w
def toE (b : Nat) (cy : ClassId × ClassId) (c : Ce) : va_E := match c with
  | .inl o => .inr (o.1, o.2.map (shV b))
  | .inr a => .inl ((if a.1 = true then cy.2 else cy.1), a.2.1, .inl a.2.2)
def Hold (b : Nat) (D : va_G) (cy : ClassId × ClassId) (M : Mem) (H : Heap) : Prop := H.size = b + M.1 ∧ ∀ (k : Nat) (c : Ce), M.2 k = some c → va_at D cl9 (b + k, toE b cy c) H
abbrev tyZ (cy : ClassId × ClassId) : List (ClassId × FieldType) := [(cy.1, .int), (cy.2, .boolean)]
/-- the frame, in one -/
abbrev FT : Type := Program × Launch × Env × Room × State × MethodId × Array Value × List Frame × Method × Code × (State → Prop) × Nat × va_G × (ClassId × ClassId)
def LH (b : Nat) (ls : Array Slot) (nL : Nat) (L : List Value) : Prop := ls.size = nL ∧ lv_wf ls ∧ ∀ (k : Nat) (v : Value), L[k]? = some v → ls[k]? = some (.val (shV b v))
def Go (F : FT) (nL : Nat) (M : Mem) (cs sl pc : Nat) (L st : List Value) : Prop := match F with
  | (p, l, e, R, s, m, args, below, meth, c, Q, b, D, cy) => ∀ (H : Heap) (locs : List Loc) (ls : Array Slot), Hold b D cy M H → va_S (fun q => b ≤ q) s.heap H locs → LH b ls nL L → W p l e R s m args below meth c H locs cs sl Q (F0 m pc ls (st.map (shV b)))
def Fok (F : FT) (cc : ByteArray) (nL : Nat) (own : String) (ret : Option FieldType) : Prop := match F with
  | (p, l, e, R, s, m, args, below, meth, c, Q, b, D, cy) => p.tables.exec = Jvm.exec ∧ c.code = cc ∧ c.maxLocals = nL ∧ s.vm.findClass own = some m.cls ∧ (∀ w ∈ lw_ws, w.before args s = true) ∧ va_K D cl9 (tyZ cy) s ∧ meth.sig.returnType = ret ∧ meth.locks = false ∧ b ≤ s.heap.size
def Dc (cc : ByteArray) (pc : Nat) (i : Instr) (n pc' : Nat) : Prop := decode cc pc = .ok (i, n) ∧ pc + n = pc'
theorem gt_up (M : Mem) (k j : Nat) (c : Ce) : gt (up M k c) j = if j = k then some c else gt M j := rfl
theorem gt_nw (M : Mem) (j : Nat) (c : Ce) : gt (nw M c) j = if j = M.1 then some c else gt M j := rfl
theorem Hold.lt {b : Nat} {D : va_G} {cy : ClassId × ClassId} {M : Mem} {H : Heap} (h : Hold b D cy M H) {k : Nat} {c : Ce} (hk : gt M k = some c) : k < M.1 := by
  have h1 : b + k < H.size := (h.2 k c hk).lt
  have h2 := h.1
  omega
theorem Hold.one {b : Nat} {D : va_G} {cy : ClassId × ClassId} {M : Mem} {H : Heap} (h : Hold b D cy M H) {k : Nat} {c : Ce} (hk : gt M k = some c) : va_P D cl9 [(b + k, toE b cy c)] H := by
  intro i q hq
  match i, hq with
  | 0, hq => cases hq; exact h.2 k c hk
  | i + 1, hq => simp at hq
def setL : Nat → Value → List Value → List Value
  | 0, v, [] => [v]
  | 0, v, _ :: t => v :: t
  | _ + 1, _, [] => []
  | k + 1, v, h :: t => h :: setL k v t
theorem setL_get : ∀ (k : Nat) (v : Value) (L : List Value) (j : Nat) (u : Value), (setL k v L)[j]? = some u → (j = k ∧ u = v) ∨ (j ≠ k ∧ L[j]? = some u)
  | 0, v, [], j, u, h => by
    match j, h with
    | 0, h => cases h; exact Or.inl ⟨rfl, rfl⟩
    | j + 1, h => simp [setL] at h
  | 0, v, a :: t, j, u, h => by
    match j, h with
    | 0, h => cases h; exact Or.inl ⟨rfl, rfl⟩
    | j + 1, h => exact Or.inr ⟨by omega, h⟩
  | k + 1, v, [], j, u, h => by simp [setL] at h
  | k + 1, v, a :: t, j, u, h => by
    match j, h with
    | 0, h => exact Or.inr ⟨by omega, h⟩
    | j + 1, h =>
      rcases setL_get k v t j u h with ⟨h1, h2⟩ | ⟨h1, h2⟩
      · exact Or.inl ⟨by omega, h2⟩
      · exact Or.inr ⟨by omega, h2⟩
def en (b : Nat) (L : List Value) : List (Nat × Value) := (List.range L.length).filterMap (fun k => (L[k]?).map (fun v => (k, shV b v)))
theorem en_mem {b : Nat} {L : List Value} {k : Nat} {v : Value} (h : L[k]? = some v) : (k, shV b v) ∈ en b L := by
  refine List.mem_filterMap.mpr ⟨k, List.mem_range.mpr (List.getElem?_eq_some_iff.mp h).1, ?_⟩
  rw [h]; rfl
theorem LH.has {b : Nat} {ls : Array Slot} {nL : Nat} {L : List Value} (h : LH b ls nL L) : lv_has ls nL (en b L) := by
  refine ⟨h.1, h.2.1, fun q hq => ?_⟩
  obtain ⟨k, hk, hk2⟩ := List.mem_filterMap.mp hq
  cases hL : L[k]? with
  | none => rw [hL] at hk2; cases hk2
  | some v =>
    rw [hL] at hk2
    cases hk2
    exact h.2.2 k v hL
theorem LH.store {b : Nat} {ls' : Array Slot} {nL i : Nat} {L L' : List Value} {v : Value} (hc : v.category = 1) (hL : setL i v L = L') (h : lv_has ls' nL ((i, shV b v) :: (en b L).filter (fun q => !(q.1 == i) && !(q.1 + 1 == i && q.2.category == 2)))) (h2 : ∀ (k : Nat) (u : Value), L[k]? = some u → (shV b u).category = 1) : LH b ls' nL L' := by
  refine ⟨h.1, h.2.1, fun k u hu => ?_⟩
  subst hL
  rcases setL_get i v L k u hu with ⟨rfl, rfl⟩ | ⟨h3, h4⟩
  · exact h.2.2 (k, shV b u) List.mem_cons_self
  · refine h.2.2 (k, shV b u) (List.mem_cons_of_mem _ (List.mem_filter.mpr ⟨en_mem h4, ?_⟩))
    have := h2 k u h4
    simp [h3, this]
def c1 : List Value → Bool
  | [] => true
  | v :: t => decide (v.category = 1) && c1 t
theorem shV_cat (b : Nat) (v : Value) : (shV b v).category = v.category := by cases v <;> rfl
theorem c1_cat {b : Nat} : ∀ {L : List Value}, c1 L = true → ∀ (k : Nat) (u : Value), L[k]? = some u → (shV b u).category = 1
  | [], _, k, u, h => by simp at h
  | v :: t, hc, k, u, h => by
    simp only [c1, Bool.and_eq_true, decide_eq_true_eq] at hc
    match k, h with
    | 0, h => cases h; rw [shV_cat]; exact hc.1
    | k + 1, h => exact c1_cat hc.2 k u h
theorem LH.sub {b : Nat} {ls : Array Slot} {nL : Nat} {L L' : List Value} (h : LH b ls nL L) (hs : L' <+: L) : LH b ls nL L' := by
  refine ⟨h.1, h.2.1, fun k v hv => h.2.2 k v ?_⟩
  obtain ⟨t, rfl⟩ := hs
  rw [List.getElem?_append_left (List.getElem?_eq_some_iff.mp hv).1]
  exact hv
section RULES
variable {F : FT} {cc : ByteArray} {nL : Nat} {own : String} {ret : Option FieldType} {M : Mem} {cs sl pc pc' : Nat} {L st : List Value}
theorem Go.cut (L' : List Value) (n : Nat) (hn : L.take n = L') (k : Go F nL M cs sl pc L' st) : Go F nL M cs sl pc L st := by
  obtain ⟨p, l, e, R, s, m, args, below, meth, c, Q, b, D, cy⟩ := F
  intro H locs ls hH hS hl
  exact k H locs ls hH hS (hl.sub (by rw [← hn]; exact List.take_prefix n L))
theorem go_iconst (h : Fok F cc nL own ret) {n : Int} {v : Int32} (hd : Dc cc pc (.iconst n) 1 pc') (hv : Int32.ofInt n = v) (k : Go F nL M cs sl pc' L (.int v :: st)) : Go F nL M cs sl pc L st := by
  obtain ⟨p, l, e, R, s, m, args, below, meth, c, Q, b, D, cy⟩ := F
  obtain ⟨hx, hb, hml, hown, hts, hK, hr, hlk, hbs⟩ := h
  obtain ⟨hd, rfl⟩ := hd
  intro H locs ls hH hS hl
  exact lv_iconst hx hb hd hv (k H locs ls hH hS hl)
theorem go_bipush (h : Fok F cc nL own ret) {n : Int} {v : Int32} (hd : Dc cc pc (.bipush n) 2 pc') (hv : (Int8.ofInt n).toInt32 = v) (k : Go F nL M cs sl pc' L (.int v :: st)) : Go F nL M cs sl pc L st := by
  obtain ⟨p, l, e, R, s, m, args, below, meth, c, Q, b, D, cy⟩ := F
  obtain ⟨hx, hb, hml, hown, hts, hK, hr, hlk, hbs⟩ := h
  obtain ⟨hd, rfl⟩ := hd
  intro H locs ls hH hS hl
  exact lv_bipush hx hb hd hv (k H locs ls hH hS hl)
theorem go_sipush (h : Fok F cc nL own ret) {n : Int} {v : Int32} (hd : Dc cc pc (.sipush n) 3 pc') (hv : (Int16.ofInt n).toInt32 = v) (k : Go F nL M cs sl pc' L (.int v :: st)) : Go F nL M cs sl pc L st := by
  obtain ⟨p, l, e, R, s, m, args, below, meth, c, Q, b, D, cy⟩ := F
  obtain ⟨hx, hb, hml, hown, hts, hK, hr, hlk, hbs⟩ := h
  obtain ⟨hd, rfl⟩ := hd
  intro H locs ls hH hS hl
  exact lv_sipush hx hb hd hv (k H locs ls hH hS hl)
theorem go_lconst (h : Fok F cc nL own ret) {n : Fin 2} {v : Int64} (hd : Dc cc pc (.lconst n) 1 pc') (hv : Int64.ofNat (n : Nat) = v) (k : Go F nL M cs sl pc' L (.long v :: st)) : Go F nL M cs sl pc L st := by
  obtain ⟨p, l, e, R, s, m, args, below, meth, c, Q, b, D, cy⟩ := F
  obtain ⟨hx, hb, hml, hown, hts, hK, hr, hlk, hbs⟩ := h
  obtain ⟨hd, rfl⟩ := hd
  intro H locs ls hH hS hl
  exact lv_lconst hx hb hd hv (k H locs ls hH hS hl)
theorem go_iload_n (h : Fok F cc nL own ret) {i : Fin 4} {x : Int32} (hd : Dc cc pc (.iload_n i) 1 pc') (hi : L[(i : Nat)]? = some (.int x)) (k : Go F nL M cs sl pc' L (.int x :: st)) : Go F nL M cs sl pc L st := by
  obtain ⟨p, l, e, R, s, m, args, below, meth, c, Q, b, D, cy⟩ := F
  obtain ⟨hx, hb, hml, hown, hts, hK, hr, hlk, hbs⟩ := h
  obtain ⟨hd, rfl⟩ := hd
  intro H locs ls hH hS hl
  exact lv_iload_n hx hb hd rfl (hl.2.2 _ _ hi) (k H locs ls hH hS hl)
theorem go_iload (h : Fok F cc nL own ret) {i : Nat} {x : Int32} (hd : Dc cc pc (.iload i) 2 pc') (hi : L[i]? = some (.int x)) (k : Go F nL M cs sl pc' L (.int x :: st)) : Go F nL M cs sl pc L st := by
  obtain ⟨p, l, e, R, s, m, args, below, meth, c, Q, b, D, cy⟩ := F
  obtain ⟨hx, hb, hml, hown, hts, hK, hr, hlk, hbs⟩ := h
  obtain ⟨hd, rfl⟩ := hd
  intro H locs ls hH hS hl
  exact lv_iload hx hb hd (hl.2.2 _ _ hi) (k H locs ls hH hS hl)
theorem go_aload_n (h : Fok F cc nL own ret) {i : Fin 4} {x : Nat} (hd : Dc cc pc (.aload_n i) 1 pc') (hi : L[(i : Nat)]? = some (.ref x)) (k : Go F nL M cs sl pc' L (.ref x :: st)) : Go F nL M cs sl pc L st := by
  obtain ⟨p, l, e, R, s, m, args, below, meth, c, Q, b, D, cy⟩ := F
  obtain ⟨hx, hb, hml, hown, hts, hK, hr, hlk, hbs⟩ := h
  obtain ⟨hd, rfl⟩ := hd
  intro H locs ls hH hS hl
  exact lv_aload_n hx hb hd rfl (hl.2.2 _ _ hi) (k H locs ls hH hS hl)
theorem go_aload (h : Fok F cc nL own ret) {i : Nat} {x : Nat} (hd : Dc cc pc (.aload i) 2 pc') (hi : L[i]? = some (.ref x)) (k : Go F nL M cs sl pc' L (.ref x :: st)) : Go F nL M cs sl pc L st := by
  obtain ⟨p, l, e, R, s, m, args, below, meth, c, Q, b, D, cy⟩ := F
  obtain ⟨hx, hb, hml, hown, hts, hK, hr, hlk, hbs⟩ := h
  obtain ⟨hd, rfl⟩ := hd
  intro H locs ls hH hS hl
  exact lv_aload hx hb hd (hl.2.2 _ _ hi) (k H locs ls hH hS hl)
theorem go_istore_n (h : Fok F cc nL own ret) {i : Fin 4} {x : Int32} {L' : List Value} (hd : Dc cc pc (.istore_n i) 1 pc') (hn : (i : Nat) < nL) (hc : c1 L = true) (hL : setL (i : Nat) (.int x) L = L') (k : Go F nL M cs sl pc' L' st) : Go F nL M cs sl pc L (.int x :: st) := by
  obtain ⟨p, l, e, R, s, m, args, below, meth, c, Q, b, D, cy⟩ := F
  obtain ⟨hx, hb, hml, hown, hts, hK, hr, hlk, hbs⟩ := h
  obtain ⟨hd, rfl⟩ := hd
  intro H locs ls hH hS hl
  exact lv_istore_n hx hb hd rfl hl.has hn rfl (fun ls1 h1 => k H locs ls1 hH hS (LH.store (v := .int x) rfl hL h1 (c1_cat hc)))
theorem go_istore (h : Fok F cc nL own ret) {i : Nat} {x : Int32} {L' : List Value} (hd : Dc cc pc (.istore i) 2 pc') (hn : i < nL) (hc : c1 L = true) (hL : setL i (.int x) L = L') (k : Go F nL M cs sl pc' L' st) : Go F nL M cs sl pc L (.int x :: st) := by
  obtain ⟨p, l, e, R, s, m, args, below, meth, c, Q, b, D, cy⟩ := F
  obtain ⟨hx, hb, hml, hown, hts, hK, hr, hlk, hbs⟩ := h
  obtain ⟨hd, rfl⟩ := hd
  intro H locs ls hH hS hl
  exact lv_istore hx hb hd hl.has hn rfl (fun ls1 h1 => k H locs ls1 hH hS (LH.store (v := .int x) rfl hL h1 (c1_cat hc)))
theorem go_astore_n (h : Fok F cc nL own ret) {i : Fin 4} {x : Nat} {L' : List Value} (hd : Dc cc pc (.astore_n i) 1 pc') (hn : (i : Nat) < nL) (hc : c1 L = true) (hL : setL (i : Nat) (.ref x) L = L') (k : Go F nL M cs sl pc' L' st) : Go F nL M cs sl pc L (.ref x :: st) := by
  obtain ⟨p, l, e, R, s, m, args, below, meth, c, Q, b, D, cy⟩ := F
  obtain ⟨hx, hb, hml, hown, hts, hK, hr, hlk, hbs⟩ := h
  obtain ⟨hd, rfl⟩ := hd
  intro H locs ls hH hS hl
  exact lv_astore_n hx hb hd rfl hl.has hn rfl (fun ls1 h1 => k H locs ls1 hH hS (LH.store (v := .ref x) rfl hL h1 (c1_cat hc)))
theorem go_astore (h : Fok F cc nL own ret) {i : Nat} {x : Nat} {L' : List Value} (hd : Dc cc pc (.astore i) 2 pc') (hn : i < nL) (hc : c1 L = true) (hL : setL i (.ref x) L = L') (k : Go F nL M cs sl pc' L' st) : Go F nL M cs sl pc L (.ref x :: st) := by
  obtain ⟨p, l, e, R, s, m, args, below, meth, c, Q, b, D, cy⟩ := F
  obtain ⟨hx, hb, hml, hown, hts, hK, hr, hlk, hbs⟩ := h
  obtain ⟨hd, rfl⟩ := hd
  intro H locs ls hH hS hl
  exact lv_astore hx hb hd hl.has hn rfl (fun ls1 h1 => k H locs ls1 hH hS (LH.store (v := .ref x) rfl hL h1 (c1_cat hc)))
theorem go_iinc (h : Fok F cc nL own ret) {i : Nat} {n : Int} {x v : Int32} {L' : List Value} (hd : Dc cc pc (.iinc i n) 3 pc') (hi : L[i]? = some (.int x)) (hv : x + Int32.ofInt n = v) (hn : i < nL) (hc : c1 L = true) (hL : setL i (.int v) L = L') (k : Go F nL M cs sl pc' L' st) : Go F nL M cs sl pc L st := by
  obtain ⟨p, l, e, R, s, m, args, below, meth, c, Q, b, D, cy⟩ := F
  obtain ⟨hx, hb, hml, hown, hts, hK, hr, hlk, hbs⟩ := h
  obtain ⟨hd, rfl⟩ := hd
  intro H locs ls hH hS hl
  obtain ⟨j, hj⟩ := List.getElem?_of_mem (en_mem (b := b) hi)
  exact lv_iinc hx hb hd hl.has (k := j) (x := x) hj hv hn rfl (fun ls1 h1 => k H locs ls1 hH hS (LH.store (v := .int v) rfl hL h1 (c1_cat hc)))
theorem go_iadd (h : Fok F cc nL own ret) {x y : Int32} (hd : Dc cc pc .iadd 1 pc') (k : Go F nL M cs sl pc' L (.int (x + y) :: st)) : Go F nL M cs sl pc L (.int y :: .int x :: st) := by
  obtain ⟨p, l, e, R, s, m, args, below, meth, c, Q, b, D, cy⟩ := F
  obtain ⟨hx, hb, hml, hown, hts, hK, hr, hlk, hbs⟩ := h
  obtain ⟨hd, rfl⟩ := hd
  intro H locs ls hH hS hl
  exact lv_iadd hx hb hd (k H locs ls hH hS hl)
theorem go_isub (h : Fok F cc nL own ret) {x y : Int32} (hd : Dc cc pc .isub 1 pc') (k : Go F nL M cs sl pc' L (.int (x - y) :: st)) : Go F nL M cs sl pc L (.int y :: .int x :: st) := by
  obtain ⟨p, l, e, R, s, m, args, below, meth, c, Q, b, D, cy⟩ := F
  obtain ⟨hx, hb, hml, hown, hts, hK, hr, hlk, hbs⟩ := h
  obtain ⟨hd, rfl⟩ := hd
  intro H locs ls hH hS hl
  exact lv_isub hx hb hd (k H locs ls hH hS hl)
theorem go_imul (h : Fok F cc nL own ret) {x y : Int32} (hd : Dc cc pc .imul 1 pc') (k : Go F nL M cs sl pc' L (.int (x * y) :: st)) : Go F nL M cs sl pc L (.int y :: .int x :: st) := by
  obtain ⟨p, l, e, R, s, m, args, below, meth, c, Q, b, D, cy⟩ := F
  obtain ⟨hx, hb, hml, hown, hts, hK, hr, hlk, hbs⟩ := h
  obtain ⟨hd, rfl⟩ := hd
  intro H locs ls hH hS hl
  exact lv_imul hx hb hd (k H locs ls hH hS hl)
theorem go_iand (h : Fok F cc nL own ret) {x y : Int32} (hd : Dc cc pc .iand 1 pc') (k : Go F nL M cs sl pc' L (.int (x &&& y) :: st)) : Go F nL M cs sl pc L (.int y :: .int x :: st) := by
  obtain ⟨p, l, e, R, s, m, args, below, meth, c, Q, b, D, cy⟩ := F
  obtain ⟨hx, hb, hml, hown, hts, hK, hr, hlk, hbs⟩ := h
  obtain ⟨hd, rfl⟩ := hd
  intro H locs ls hH hS hl
  exact lv_iand hx hb hd (k H locs ls hH hS hl)
theorem go_ior (h : Fok F cc nL own ret) {x y : Int32} (hd : Dc cc pc .ior 1 pc') (k : Go F nL M cs sl pc' L (.int (x ||| y) :: st)) : Go F nL M cs sl pc L (.int y :: .int x :: st) := by
  obtain ⟨p, l, e, R, s, m, args, below, meth, c, Q, b, D, cy⟩ := F
  obtain ⟨hx, hb, hml, hown, hts, hK, hr, hlk, hbs⟩ := h
  obtain ⟨hd, rfl⟩ := hd
  intro H locs ls hH hS hl
  exact lv_ior hx hb hd (k H locs ls hH hS hl)
theorem go_idiv (h : Fok F cc nL own ret) {x y : Int32} (hd : Dc cc pc .idiv 1 pc') (hne : ¬ y = 0) (k : Go F nL M cs sl pc' L (.int (x / y) :: st)) : Go F nL M cs sl pc L (.int y :: .int x :: st) := by
  obtain ⟨p, l, e, R, s, m, args, below, meth, c, Q, b, D, cy⟩ := F
  obtain ⟨hx, hb, hml, hown, hts, hK, hr, hlk, hbs⟩ := h
  obtain ⟨hd, rfl⟩ := hd
  intro H locs ls hH hS hl
  exact lv_idiv hx hb hd hne (k H locs ls hH hS hl)
theorem go_irem (h : Fok F cc nL own ret) {x y : Int32} (hd : Dc cc pc .irem 1 pc') (hne : ¬ y = 0) (k : Go F nL M cs sl pc' L (.int (x - x / y * y) :: st)) : Go F nL M cs sl pc L (.int y :: .int x :: st) := by
  obtain ⟨p, l, e, R, s, m, args, below, meth, c, Q, b, D, cy⟩ := F
  obtain ⟨hx, hb, hml, hown, hts, hK, hr, hlk, hbs⟩ := h
  obtain ⟨hd, rfl⟩ := hd
  intro H locs ls hH hS hl
  exact lv_irem hx hb hd hne (k H locs ls hH hS hl)
theorem go_ishl (h : Fok F cc nL own ret) {x y : Int32} (hd : Dc cc pc .ishl 1 pc') (k : Go F nL M cs sl pc' L (.int (x <<< (y &&& 31)) :: st)) : Go F nL M cs sl pc L (.int y :: .int x :: st) := by
  obtain ⟨p, l, e, R, s, m, args, below, meth, c, Q, b, D, cy⟩ := F
  obtain ⟨hx, hb, hml, hown, hts, hK, hr, hlk, hbs⟩ := h
  obtain ⟨hd, rfl⟩ := hd
  intro H locs ls hH hS hl
  exact lv_ishl hx hb hd (k H locs ls hH hS hl)
theorem go_ishr (h : Fok F cc nL own ret) {x y : Int32} (hd : Dc cc pc .ishr 1 pc') (k : Go F nL M cs sl pc' L (.int (x >>> (y &&& 31)) :: st)) : Go F nL M cs sl pc L (.int y :: .int x :: st) := by
  obtain ⟨p, l, e, R, s, m, args, below, meth, c, Q, b, D, cy⟩ := F
  obtain ⟨hx, hb, hml, hown, hts, hK, hr, hlk, hbs⟩ := h
  obtain ⟨hd, rfl⟩ := hd
  intro H locs ls hH hS hl
  exact lv_ishr hx hb hd (k H locs ls hH hS hl)
theorem go_iushr (h : Fok F cc nL own ret) {x y v : Int32} (hd : Dc cc pc .iushr 1 pc') (hv : (x.toUInt32 >>> (y.toUInt32 &&& Int32.toUInt32 31)).toInt32 = v) (k : Go F nL M cs sl pc' L (.int v :: st)) : Go F nL M cs sl pc L (.int y :: .int x :: st) := by
  obtain ⟨p, l, e, R, s, m, args, below, meth, c, Q, b, D, cy⟩ := F
  obtain ⟨hx, hb, hml, hown, hts, hK, hr, hlk, hbs⟩ := h
  obtain ⟨hd, rfl⟩ := hd
  intro H locs ls hH hS hl
  exact lv_iushr hx hb hd hv (k H locs ls hH hS hl)
theorem go_ineg (h : Fok F cc nL own ret) {x : Int32} (hd : Dc cc pc .ineg 1 pc') (k : Go F nL M cs sl pc' L (.int (-x) :: st)) : Go F nL M cs sl pc L (.int x :: st) := by
  obtain ⟨p, l, e, R, s, m, args, below, meth, c, Q, b, D, cy⟩ := F
  obtain ⟨hx, hb, hml, hown, hts, hK, hr, hlk, hbs⟩ := h
  obtain ⟨hd, rfl⟩ := hd
  intro H locs ls hH hS hl
  exact lv_ineg hx hb hd (k H locs ls hH hS hl)
theorem go_ladd (h : Fok F cc nL own ret) {x y : Int64} (hd : Dc cc pc .ladd 1 pc') (k : Go F nL M cs sl pc' L (.long (x + y) :: st)) : Go F nL M cs sl pc L (.long y :: .long x :: st) := by
  obtain ⟨p, l, e, R, s, m, args, below, meth, c, Q, b, D, cy⟩ := F
  obtain ⟨hx, hb, hml, hown, hts, hK, hr, hlk, hbs⟩ := h
  obtain ⟨hd, rfl⟩ := hd
  intro H locs ls hH hS hl
  exact lv_ladd hx hb hd (k H locs ls hH hS hl)
theorem go_lcmp (h : Fok F cc nL own ret) {x y : Int64} (hd : Dc cc pc .lcmp 1 pc') (k : Go F nL M cs sl pc' L (.int (lg_cmp x y) :: st)) : Go F nL M cs sl pc L (.long y :: .long x :: st) := by
  obtain ⟨p, l, e, R, s, m, args, below, meth, c, Q, b, D, cy⟩ := F
  obtain ⟨hx, hb, hml, hown, hts, hK, hr, hlk, hbs⟩ := h
  obtain ⟨hd, rfl⟩ := hd
  intro H locs ls hH hS hl
  exact W.lcmp hx hb hd (k H locs ls hH hS hl)
theorem go_dup (h : Fok F cc nL own ret) {v : Value} (hd : Dc cc pc .dup 1 pc') (hv : v.category = 1) (k : Go F nL M cs sl pc' L (v :: v :: st)) : Go F nL M cs sl pc L (v :: st) := by
  obtain ⟨p, l, e, R, s, m, args, below, meth, c, Q, b, D, cy⟩ := F
  obtain ⟨hx, hb, hml, hown, hts, hK, hr, hlk, hbs⟩ := h
  obtain ⟨hd, rfl⟩ := hd
  intro H locs ls hH hS hl
  exact lv_dup hx hb hd (by rw [shV_cat]; exact hv) (k H locs ls hH hS hl)
theorem go_pop (h : Fok F cc nL own ret) {v : Value} (hd : Dc cc pc .pop 1 pc') (hv : v.category = 1) (k : Go F nL M cs sl pc' L st) : Go F nL M cs sl pc L (v :: st) := by
  obtain ⟨p, l, e, R, s, m, args, below, meth, c, Q, b, D, cy⟩ := F
  obtain ⟨hx, hb, hml, hown, hts, hK, hr, hlk, hbs⟩ := h
  obtain ⟨hd, rfl⟩ := hd
  intro H locs ls hH hS hl
  exact lv_pop hx hb hd (by rw [shV_cat]; exact hv) (k H locs ls hH hS hl)
theorem go_dup2 (h : Fok F cc nL own ret) {v u : Value} (hd : Dc cc pc .dup2 1 pc') (hv : v.category = 1) (hu : u.category = 1) (k : Go F nL M cs sl pc' L (v :: u :: v :: u :: st)) : Go F nL M cs sl pc L (v :: u :: st) := by
  obtain ⟨p, l, e, R, s, m, args, below, meth, c, Q, b, D, cy⟩ := F
  obtain ⟨hx, hb, hml, hown, hts, hK, hr, hlk, hbs⟩ := h
  obtain ⟨hd, rfl⟩ := hd
  intro H locs ls hH hS hl
  exact lv_dup2_11 hx hb hd (by rw [shV_cat]; exact hv) (by rw [shV_cat]; exact hu) (k H locs ls hH hS hl)
theorem go_ldc (h : Fok F cc nL own ret) {i : Nat} {v : Int32} (hd : Dc cc pc (.ldc i) 2 pc') (hc : Cond.constant own i v ∈ lw_ws) (k : Go F nL M cs sl pc' L (.int v :: st)) : Go F nL M cs sl pc L st := by
  obtain ⟨p, l, e, R, s, m, args, below, meth, c, Q, b, D, cy⟩ := F
  obtain ⟨hx, hb, hml, hown, hts, hK, hr, hlk, hbs⟩ := h
  obtain ⟨hd, rfl⟩ := hd
  intro H locs ls hH hS hl
  exact lv_ldc hx hb hown (hts _ hc) hd (k H locs ls hH hS hl)
theorem go_ldc_w (h : Fok F cc nL own ret) {i : Nat} {v : Int32} (hd : Dc cc pc (.ldc_w i) 3 pc') (hc : Cond.constant own i v ∈ lw_ws) (k : Go F nL M cs sl pc' L (.int v :: st)) : Go F nL M cs sl pc L st := by
  obtain ⟨p, l, e, R, s, m, args, below, meth, c, Q, b, D, cy⟩ := F
  obtain ⟨hx, hb, hml, hown, hts, hK, hr, hlk, hbs⟩ := h
  obtain ⟨hd, rfl⟩ := hd
  intro H locs ls hH hS hl
  exact lv_ldcw hx hb hown (hts _ hc) hd (k H locs ls hH hS hl)
theorem go_ldc2 (h : Fok F cc nL own ret) {i : Nat} {v : Int64} (hd : Dc cc pc (.ldc2_w i) 3 pc') (hc : Cond.constantLong own i v ∈ lw_ws) (k : Go F nL M cs sl pc' L (.long v :: st)) : Go F nL M cs sl pc L st := by
  obtain ⟨p, l, e, R, s, m, args, below, meth, c, Q, b, D, cy⟩ := F
  obtain ⟨hx, hb, hml, hown, hts, hK, hr, hlk, hbs⟩ := h
  obtain ⟨hd, rfl⟩ := hd
  intro H locs ls hH hS hl
  exact lv_ldc2 hx hb hown (hts _ hc) hd (k H locs ls hH hS hl)
theorem go_goto (h : Fok F cc nL own ret) {off : Int} {tgt n : Nat} (hd : decode cc pc = .ok (.goto off, 3)) (ht : (pc : Int) + off = (tgt : Int)) (k : Go F nL M cs sl tgt L st) : Go F nL M cs sl pc L st := by
  obtain ⟨p, l, e, R, s, m, args, below, meth, c, Q, b, D, cy⟩ := F
  obtain ⟨hx, hb, hml, hown, hts, hK, hr, hlk, hbs⟩ := h
  intro H locs ls hH hS hl
  exact lv_goto hx hb hd ht (k H locs ls hH hS hl)
theorem go_icmp_eq (h : Fok F cc nL own ret) {x y : Int32} {off : Int} {tgt : Nat} (hd : decode cc pc = .ok (.if_icmp .eq off, 3)) (ht : (pc : Int) + off = (tgt : Int)) (hp : pc + 3 = pc') (kt : x = y → Go F nL M cs sl tgt L st) (kf : ¬ x = y → Go F nL M cs sl pc' L st) : Go F nL M cs sl pc L (.int y :: .int x :: st) := by
  obtain ⟨p, l, e, R, s, m, args, below, meth, c, Q, b, D, cy⟩ := F
  obtain ⟨hx, hb, hml, hown, hts, hK, hr, hlk, hbs⟩ := h
  subst hp
  intro H locs ls hH hS hl
  exact lv_icmp_eq hx hb hd ht (fun q => kt q H locs ls hH hS hl) (fun q => kf q H locs ls hH hS hl)
theorem go_icmp_ne (h : Fok F cc nL own ret) {x y : Int32} {off : Int} {tgt : Nat} (hd : decode cc pc = .ok (.if_icmp .ne off, 3)) (ht : (pc : Int) + off = (tgt : Int)) (hp : pc + 3 = pc') (kt : ¬ x = y → Go F nL M cs sl tgt L st) (kf : x = y → Go F nL M cs sl pc' L st) : Go F nL M cs sl pc L (.int y :: .int x :: st) := by
  obtain ⟨p, l, e, R, s, m, args, below, meth, c, Q, b, D, cy⟩ := F
  obtain ⟨hx, hb, hml, hown, hts, hK, hr, hlk, hbs⟩ := h
  subst hp
  intro H locs ls hH hS hl
  exact lv_icmp_ne hx hb hd ht (fun q => kt q H locs ls hH hS hl) (fun q => kf q H locs ls hH hS hl)
theorem go_icmp_lt (h : Fok F cc nL own ret) {x y : Int32} {off : Int} {tgt : Nat} (hd : decode cc pc = .ok (.if_icmp .lt off, 3)) (ht : (pc : Int) + off = (tgt : Int)) (hp : pc + 3 = pc') (kt : x < y → Go F nL M cs sl tgt L st) (kf : ¬ x < y → Go F nL M cs sl pc' L st) : Go F nL M cs sl pc L (.int y :: .int x :: st) := by
  obtain ⟨p, l, e, R, s, m, args, below, meth, c, Q, b, D, cy⟩ := F
  obtain ⟨hx, hb, hml, hown, hts, hK, hr, hlk, hbs⟩ := h
  subst hp
  intro H locs ls hH hS hl
  exact lv_icmp_lt hx hb hd ht (fun q => kt q H locs ls hH hS hl) (fun q => kf q H locs ls hH hS hl)
theorem go_icmp_ge (h : Fok F cc nL own ret) {x y : Int32} {off : Int} {tgt : Nat} (hd : decode cc pc = .ok (.if_icmp .ge off, 3)) (ht : (pc : Int) + off = (tgt : Int)) (hp : pc + 3 = pc') (kt : y ≤ x → Go F nL M cs sl tgt L st) (kf : ¬ y ≤ x → Go F nL M cs sl pc' L st) : Go F nL M cs sl pc L (.int y :: .int x :: st) := by
  obtain ⟨p, l, e, R, s, m, args, below, meth, c, Q, b, D, cy⟩ := F
  obtain ⟨hx, hb, hml, hown, hts, hK, hr, hlk, hbs⟩ := h
  subst hp
  intro H locs ls hH hS hl
  exact lv_icmp_ge hx hb hd ht (fun q => kt q H locs ls hH hS hl) (fun q => kf q H locs ls hH hS hl)
theorem go_icmp_gt (h : Fok F cc nL own ret) {x y : Int32} {off : Int} {tgt : Nat} (hd : decode cc pc = .ok (.if_icmp .gt off, 3)) (ht : (pc : Int) + off = (tgt : Int)) (hp : pc + 3 = pc') (kt : y < x → Go F nL M cs sl tgt L st) (kf : ¬ y < x → Go F nL M cs sl pc' L st) : Go F nL M cs sl pc L (.int y :: .int x :: st) := by
  obtain ⟨p, l, e, R, s, m, args, below, meth, c, Q, b, D, cy⟩ := F
  obtain ⟨hx, hb, hml, hown, hts, hK, hr, hlk, hbs⟩ := h
  subst hp
  intro H locs ls hH hS hl
  exact lv_icmp_gt hx hb hd ht (fun q => kt q H locs ls hH hS hl) (fun q => kf q H locs ls hH hS hl)
theorem go_icmp_le (h : Fok F cc nL own ret) {x y : Int32} {off : Int} {tgt : Nat} (hd : decode cc pc = .ok (.if_icmp .le off, 3)) (ht : (pc : Int) + off = (tgt : Int)) (hp : pc + 3 = pc') (kt : x ≤ y → Go F nL M cs sl tgt L st) (kf : ¬ x ≤ y → Go F nL M cs sl pc' L st) : Go F nL M cs sl pc L (.int y :: .int x :: st) := by
  obtain ⟨p, l, e, R, s, m, args, below, meth, c, Q, b, D, cy⟩ := F
  obtain ⟨hx, hb, hml, hown, hts, hK, hr, hlk, hbs⟩ := h
  subst hp
  intro H locs ls hH hS hl
  exact lv_icmp_le hx hb hd ht (fun q => kt q H locs ls hH hS hl) (fun q => kf q H locs ls hH hS hl)
theorem go_if_eq (h : Fok F cc nL own ret) {x : Int32} {off : Int} {tgt : Nat} (hd : decode cc pc = .ok (.ifCond .eq off, 3)) (ht : (pc : Int) + off = (tgt : Int)) (hp : pc + 3 = pc') (kt : x = 0 → Go F nL M cs sl tgt L st) (kf : ¬ x = 0 → Go F nL M cs sl pc' L st) : Go F nL M cs sl pc L (.int x :: st) := by
  obtain ⟨p, l, e, R, s, m, args, below, meth, c, Q, b, D, cy⟩ := F
  obtain ⟨hx, hb, hml, hown, hts, hK, hr, hlk, hbs⟩ := h
  subst hp
  intro H locs ls hH hS hl
  exact lv_if_eq hx hb hd ht (fun q => kt q H locs ls hH hS hl) (fun q => kf q H locs ls hH hS hl)
theorem go_if_ne (h : Fok F cc nL own ret) {x : Int32} {off : Int} {tgt : Nat} (hd : decode cc pc = .ok (.ifCond .ne off, 3)) (ht : (pc : Int) + off = (tgt : Int)) (hp : pc + 3 = pc') (kt : ¬ x = 0 → Go F nL M cs sl tgt L st) (kf : x = 0 → Go F nL M cs sl pc' L st) : Go F nL M cs sl pc L (.int x :: st) := by
  obtain ⟨p, l, e, R, s, m, args, below, meth, c, Q, b, D, cy⟩ := F
  obtain ⟨hx, hb, hml, hown, hts, hK, hr, hlk, hbs⟩ := h
  subst hp
  intro H locs ls hH hS hl
  exact lv_if_ne hx hb hd ht (fun q => kt q H locs ls hH hS hl) (fun q => kf q H locs ls hH hS hl)
theorem go_if_lt (h : Fok F cc nL own ret) {x : Int32} {off : Int} {tgt : Nat} (hd : decode cc pc = .ok (.ifCond .lt off, 3)) (ht : (pc : Int) + off = (tgt : Int)) (hp : pc + 3 = pc') (kt : x < 0 → Go F nL M cs sl tgt L st) (kf : ¬ x < 0 → Go F nL M cs sl pc' L st) : Go F nL M cs sl pc L (.int x :: st) := by
  obtain ⟨p, l, e, R, s, m, args, below, meth, c, Q, b, D, cy⟩ := F
  obtain ⟨hx, hb, hml, hown, hts, hK, hr, hlk, hbs⟩ := h
  subst hp
  intro H locs ls hH hS hl
  exact lv_if_lt hx hb hd ht (fun q => kt q H locs ls hH hS hl) (fun q => kf q H locs ls hH hS hl)
theorem go_if_ge (h : Fok F cc nL own ret) {x : Int32} {off : Int} {tgt : Nat} (hd : decode cc pc = .ok (.ifCond .ge off, 3)) (ht : (pc : Int) + off = (tgt : Int)) (hp : pc + 3 = pc') (kt : 0 ≤ x → Go F nL M cs sl tgt L st) (kf : ¬ 0 ≤ x → Go F nL M cs sl pc' L st) : Go F nL M cs sl pc L (.int x :: st) := by
  obtain ⟨p, l, e, R, s, m, args, below, meth, c, Q, b, D, cy⟩ := F
  obtain ⟨hx, hb, hml, hown, hts, hK, hr, hlk, hbs⟩ := h
  subst hp
  intro H locs ls hH hS hl
  exact lv_if_ge hx hb hd ht (fun q => kt q H locs ls hH hS hl) (fun q => kf q H locs ls hH hS hl)
theorem go_if_gt (h : Fok F cc nL own ret) {x : Int32} {off : Int} {tgt : Nat} (hd : decode cc pc = .ok (.ifCond .gt off, 3)) (ht : (pc : Int) + off = (tgt : Int)) (hp : pc + 3 = pc') (kt : 0 < x → Go F nL M cs sl tgt L st) (kf : ¬ 0 < x → Go F nL M cs sl pc' L st) : Go F nL M cs sl pc L (.int x :: st) := by
  obtain ⟨p, l, e, R, s, m, args, below, meth, c, Q, b, D, cy⟩ := F
  obtain ⟨hx, hb, hml, hown, hts, hK, hr, hlk, hbs⟩ := h
  subst hp
  intro H locs ls hH hS hl
  exact lv_if_gt hx hb hd ht (fun q => kt q H locs ls hH hS hl) (fun q => kf q H locs ls hH hS hl)
theorem go_if_le (h : Fok F cc nL own ret) {x : Int32} {off : Int} {tgt : Nat} (hd : decode cc pc = .ok (.ifCond .le off, 3)) (ht : (pc : Int) + off = (tgt : Int)) (hp : pc + 3 = pc') (kt : x ≤ 0 → Go F nL M cs sl tgt L st) (kf : ¬ x ≤ 0 → Go F nL M cs sl pc' L st) : Go F nL M cs sl pc L (.int x :: st) := by
  obtain ⟨p, l, e, R, s, m, args, below, meth, c, Q, b, D, cy⟩ := F
  obtain ⟨hx, hb, hml, hown, hts, hK, hr, hlk, hbs⟩ := h
  subst hp
  intro H locs ls hH hS hl
  exact lv_if_le hx hb hd ht (fun q => kt q H locs ls hH hS hl) (fun q => kf q H locs ls hH hS hl)
theorem go_tabOut (h : Fok F cc nL own ret) {dflt lo hi : Int} {offs : Array Int} {len : Nat} {x : Int32} {tgt : Nat} (hd : decode cc pc = .ok (.tableswitch dflt lo hi offs, len)) (hq : x.toInt < lo ∨ hi < x.toInt) (ht : (pc : Int) + dflt = (tgt : Int)) (k : Go F nL M cs sl tgt L st) : Go F nL M cs sl pc L (.int x :: st) := by
  obtain ⟨p, l, e, R, s, m, args, below, meth, c, Q, b, D, cy⟩ := F
  obtain ⟨hx, hb, hml, hown, hts, hK, hr, hlk, hbs⟩ := h
  intro H locs ls hH hS hl
  exact lv_tableOut hx hb hd hq ht (k H locs ls hH hS hl)
theorem go_tabIn (h : Fok F cc nL own ret) {dflt lo hi : Int} {offs : Array Int} {len : Nat} {x : Int32} {off : Int} {tgt : Nat} (hd : decode cc pc = .ok (.tableswitch dflt lo hi offs, len)) (h1 : ¬ x.toInt < lo) (h2 : ¬ hi < x.toInt) (ho : offs[(x.toInt - lo).toNat]? = some off) (ht : (pc : Int) + off = (tgt : Int)) (k : Go F nL M cs sl tgt L st) : Go F nL M cs sl pc L (.int x :: st) := by
  obtain ⟨p, l, e, R, s, m, args, below, meth, c, Q, b, D, cy⟩ := F
  obtain ⟨hx, hb, hml, hown, hts, hK, hr, hlk, hbs⟩ := h
  intro H locs ls hH hS hl
  exact lv_tableIn hx hb hd h1 h2 ho ht (k H locs ls hH hS hl)
theorem go_lookup (h : Fok F cc nL own ret) {dflt : Int} {ps : Array (Int × Int)} {len : Nat} {x : Int32} {off : Int} {tgt : Nat} (hd : decode cc pc = .ok (.lookupswitch dflt ps, len)) (hp : (ps.toList.zip (ps.toList.drop 1)).all (fun (a, next) => a.1 < next.1) = true) (ho : Op.lookupswitch.offset ps.toList dflt x.toInt = off) (ht : (pc : Int) + off = (tgt : Int)) (k : Go F nL M cs sl tgt L st) : Go F nL M cs sl pc L (.int x :: st) := by
  obtain ⟨p, l, e, R, s, m, args, below, meth, c, Q, b, D, cy⟩ := F
  obtain ⟨hx, hb, hml, hown, hts, hK, hr, hlk, hbs⟩ := h
  intro H locs ls hH hS hl
  exact lv_lookup hx hb hd hp ho ht (k H locs ls hH hS hl)
end RULES
end
section
/-! the heap: fields, arrays, new cells -/
theorem Hold.set {b : Nat} {D : va_G} {cy : ClassId × ClassId} {M : Mem} {H H1 : Heap} {k : Nat} {c0 c : Ce} (h : Hold b D cy M H) (hk : gt M k = some c0) (z : H1.size = H.size) (oq : ∀ q, q ≠ b + k → H1[q]? = H[q]?) (hc : va_at D cl9 (b + k, toE b cy c) H1) : Hold b D cy (up M k c) H1 := by
  refine ⟨by rw [z]; exact h.1, fun j x hj => ?_⟩
  change (if j = k then some c else M.2 j) = some x at hj
  by_cases hjk : j = k
  · rw [if_pos hjk] at hj
    cases hj; subst hjk
    exact hc
  · rw [if_neg hjk] at hj
    exact (h.2 j x hj).kept (oq _ (show b + j ≠ b + k by omega))
theorem Hold.push {b : Nat} {D : va_G} {cy : ClassId × ClassId} {M : Mem} {H H1 : Heap} {c : Ce} (h : Hold b D cy M H) (z : H1.size = H.size + 1) (oq : ∀ q, q < H.size → H1[q]? = H[q]?) (hc : va_at D cl9 (b + M.1, toE b cy c) H1) : Hold b D cy (nw M c) H1 := by
  refine ⟨by rw [z, h.1]; show _ = b + (M.1 + 1); omega, fun j x hj => ?_⟩
  change (if j = M.1 then some c else M.2 j) = some x at hj
  by_cases hjk : j = M.1
  · rw [if_pos hjk] at hj
    cases hj; subst hjk
    exact hc
  · rw [if_neg hjk] at hj
    exact (h.2 j x hj).kept (oq _ (h.2 j x hj).lt)
def FL (own : String) (idx ci k : Nat) : Prop := ∃ (C : String) (T : u_T) (N : Nat), cl9[ci]? = some (C, T, N) ∧ k < N ∧ (∀ w ∈ u_ws C T N, w ∈ lw_ws) ∧ Cond.fieldLink own idx (T k).1 (T k).2.1 (T k).2.2.1 ∈ lw_ws
def FP (own : String) (idx ci k : Nat) (fin : Bool) (ty : FieldType) : Prop := ∃ (C : String) (T : u_T) (N : Nat) (Y : Nat → FieldType), cl9[ci]? = some (C, T, N) ∧ k < N ∧ (∀ w ∈ u_ws C T N, w ∈ lw_ws) ∧ Cond.fieldLink own idx (T k).1 (T k).2.1 (T k).2.2.1 ∈ lw_ws ∧ (∀ k, k < N → parseFieldDescriptor (T k).2.2.1 = some (Y k)) ∧ (∀ a, a < N → ∀ b, b < N → a ≠ b → (T a).2.1 ≠ (T b).2.1) ∧ (T k).2.2.2 = fin ∧ Y k = ty ∧ (fin = true → (T k).1 = own)
def inInit (F : FT) : Prop := match F with
  | (p, l, e, R, s, m, args, below, meth, c, Q, b, D, cy) => meth.name = "<init>"
section HEAP
variable {F : FT} {cc : ByteArray} {nL : Nat} {own : String} {ret : Option FieldType} {M : Mem} {cs sl pc pc' : Nat} {L st : List Value}
theorem go_get (h : Fok F cc nL own ret) {idx ci k a : Nat} {fs : List Value} {v : Value} (hd : Dc cc pc (.getfield idx) 3 pc') (lk : FL own idx ci k) (hg : gt M a = some (ob ci fs)) (hv : fs[k]? = some v) (kk : Go F nL M cs sl pc' L (v :: st)) : Go F nL M cs sl pc L (.ref a :: st) := by
  obtain ⟨p, l, e, R, s, m, args, below, meth, c, Q, b, D, cy⟩ := F
  obtain ⟨hx, hb, hml, hown, hts, hK, hr, hlk, hbs⟩ := h
  obtain ⟨hd, rfl⟩ := hd
  obtain ⟨C, T, N, hc, hk, hin, hl1⟩ := lk
  intro H locs ls hH hS hl
  exact va_get hx hb hts hin hown hK (hH.one hg) 0 rfl hc k hk (hts _ hl1) (fun _ h => h) (v := shV b v) (by rw [List.getElem?_map, hv]; rfl) hd (kk H locs ls hH hS hl)
theorem go_put (h : Fok F cc nL own ret) {idx ci k a : Nat} {fs fs' : List Value} {v : Value} {ty : FieldType} (hd : Dc cc pc (.putfield idx) 3 pc') (lk : FP own idx ci k false ty) (hg : gt M a = some (ob ci fs)) (hn : ∀ b, narrow ty (shV b v) = shV b v) (hfit : ∀ b, fits ty (shV b v) = true) (hl0 : k < fs.length) (hs : fs.set k v = fs') (kk : Go F nL (up M a (ob ci fs')) cs sl pc' L st) : Go F nL M cs sl pc L (v :: .ref a :: st) := by
  obtain ⟨p, l, e, R, s, m, args, below, meth, c, Q, b, D, cy⟩ := F
  obtain ⟨hx, hb, hml, hown, hts, hK, hr, hlk, hbs⟩ := h
  obtain ⟨hd, rfl⟩ := hd
  obtain ⟨C, T, N, Y, hc, hk, hin, hl1, hty, hnm, hfin, hY, -⟩ := lk
  subst hY
  intro H locs ls hH hS hl
  have hap := va_apart (own := own) hts hin Y hty hnm hK hc
  obtain ⟨r, h1, cell, q1, q2, q3, q4⟩ := hH.2 a _ hg
  have hr : r = (C, T, N) := Option.some.inj (h1.symm.trans hc)
  subst hr
  obtain ⟨hSl, hfc, kC, hkC, hkind⟩ := hK.1 ci _ hc
  obtain ⟨cf, kf, fi, f, hi, hsl⟩ := hSl k hk
  have hlay := hts _ (hin _ (u_in_lay hk))
  unfold u_lay at hlay
  rw [if_neg (by rw [hfin]; decide)] at hlay
  have hst := (u_facts hfc hkC (u_lays hts hin hk) hi).1
  have h6 := u_store hfc hkC hkind hlay hi (hty k hk) (hn b) (hfit b)
  refine W.putK hx hb (f := f) ⟨hown, hts _ hl1, ⟨_, _, _, hi⟩, hst⟩ (by rw [q2]; exact h6) q1 q3 (by rw [hsl]; exact k2_hasslot (q4 k hk)) rfl rfl hd fun H' e1 e2 e3 => ?_
  rw [hsl] at e1 ⊢
  refine kk H' _ ls (hH.set hg e2 e3 ?_) (hS.put e2 e3 (Nat.le_add_right b a)) hl
  refine ⟨_, hc, t_OB.to (V := updV (vp_V (fs.map (shV b))) k (shV b v)) ⟨_, e1, q2, q3, t_set q4 hap hk _⟩ (fun j _ => ?_)⟩
  rw [vp_updV_set (by simpa using hl0), ← hs, List.map_set]
theorem go_putF (h : Fok F cc nL own ret) (hini : inInit F) {idx ci k a : Nat} {fs fs' : List Value} {v : Value} {ty : FieldType} (hd : Dc cc pc (.putfield idx) 3 pc') (lk : FP own idx ci k true ty) (hg : gt M a = some (ob ci fs)) (hn : ∀ b, narrow ty (shV b v) = shV b v) (hfit : ∀ b, fits ty (shV b v) = true) (hl0 : k < fs.length) (hs : fs.set k v = fs') (kk : Go F nL (up M a (ob ci fs')) cs sl pc' L st) : Go F nL M cs sl pc L (v :: .ref a :: st) := by
  obtain ⟨p, l, e, R, s, m, args, below, meth, c, Q, b, D, cy⟩ := F
  obtain ⟨hx, hb, hml, hown, hts, hK, hr, hlk, hbs⟩ := h
  obtain ⟨hd, rfl⟩ := hd
  obtain ⟨C, T, N, Y, hc, hk, hin, hl1, hty, hnm, hfin, hY, hdecl⟩ := lk
  subst hY
  intro H locs ls hH hS hl
  have hap := va_apart (own := own) hts hin Y hty hnm hK hc
  obtain ⟨r, h1, cell, q1, q2, q3, q4⟩ := hH.2 a _ hg
  have hr : r = (C, T, N) := Option.some.inj (h1.symm.trans hc)
  subst hr
  obtain ⟨hSl, hfc, kC, hkC, hkind⟩ := hK.1 ci _ hc
  obtain ⟨cf, kf, fi, f, hi, hsl⟩ := hSl k hk
  have hlay := hts _ (hin _ (u_in_lay hk))
  unfold u_lay at hlay
  rw [if_pos hfin] at hlay
  have hst := (u_facts hfc hkC (u_lays hts hin hk) hi).1
  have hcf : m.cls = cf := by
    obtain ⟨_, _, c', _, _, _, -, -, hf', -, -, -, hown2, -⟩ := Cond.laysFinal_spec hlay
    have e1 : c' = cf := by have := hi.symm.trans hf'; simp at this; exact this.1.symm
    rw [hdecl rfl] at hown2
    rw [← e1]; exact Option.some.inj (hown.symm.trans hown2)
  have h6 := u_fits hfc hkC hkind (Or.inr hlay) hi (hty k hk) (hn b) (hfit b)
  refine W.putFinK hx hb hown (hts _ hl1) hi hst hcf hini (by rw [q2]; exact h6) q1 q3 (by rw [hsl]; exact k2_hasslot (q4 k hk)) rfl rfl hd fun H' e1 e2 e3 => ?_
  rw [hsl] at e1 ⊢
  refine kk H' _ ls (hH.set hg e2 e3 ?_) (hS.put e2 e3 (Nat.le_add_right b a)) hl
  refine ⟨_, hc, t_OB.to (V := updV (vp_V (fs.map (shV b))) k (shV b v)) ⟨_, e1, q2, q3, t_set q4 hap hk _⟩ (fun j _ => ?_)⟩
  rw [vp_updV_set (by simpa using hl0), ← hs, List.map_set]
theorem go_alen (h : Fok F cc nL own ret) {a n : Nat} {f : Nat → Int32} {v : Int32} (hd : Dc cc pc .arraylength 1 pc') (hg : gt M a = some (ar n f)) (hv : Int32.ofNat n = v) (kk : Go F nL M cs sl pc' L (.int v :: st)) : Go F nL M cs sl pc L (.ref a :: st) := by
  obtain ⟨p, l, e, R, s, m, args, below, meth, c, Q, b, D, cy⟩ := F
  obtain ⟨hx, hb, hml, hown, hts, hK, hr, hlk, hbs⟩ := h
  obtain ⟨hd, rfl⟩ := hd
  intro H locs ls hH hS hl
  exact va_alen hx hb hK (hH.one hg) 0 0 (x := (n, .inl f)) rfl rfl hv hd (kk H locs ls hH hS hl)
theorem go_iald (h : Fok F cc nL own ret) {a n : Nat} {f : Nat → Int32} {i : Int32} (hd : Dc cc pc .iaload 1 pc') (hg : gt M a = some (ar n f)) (hi : vp_in i n) {v : Int32} (hv : f i.toNatClampNeg = v) (kk : Go F nL M cs sl pc' L (.int v :: st)) : Go F nL M cs sl pc L (.int i :: .ref a :: st) := by
  obtain ⟨p, l, e, R, s, m, args, below, meth, c, Q, b, D, cy⟩ := F
  obtain ⟨hx, hb, hml, hown, hts, hK, hr, hlk, hbs⟩ := h
  obtain ⟨hd, rfl⟩ := hd
  subst hv
  intro H locs ls hH hS hl
  exact va_iald hx hb hK (hH.one hg) 0 0 rfl rfl hi hd (kk H locs ls hH hS hl)
theorem go_zald (h : Fok F cc nL own ret) {a n : Nat} {f : Nat → Int32} {i : Int32} (hd : Dc cc pc .baload 1 pc') (hg : gt M a = some (zr n f)) (hi : vp_in i n) {v : Int32} (hv : f i.toNatClampNeg = v) (kk : Go F nL M cs sl pc' L (.int v :: st)) : Go F nL M cs sl pc L (.int i :: .ref a :: st) := by
  obtain ⟨p, l, e, R, s, m, args, below, meth, c, Q, b, D, cy⟩ := F
  obtain ⟨hx, hb, hml, hown, hts, hK, hr, hlk, hbs⟩ := h
  obtain ⟨hd, rfl⟩ := hd
  subst hv
  intro H locs ls hH hS hl
  exact va_zald hx hb hK (hH.one hg) 0 1 rfl rfl hi hd (kk H locs ls hH hS hl)
theorem go_iast (h : Fok F cc nL own ret) {a n : Nat} {f : Nat → Int32} {i x : Int32} (hd : Dc cc pc .iastore 1 pc') (hg : gt M a = some (ar n f)) (hi : vp_in i n) (kk : Go F nL (up M a (ar n (upd f i.toNatClampNeg x))) cs sl pc' L st) : Go F nL M cs sl pc L (.int x :: .int i :: .ref a :: st) := by
  obtain ⟨p, l, e, R, s, m, args, below, meth, c, Q, b, D, cy⟩ := F
  obtain ⟨hx, hb, hml, hown, hts, hK, hr, hlk, hbs⟩ := h
  obtain ⟨hd, rfl⟩ := hd
  intro H locs ls hH hS hl
  have hat : H[b + a]? = some (vp_cell cy.1 (n, .inl f)) := hH.2 a _ hg
  refine W.iast hx hb hat ((hK.2 0 (cy.1, .int) rfl).1 n (fun j => .int (f j))) (fun q => by cases q) (by show ¬ (i < 0 ∨ (arrV _ _ _).slots.size ≤ _); rw [arrV_size]; exact hi) rfl rfl hd fun H1 e1 e2 e3 => ?_
  refine kk H1 _ ls (hH.set hg e2 e3 ?_) (hS.put e2 e3 (Nat.le_add_right b a)) hl
  show H1[b + a]? = some (vp_cell _ _)
  rw [e1]
  show some (Cell.setSlot (vp_cell _ _) _ _) = some (vp_cell _ _)
  rw [vp_cell_i, vp_cell_i, arrV_store]
  congr 2
  funext q
  by_cases hq : q = i.toNatClampNeg
  · subst hq
    simp [updV, upd]
  · simp [updV, upd, hq]
theorem go_zast (h : Fok F cc nL own ret) {a n : Nat} {f : Nat → Int32} {i x : Int32} (hd : Dc cc pc .bastore 1 pc') (hg : gt M a = some (zr n f)) (hi : vp_in i n) (hx1 : narrow .boolean (.int x) = .int x) (kk : Go F nL (up M a (zr n (upd f i.toNatClampNeg x))) cs sl pc' L st) : Go F nL M cs sl pc L (.int x :: .int i :: .ref a :: st) := by
  obtain ⟨p, l, e, R, s, m, args, below, meth, c, Q, b, D, cy⟩ := F
  obtain ⟨hx, hb, hml, hown, hts, hK, hr, hlk, hbs⟩ := h
  obtain ⟨hd, rfl⟩ := hd
  intro H locs ls hH hS hl
  have hat : H[b + a]? = some (vp_cell cy.2 (n, .inl f)) := hH.2 a _ hg
  refine W.zast hx hb hat ((hK.2 1 (cy.2, .boolean) rfl).1 n (fun j => .int (f j))) (fun q => by cases q) (by show ¬ (i < 0 ∨ (arrV _ _ _).slots.size ≤ _); rw [arrV_size]; exact hi) rfl rfl hd fun H1 e1 e2 e3 => ?_
  refine kk H1 _ ls (hH.set hg e2 e3 ?_) (hS.put e2 e3 (Nat.le_add_right b a)) hl
  show H1[b + a]? = some (vp_cell _ _)
  rw [e1, hx1]
  show some (Cell.setSlot (vp_cell _ _) _ _) = some (vp_cell _ _)
  rw [vp_cell_i, vp_cell_i, arrV_store]
  congr 2
  funext q
  by_cases hq : q = i.toNatClampNeg
  · subst hq
    simp [updV, upd]
  · simp [updV, upd, hq]
def Room3 (F : FT) (cs sl : Nat) : Prop := match F with
  | (p, l, e, R, s, m, args, below, meth, c, Q, b, D, cy) => cs ≤ R.cells ∧ sl ≤ R.slots
def NW (own : String) (idx ci : Nat) (fs : List Value) : Prop := ∃ (C : String) (T : u_T) (N : Nat) (Y : Nat → FieldType), cl9[ci]? = some (C, T, N) ∧ (∀ w ∈ u_ws C T N, w ∈ lw_ws) ∧ (∀ k, k < N → parseFieldDescriptor (T k).2.2.1 = some (Y k)) ∧ Cond.classLink own idx C ∈ lw_ws ∧ Cond.instantiable C N ∈ lw_ws ∧ Cond.initialized C ∈ lw_ws ∧ fs.length = N ∧ (∀ j, j < N → ∀ b, defaultValue (Y j) = vp_V (fs.map (shV b)) j)
theorem go_new (h : Fok F cc nL own ret) {idx ci n a : Nat} {fs : List Value} (hd : Dc cc pc (.new idx) 3 pc') (lk : NW own idx ci fs) (hn : fs.length = n) (hro : Room3 F (cs + 1) (sl + n)) (ha : M.1 = a) (kk : Go F nL (nw M (ob ci fs)) (cs + 1) (sl + n) pc' L (.ref a :: st)) : Go F nL M cs sl pc L st := by
  obtain ⟨p, l, e, R, s, m, args, below, meth, c, Q, b, D, cy⟩ := F
  obtain ⟨hx, hb, hml, hown, hts, hK, hr, hlk, hbs⟩ := h
  obtain ⟨hd, rfl⟩ := hd
  obtain ⟨C, T, N, Y, hc, hin, hty, w1, w2, w3, hlen, hdf⟩ := lk
  subst hn; subst ha; subst hlen
  intro H locs ls hH hS hl
  have hKn := hK.1 ci _ hc
  refine W.newcK hx hb hown (hts _ w1) (hts _ w2) (hts _ w3) rfl hd hro.1 hro.2 hKn.2.1 hH.1 fun H1 kC hkC e1 z1 o1 => ?_
  refine kk H1 locs ls (hH.push (by rw [z1, hH.1]) (fun q hq => o1 q (by rw [← hH.1]; exact hq)) ?_) ⟨Nat.le_trans hS.1 (by rw [z1, hH.1]; omega), fun x h1 h2 => (o1 x (by have := hS.1; rw [hH.1] at this; omega)).trans (hS.2.1 x h1 h2), hS.2.2⟩ hl
  exact ⟨_, hc, (u_born Y hts hin hKn hkC e1 hty).to (fun j hj => hdf j hj b)⟩
theorem find_one {s : State} {n : String} {a b : ClassId} (h1 : s.vm.findClass n = some a) (h2 : s.vm.findClass n = some b) : a = b := Option.some.inj (h1.symm.trans h2)
theorem go_newaI (h : Fok F cc nL own ret) {n : Int32} {N a : Nat} (hd : Dc cc pc (.newarray .int) 2 pc') (hw : Cond.arrayClass .int ∈ lw_ws) (h0 : ¬ n < 0) (hN : n.toNatClampNeg = N) (hby : N * 4 ≤ 536870912) (hro : Room3 F (cs + 1) (sl + N)) (ha : M.1 = a) (kk : Go F nL (nw M (ar N (fun _ => 0))) (cs + 1) (sl + N) pc' L (.ref a :: st)) : Go F nL M cs sl pc L (.int n :: st) := by
  obtain ⟨p, l, e, R, s, m, args, below, meth, c, Q, b, D, cy⟩ := F
  obtain ⟨hx, hb, hml, hown, hts, hK, hr, hlk, hbs⟩ := h
  obtain ⟨hd, rfl⟩ := hd
  subst ha
  intro H locs ls hH hS hl
  refine va_newaK hx hb (atype := .int) (hts _ hw) rfl hd rfl h0 hN hby hro.1 hro.2 hH.1 fun H1 cA e1 z1 o1 hAr hNm => ?_
  have hcA : cA = cy.1 := find_one hNm ((hK.2 0 (cy.1, .int) rfl).2)
  subst hcA
  refine kk H1 locs ls (hH.push (by rw [z1, hH.1]) (fun q hq => o1 q (by rw [← hH.1]; exact hq)) ?_) ⟨Nat.le_trans hS.1 (by rw [z1, hH.1]; omega), fun x h1 h2 => (o1 x (by have := hS.1; rw [hH.1] at this; omega)).trans (hS.2.1 x h1 h2), hS.2.2⟩ hl
  exact e1
theorem go_newaZ (h : Fok F cc nL own ret) {n : Int32} {N a : Nat} (hd : Dc cc pc (.newarray .boolean) 2 pc') (hw : Cond.arrayClass .boolean ∈ lw_ws) (h0 : ¬ n < 0) (hN : n.toNatClampNeg = N) (hby : N * 1 ≤ 536870912) (hro : Room3 F (cs + 1) (sl + N)) (ha : M.1 = a) (kk : Go F nL (nw M (zr N (fun _ => 0))) (cs + 1) (sl + N) pc' L (.ref a :: st)) : Go F nL M cs sl pc L (.int n :: st) := by
  obtain ⟨p, l, e, R, s, m, args, below, meth, c, Q, b, D, cy⟩ := F
  obtain ⟨hx, hb, hml, hown, hts, hK, hr, hlk, hbs⟩ := h
  obtain ⟨hd, rfl⟩ := hd
  subst ha
  intro H locs ls hH hS hl
  refine va_newaK hx hb (atype := .boolean) (hts _ hw) rfl hd rfl h0 hN hby hro.1 hro.2 hH.1 fun H1 cA e1 z1 o1 hAr hNm => ?_
  have hcA : cA = cy.2 := find_one hNm ((hK.2 1 (cy.2, .boolean) rfl).2)
  subst hcA
  refine kk H1 locs ls (hH.push (by rw [z1, hH.1]) (fun q hq => o1 q (by rw [← hH.1]; exact hq)) ?_) ⟨Nat.le_trans hS.1 (by rw [z1, hH.1]; omega), fun x h1 h2 => (o1 x (by have := hS.1; rw [hH.1] at this; omega)).trans (hS.2.1 x h1 h2), hS.2.2⟩ hl
  exact e1
def OI (own : String) (idx : Nat) : Prop := Cond.methodLink own idx Lib.objectInit ∈ lw_ws ∧ Cond.instanceMethod Lib.objectInit ∈ lw_ws ∧ Cond.code Lib.objectInit ⟨#[0xb1]⟩ 1 none ∈ lw_ws
def Rge (F : FT) (d : Nat) : Prop := match F with
  | (p, l, e, R, s, m, args, below, meth, c, Q, b, D, cy) => d ≤ R.frames ∧ 64 * d ≤ R.locals
theorem cat_map (b : Nat) (st : List Value) : ((st.map (shV b)).map fun v => v.category) = st.map fun v => v.category := by
  induction st with
  | nil => rfl
  | cons a t ih => simp only [List.map_cons, ih, shV_cat]
theorem go_obj (h : Fok F cc nL own ret) {idx a d : Nat} (hd : Dc cc pc (.invokespecial idx) 3 pc') (lk : OI own idx) (hR : Rge F d) (h1 : 1 ≤ d) (h8 : (st.map fun v => v.category).sum ≤ 8) (kk : Go F nL M cs sl pc' L st) : Go F nL M cs sl pc L (.ref a :: st) := by
  obtain ⟨p, l, e, R, s, m, args, below, meth, c, Q, b, D, cy⟩ := F
  obtain ⟨hx, hb, hml, hown, hts, hK, hr, hlk, hbs⟩ := h
  obtain ⟨hd, rfl⟩ := hd
  obtain ⟨w1, w2, w3⟩ := lk
  intro H locs ls hH hS hl
  obtain ⟨hR1, hR2⟩ := hR
  have h9 := lv_room (m := m) (pc := pc) (ls := ls) (st := st.map (shV b)) (rest := (.ref (b + a)) :: st.map (shV b)) (by rw [cat_map]; exact h8)
  refine W.objInit hx hb hown (hts _ w1) (hts _ w2) (hts _ w3) (g := F0 m pc ls (.ref (b + a) :: st.map (shV b))) rfl (by rw [hml]; exact hl.1) rfl hd (by omega) ?_ (kk H locs ls hH hS hl)
  show _ ≤ _
  have : 2 * (F0 m pc ls (.ref (b + a) :: st.map (shV b))).monitorRoom + ((st.map (shV b)).map fun v => v.category).sum ≤ 8 := by first | exact h9 | (rw [cat_map]; simpa using h8)
  omega
end HEAP
end
section
/-! contracts, calls, ends -/
abbrev XT : Type := Launch × Nat × va_G × (ClassId × ClassId)
def rmv (d mc ms : Nat) : Room := { frames := d, cells := mc, slots := ms, locals := 64 * d }
def Qct (b : Nat) (D : va_G) (cy : ClassId × ClassId) (Post : Option Value → Mem → Prop) : Array Value → State → Outcome → State → Prop := fun _ st oc t => (∃ (v : Option Value) (M' : Mem), oc = .returned (v.map (shV b)) ∧ Post v M' ∧ Hold b D cy M' t.heap) ∧ va_F (fun q => b ≤ q) st t
def Ctr (X : XT) (d : Nat) (y : MethodName) (cc : ByteArray) (nL : Nat) (ret : Option FieldType) (args : List Value) (M : Mem) (Post : Option Value → Mem → Prop) (mc ms : Nat) : Prop := match X with
  | (l, b, D, cy) => Met l y (Cond.code y cc nL ret :: lw_ws) (rmv d mc ms) (va_Pc (args.map (shV b)) (fun U => Hold b D cy M U.heap ∧ va_K D cl9 (tyZ cy) U)) (Qct b D cy Post) mc ms (fun q => b ≤ q)
def FX (F : FT) (X : XT) : Prop := match F with
  | (p, l, e, R, s, m, args, below, meth, c, Q, b, D, cy) => X = (l, b, D, cy)
def Fend (F : FT) (Post : Option Value → Mem → Prop) (mc ms : Nat) : Prop := match F with
  | (p, l, e, R, s, m, args, below, meth, c, Q, b, D, cy) => Q = MQ below (Qct b D cy Post) args s mc ms (fun q => b ≤ q)
theorem c1_args {vs : List Value} : ∀ {i : Nat}, c1 vs = true → ∀ (k : Nat) (v : Value), vs[k]? = some v → (i + k, v) ∈ lv_args i vs := by
  induction vs with
  | nil => intro i _ k v h; simp at h
  | cons a t ih =>
    intro i hc k v h
    simp only [c1, Bool.and_eq_true, decide_eq_true_eq] at hc
    match k, h with
    | 0, h => cases h; exact List.mem_cons_self
    | k + 1, h =>
      have := ih (i := i + 1) hc.2 k v h
      rw [lv_args, if_neg (by rw [hc.1]; decide)]
      refine List.mem_cons_of_mem _ ?_
      rw [show i + (k + 1) = i + 1 + k by omega]
      exact this
theorem c1_map (b : Nat) : ∀ (vs : List Value), c1 (vs.map (shV b)) = c1 vs
  | [] => rfl
  | v :: t => by simp only [List.map_cons, c1, shV_cat, c1_map b t]
theorem c1_len : ∀ {vs : List Value}, c1 vs = true → (lg_sl vs).length = vs.length
  | [], _ => rfl
  | v :: t, h => by
    simp only [c1, Bool.and_eq_true, decide_eq_true_eq] at h
    have := c1_len h.2
    simp only [lg_sl, List.flatMap_cons, List.length_append, List.length_cons] at this ⊢
    rw [if_neg (by rw [h.1]; decide)]
    simp only [List.length_singleton]
    omega
theorem Ctr.of {X : XT} {d : Nat} {y : MethodName} {cc : ByteArray} {nL : Nat} {ret : Option FieldType} {av : List Value} {M : Mem} {Post : Option Value → Mem → Prop} {mc ms : Nat} (hy : plainName y.cls = true) (hc : c1 av = true) (hlen : av.length ≤ nL) (body : ∀ F : FT, Fok F cc nL y.cls ret → FX F X → Rge F d → Room3 F mc ms → Fend F Post mc ms → (y.name = "<init>" → inInit F) → Go F nL M 0 0 0 av []) : Ctr X d y cc nL ret av M Post mc ms := by
  obtain ⟨l, b, D, cy⟩ := X
  refine Met.ofW (cc := cc) (maxL := nL) (ret := ret) hy rfl ?_
  intro p e s m args below meth c s₁ B hml hv
  obtain ⟨rfl, hH, hK⟩ := hv
  have hts := atoms_spec (ws := Cond.code y cc nL ret :: lw_ws) B.pre
  have hown : s.vm.findClass y.cls = some m.cls := findClass_of_methodNamed B.named
  have hc' : c1 (av.map (shV b)) = true := by rw [c1_map]; exact hc
  have hl := lv_entry (av.map (shV b)) (n := nL) (by rw [c1_len hc', List.length_map]; exact hlen)
  rw [lg_entry_eq]
  generalize (lg_sl (av.map (shV b)) ++ List.replicate (nL - (lg_sl (av.map (shV b))).length) Slot.unset).toArray = ls at hl ⊢
  refine body (p, l, e, rmv d mc ms, s, m, (av.map (shV b)).toArray, below, meth, c, _, b, D, cy) ⟨B.exec, B.bytes, hml, hown, fun w hw => hts w (List.mem_cons_of_mem _ hw), hK, B.returns, B.notSynchronized, by rw [hH.1]; exact Nat.le_add_right b M.1⟩ rfl ⟨Nat.le_refl _, Nat.le_refl _⟩ ⟨Nat.le_refl _, Nat.le_refl _⟩ rfl (fun hn => ((name_of_methodNamed B.named B.method).1).trans hn) s.heap [] ls hH va_S.rf ⟨hl.1, hl.2.1, fun k v hv => ?_⟩
  have h2 : (av.map (shV b))[k]? = some (shV b v) := by rw [List.getElem?_map, hv]; rfl
  have h3 := c1_args (i := 0) hc' k _ h2
  rw [Nat.zero_add] at h3
  exact hl.2.2 _ h3
section CALLS
variable {F : FT} {cc : ByteArray} {nL : Nat} {own : String} {ret : Option FieldType} {M : Mem} {cs sl pc pc' : Nat} {L st : List Value} {X : XT} {d d' : Nat}
variable {y : MethodName} {bytes : ByteArray} {maxL : Nat} {rt : Option FieldType} {n idx : Nat} {As : List Value} {Post : Option Value → Mem → Prop} {mc ms : Nat}
def KC (y : MethodName) (bytes : ByteArray) (maxL : Nat) (rt : Option FieldType) (n : Nat) : Prop := Cond.code y bytes maxL rt ∈ lw_ws ∧ Cond.initialized y.cls ∈ lw_ws ∧ (y.cls ≠ "java/lang/invoke/MethodHandle" ∧ y.cls ≠ "java/lang/invoke/VarHandle" ∧ (parseMethodDescriptor y.desc).map (fun d => d.parameters.length) = some n) ∧ maxL ≤ 40
def KV (own : String) (idx : Nat) (y : MethodName) (bytes : ByteArray) (maxL : Nat) (rt : Option FieldType) (n : Nat) : Prop := KC y bytes maxL rt n ∧ Cond.methodLink own idx y ∈ lw_ws ∧ Cond.instanceMethod y ∈ lw_ws ∧ Cond.selects y.cls y y ∈ lw_ws
def KS (own : String) (idx : Nat) (y : MethodName) (bytes : ByteArray) (maxL : Nat) (rt : Option FieldType) (n : Nat) : Prop := KC y bytes maxL rt n ∧ Cond.methodLink own idx y ∈ lw_ws ∧ Cond.static y ∈ lw_ws
def KI (own : String) (idx : Nat) (y : MethodName) (bytes : ByteArray) (maxL : Nat) (rt : Option FieldType) (n : Nat) : Prop := KC y bytes maxL rt n ∧ Cond.methodLink own idx y ∈ lw_ws ∧ y.name = "<init>" ∧ Cond.instanceMethod y ∈ lw_ws
def KSN (own : String) (idx : Nat) (y : MethodName) (bytes : ByteArray) (maxL : Nat) (rt : Option FieldType) (n : Nat) : Prop := KC y bytes maxL rt n ∧ (∃ host, Cond.methodLinkNest own idx y host ∈ lw_ws) ∧ Cond.static y ∈ lw_ws
def KIN (own : String) (idx : Nat) (y : MethodName) (bytes : ByteArray) (maxL : Nat) (rt : Option FieldType) (n : Nat) : Prop := KC y bytes maxL rt n ∧ (∃ host, Cond.methodLinkNest own idx y host ∈ lw_ws) ∧ y.name = "<init>" ∧ Cond.instanceMethod y ∈ lw_ws
theorem lw_pays {s : State} {args : Array Value} (hts : ∀ w ∈ lw_ws, w.before args s = true) {y : MethodName} {bytes : ByteArray} {maxL : Nat} {rt : Option FieldType} (hc : Cond.code y bytes maxL rt ∈ lw_ws) : ∀ w ∈ Cond.code y bytes maxL rt :: lw_ws, ∀ (a' : Array Value) (U : State), s.WarmedH U.vm → w.before a' U = true := by
  intro w hw a' U hW
  have hw2 : w ∈ lw_ws := by
    rcases List.mem_cons.mp hw with rfl | h
    · exact hc
    · exact h
  have hg := (List.mem_filter.mp hw2).2
  have hb := hts w hw2
  unfold gw at hg
  rcases (Bool.or_eq_true _ _).mp hg with h1 | h1
  · exact word_at hW (good_of_word h1) hb
  · cases w <;> first | (simp [isNest] at h1; done) | exact va_Nw.use rfl (va_Nw.warmM hW (va_Nw.of rfl hb))
theorem lw_blind {b : Nat} {D : va_G} {cy : ClassId × ClassId} {M : Mem} {av : List Value} : FrameBlind (va_Pc av (fun U => Hold b D cy M U.heap ∧ va_K D cl9 (tyZ cy) U)) := fun a U g mk q => ⟨q.1, q.2.1, va_K.moved (u := U) (U := U.calling g mk a) (Vm.Alike.refl U.vm) q.2.2⟩
theorem run_go {p : Program} {l : Launch} {e : Env} {R : Room} {s : State} {m : MethodId} {args : Array Value} {below : List Frame} {meth : Method} {c : Code} {Q : State → Prop} {b : Nat} {D : va_G} {cy : ClassId × ClassId} {a : Array Value} {H : Heap} {locs : List Loc} {ls : Array Slot} {st0 : List Value} {st : List Value}
    (hr : va_Run p l e R s m args below meth c H locs cs sl mc ms (F0 m pc ls st0) (st.map (shV b)) (Qct b D cy Post a) (fun q => b ≤ q)) (hbs : b ≤ s.heap.size) (hS : va_S (fun q => b ≤ q) s.heap H locs) (hl : LH b ls nL L)
    (kk : ∀ (v : Option Value) (M' : Mem), Post v M' → Go (p, l, e, R, s, m, args, below, meth, c, Q, b, D, cy) nL M' (cs + mc) (sl + ms) (pc + 3) L (v.toList ++ st)) : W p l e R s m args below meth c H locs cs sl Q (F0 m pc ls st0) := by
  intro T hT X
  obtain ⟨v, st₀, t, T', L1, h0, X', hL, e1, e2, ⟨⟨u, M', hv, hp, hh⟩, hz, hk⟩, stp⟩ := hr T hT X
  have hv := Outcome.returned.inj hv
  subst hv
  rw [h0] at hz hk
  have hS' : va_S (fun q => b ≤ q) s.heap T'.heap (locs ++ L1) := ⟨Nat.le_trans hS.1 (by rw [e1]; exact hz), fun q h1 h2 => by rw [e1, hk q (Nat.lt_of_lt_of_le h1 hS.1) h2]; exact hS.2.1 q h1 h2, fun q hq => by
    rcases List.mem_append.mp hq with h | h
    · exact hS.2.2 q h
    · exact hL q h⟩
  obtain ⟨t2, a1, b1⟩ := kk u M' hp T'.heap (locs ++ L1) ls (by rw [e1]; exact hh) hS' hl T' rfl X'
  refine ⟨t2, stp t2 ?_, b1⟩
  have e3 : (u.toList ++ st).map (shV b) = (u.map (shV b)).toList ++ st.map (shV b) := by cases u <;> rfl
  rw [e3] at a1
  exact a1
theorem go_callV (h : Fok F cc nL own ret) {k ci : Nat} {fs : List Value} {st0 : List Value} (hd : Dc cc pc (.invokevirtual idx) 3 pc') (kv : KV own idx y bytes maxL rt n) (hX : FX F X) (hR : Rge F d) (hro : Room3 F (cs + mc) (sl + ms)) (ct : Ctr X d' y bytes maxL rt (.ref k :: As) M Post mc ms) (hdd : d' + 1 ≤ d) (hg : gt M k = some (ob ci fs)) (hci : ∃ T N, cl9[ci]? = some (y.cls, T, N)) (hn : As.length = n) (h8 : (st.map fun v => v.category).sum ≤ 8) (hst : st0 = As.reverse ++ .ref k :: st) (kk : ∀ (v : Option Value) (M' : Mem), Post v M' → Go F nL M' (cs + mc) (sl + ms) pc' L (v.toList ++ st)) : Go F nL M cs sl pc L st0 := by
  obtain ⟨p, l, e, R, s, m, args, below, meth, c, Q, b, D, cy⟩ := F
  have h9 := h
  obtain ⟨hx, hb, hml, hown, hts, hK, hr, hlk, hbs⟩ := h
  obtain ⟨hd, rfl⟩ := hd
  subst hst
  cases hX
  obtain ⟨hR1, hR2⟩ := hR
  obtain ⟨⟨k1, k2, k3, k4⟩, k5, k6, k7⟩ := kv
  intro H locs ls hH hS hl
  obtain ⟨T, N, hcl⟩ := hci
  refine run_go (hr := va_runV (As := As.map (shV b)) (rest := st.map (shV b)) (Ts := lw_ws) ⟨hx, hb, hml, hown, hts⟩ ct ⟨(⟨rfl, rfl, by show d' + 1 ≤ _; omega, by show 8 + (maxL + 11) + 64 * d' ≤ _; omega, lw_pays hts k1, List.mem_cons_self, hts _ k1, hts _ k2, ⟨k3.1, k3.2.1⟩, fun sig hsg => by have h2 := k3.2.2; rw [hsg] at h2; exact (Option.some.inj h2).symm, hts _ k5⟩ : CallB R s args own idx y bytes maxL rt _ (rmv d' mc ms) mc ms n), hts _ k6, hts _ k7⟩ ⟨lw_blind, va_recv hK (hH.one hg) hcl (q0 := 0) rfl, fun U hU hW => ⟨by simp [shV], by rw [hU]; exact hH, va_K.moved hW.alike hK⟩⟩ rfl (by rw [List.length_map]; exact hn) hl.1 (by simp [shV]) (lv_room (by rw [cat_map]; exact h8)) hd hro) hbs hS hl kk
theorem go_callS (h : Fok F cc nL own ret) {st0 : List Value} (hd : Dc cc pc (.invokestatic idx) 3 pc') (kv : KS own idx y bytes maxL rt n) (hX : FX F X) (hR : Rge F d) (hro : Room3 F (cs + mc) (sl + ms)) (ct : Ctr X d' y bytes maxL rt As M Post mc ms) (hdd : d' + 1 ≤ d) (hn : As.length = n) (h8 : (st.map fun v => v.category).sum ≤ 8) (hst : st0 = As.reverse ++ st) (kk : ∀ (v : Option Value) (M' : Mem), Post v M' → Go F nL M' (cs + mc) (sl + ms) pc' L (v.toList ++ st)) : Go F nL M cs sl pc L st0 := by
  obtain ⟨p, l, e, R, s, m, args, below, meth, c, Q, b, D, cy⟩ := F
  have h9 := h
  obtain ⟨hx, hb, hml, hown, hts, hK, hr, hlk, hbs⟩ := h
  obtain ⟨hd, rfl⟩ := hd
  subst hst
  cases hX
  obtain ⟨hR1, hR2⟩ := hR
  obtain ⟨⟨k1, k2, k3, k4⟩, k5, k6⟩ := kv
  intro H locs ls hH hS hl
  refine run_go (hr := va_runS (As := As.map (shV b)) (rest := st.map (shV b)) (Ts := lw_ws) ⟨hx, hb, hml, hown, hts⟩ ct ⟨(⟨rfl, rfl, by show d' + 1 ≤ _; omega, by show 8 + (maxL + 11) + 64 * d' ≤ _; omega, lw_pays hts k1, List.mem_cons_self, hts _ k1, hts _ k2, ⟨k3.1, k3.2.1⟩, fun sig hsg => by have h2 := k3.2.2; rw [hsg] at h2; exact (Option.some.inj h2).symm, hts _ k5⟩ : CallB R s args own idx y bytes maxL rt _ (rmv d' mc ms) mc ms n), hts _ k6⟩ ⟨lw_blind, fun U hU hW => ⟨by simp [shV], by rw [hU]; exact hH, va_K.moved hW.alike hK⟩⟩ rfl (by rw [List.length_map]; exact hn) hl.1 (by simp [shV]) (lv_room (by rw [cat_map]; exact h8)) hd hro) hbs hS hl kk
theorem go_callI (h : Fok F cc nL own ret) {k : Nat} {st0 : List Value} (hd : Dc cc pc (.invokespecial idx) 3 pc') (kv : KI own idx y bytes maxL none n) (hX : FX F X) (hR : Rge F d) (hro : Room3 F (cs + mc) (sl + ms)) (ct : Ctr X d' y bytes maxL none (.ref k :: As) M Post mc ms) (hdd : d' + 1 ≤ d) (hn : As.length = n) (h8 : (st.map fun v => v.category).sum ≤ 8) (hst : st0 = As.reverse ++ .ref k :: st) (kk : ∀ (v : Option Value) (M' : Mem), Post v M' → Go F nL M' (cs + mc) (sl + ms) pc' L (v.toList ++ st)) : Go F nL M cs sl pc L st0 := by
  obtain ⟨p, l, e, R, s, m, args, below, meth, c, Q, b, D, cy⟩ := F
  have h9 := h
  obtain ⟨hx, hb, hml, hown, hts, hK, hr, hlk, hbs⟩ := h
  obtain ⟨hd, rfl⟩ := hd
  subst hst
  cases hX
  obtain ⟨hR1, hR2⟩ := hR
  obtain ⟨⟨k1, k2, k3, k4⟩, k5, k6, k7⟩ := kv
  intro H locs ls hH hS hl
  refine run_go (hr := va_runI (b := b + k) (As := As.map (shV b)) (rest := st.map (shV b)) (Ts := lw_ws) ⟨hx, hb, hml, hown, hts⟩ ct ⟨(⟨rfl, rfl, by show d' + 1 ≤ _; omega, by show 8 + (maxL + 11) + 64 * d' ≤ _; omega, lw_pays hts k1, List.mem_cons_self, hts _ k1, hts _ k2, ⟨k3.1, k3.2.1⟩, fun sig hsg => by have h2 := k3.2.2; rw [hsg] at h2; exact (Option.some.inj h2).symm, hts _ k5⟩ : CallB R s args own idx y bytes maxL none _ (rmv d' mc ms) mc ms n), k6, hts _ k7⟩ ⟨lw_blind, fun U hU hW => ⟨by simp [shV], by rw [hU]; exact hH, va_K.moved hW.alike hK⟩⟩ rfl (by rw [List.length_map]; exact hn) hl.1 (by simp [shV]) (lv_room (by rw [cat_map]; exact h8)) hd hro) hbs hS hl kk
theorem go_callSN (h : Fok F cc nL own ret) {st0 : List Value} (hd : Dc cc pc (.invokestatic idx) 3 pc') (kv : KSN own idx y bytes maxL rt n) (hX : FX F X) (hR : Rge F d) (hro : Room3 F (cs + mc) (sl + ms)) (ct : Ctr X d' y bytes maxL rt As M Post mc ms) (hdd : d' + 1 ≤ d) (hn : As.length = n) (h8 : (st.map fun v => v.category).sum ≤ 8) (hst : st0 = As.reverse ++ st) (kk : ∀ (v : Option Value) (M' : Mem), Post v M' → Go F nL M' (cs + mc) (sl + ms) pc' L (v.toList ++ st)) : Go F nL M cs sl pc L st0 := by
  obtain ⟨p, l, e, R, s, m, args, below, meth, c, Q, b, D, cy⟩ := F
  have h9 := h
  obtain ⟨hx, hb, hml, hown, hts, hK, hr, hlk, hbs⟩ := h
  obtain ⟨hd, rfl⟩ := hd
  subst hst
  cases hX
  obtain ⟨hR1, hR2⟩ := hR
  obtain ⟨⟨k1, k2, k3, k4⟩, ⟨host, k5⟩, k6⟩ := kv
  intro H locs ls hH hS hl
  refine run_go (hr := va_runSN (As := As.map (shV b)) (rest := st.map (shV b)) (Ts := lw_ws) ⟨hx, hb, hml, hown, hts⟩ ct ⟨(⟨⟨rfl, rfl, by show d' + 1 ≤ _; omega, by show 8 + (maxL + 11) + 64 * d' ≤ _; omega, lw_pays hts k1, List.mem_cons_self⟩, hts _ k1, hts _ k2, ⟨k3.1, k3.2.1⟩, fun sig hsg => by have h2 := k3.2.2; rw [hsg] at h2; exact (Option.some.inj h2).symm, hts _ k5⟩ : va_CN R s args own idx y host bytes maxL rt _ (rmv d' mc ms) mc ms n), hts _ k6, trivial⟩ ⟨lw_blind, fun U hU hW => ⟨by simp [shV], by rw [hU]; exact hH, va_K.moved hW.alike hK⟩⟩ rfl (by rw [List.length_map]; exact hn) hl.1 (by simp [shV]) (lv_room (by rw [cat_map]; exact h8)) hd hro) hbs hS hl kk
theorem go_callIN (h : Fok F cc nL own ret) {k : Nat} {st0 : List Value} (hd : Dc cc pc (.invokespecial idx) 3 pc') (kv : KIN own idx y bytes maxL none n) (hX : FX F X) (hR : Rge F d) (hro : Room3 F (cs + mc) (sl + ms)) (ct : Ctr X d' y bytes maxL none (.ref k :: As) M Post mc ms) (hdd : d' + 1 ≤ d) (hn : As.length = n) (h8 : (st.map fun v => v.category).sum ≤ 8) (hst : st0 = As.reverse ++ .ref k :: st) (kk : ∀ (v : Option Value) (M' : Mem), Post v M' → Go F nL M' (cs + mc) (sl + ms) pc' L (v.toList ++ st)) : Go F nL M cs sl pc L st0 := by
  obtain ⟨p, l, e, R, s, m, args, below, meth, c, Q, b, D, cy⟩ := F
  have h9 := h
  obtain ⟨hx, hb, hml, hown, hts, hK, hr, hlk, hbs⟩ := h
  obtain ⟨hd, rfl⟩ := hd
  subst hst
  cases hX
  obtain ⟨hR1, hR2⟩ := hR
  obtain ⟨⟨k1, k2, k3, k4⟩, ⟨host, k5⟩, k6, k7⟩ := kv
  intro H locs ls hH hS hl
  refine run_go (hr := va_runIN (b := b + k) (As := As.map (shV b)) (rest := st.map (shV b)) (Ts := lw_ws) ⟨hx, hb, hml, hown, hts⟩ ct ⟨(⟨⟨rfl, rfl, by show d' + 1 ≤ _; omega, by show 8 + (maxL + 11) + 64 * d' ≤ _; omega, lw_pays hts k1, List.mem_cons_self⟩, hts _ k1, hts _ k2, ⟨k3.1, k3.2.1⟩, fun sig hsg => by have h2 := k3.2.2; rw [hsg] at h2; exact (Option.some.inj h2).symm, hts _ k5⟩ : va_CN R s args own idx y host bytes maxL none _ (rmv d' mc ms) mc ms n), k6, hts _ k7⟩ ⟨lw_blind, fun U hU hW => ⟨by simp [shV], by rw [hU]; exact hH, va_K.moved hW.alike hK⟩⟩ rfl (by rw [List.length_map]; exact hn) hl.1 (by simp [shV]) (lv_room (by rw [cat_map]; exact h8)) hd hro) hbs hS hl kk
end CALLS
section ENDS
variable {F : FT} {cc : ByteArray} {nL : Nat} {own : String} {M : Mem} {cs sl pc : Nat} {L : List Value} {Post : Option Value → Mem → Prop}
theorem go_iret (h : Fok F cc nL own (some .int)) (hE : Fend F Post cs sl) {v : Int32} (hP : Post (some (.int v)) M) (hd : decode cc pc = .ok (.ireturn, 1)) : Go F nL M cs sl pc L [.int v] := by
  obtain ⟨p, l, e, R, s, m, args, below, meth, c, Q, b, D, cy⟩ := F
  obtain ⟨hx, hb, hml, hown, hts, hK, hr, hlk, hbs⟩ := h
  cases hE
  intro H locs ls hH hS hl
  exact W.iret hx hb hr (fun t ht hW => ⟨⟨some (.int v), M, rfl, hP, by rw [ht]; exact hH⟩, hS.F ht⟩) hS.2.2 hd hlk
theorem go_zret (h : Fok F cc nL own (some .boolean)) (hE : Fend F Post cs sl) {v : Int32} (hv : narrow .boolean (.int v) = .int v) (hP : Post (some (.int v)) M) (hd : decode cc pc = .ok (.ireturn, 1)) : Go F nL M cs sl pc L [.int v] := by
  obtain ⟨p, l, e, R, s, m, args, below, meth, c, Q, b, D, cy⟩ := F
  obtain ⟨hx, hb, hml, hown, hts, hK, hr, hlk, hbs⟩ := h
  cases hE
  intro H locs ls hH hS hl
  exact W.zret hx hb hr hv (fun t ht hW => ⟨⟨some (.int v), M, rfl, hP, by rw [ht]; exact hH⟩, hS.F ht⟩) hS.2.2 hd hlk
theorem go_lret (h : Fok F cc nL own (some .long)) (hE : Fend F Post cs sl) {v : Int64} (hP : Post (some (.long v)) M) (hd : decode cc pc = .ok (.lreturn, 1)) : Go F nL M cs sl pc L [.long v] := by
  obtain ⟨p, l, e, R, s, m, args, below, meth, c, Q, b, D, cy⟩ := F
  obtain ⟨hx, hb, hml, hown, hts, hK, hr, hlk, hbs⟩ := h
  cases hE
  intro H locs ls hH hS hl
  exact W.lret hx hb hr (fun t ht hW => ⟨⟨some (.long v), M, rfl, hP, by rw [ht]; exact hH⟩, hS.F ht⟩) hS.2.2 hd hlk
theorem go_vret (h : Fok F cc nL own none) {mc ms : Nat} (hE : Fend F Post mc ms) (h1 : cs ≤ mc) (h2 : sl ≤ ms) (hP : Post none M) (hd : decode cc pc = .ok (.return_, 1)) : Go F nL M cs sl pc L [] := by
  obtain ⟨p, l, e, R, s, m, args, below, meth, c, Q, b, D, cy⟩ := F
  obtain ⟨hx, hb, hml, hown, hts, hK, hr, hlk, hbs⟩ := h
  cases hE
  intro H locs ls hH hS hl
  refine W.widen (k := mc) (n := ms) h1 h2 ?_
  exact W.vret hx hb hr (fun t ht hW => ⟨⟨none, M, rfl, hP, by rw [ht]; exact hH⟩, hS.F ht⟩) hS.2.2 hd hlk
theorem go_aret {nm : String} (h : Fok F cc nL own (some (.object nm))) {a : Nat} (hE : Fend F Post cs sl) (hP : Post (some (.ref a)) M) (hd : decode cc pc = .ok (.areturn, 1)) : Go F nL M cs sl pc L [.ref a] := by
  obtain ⟨p, l, e, R, s, m, args, below, meth, c, Q, b, D, cy⟩ := F
  obtain ⟨hx, hb, hml, hown, hts, hK, hr, hlk, hbs⟩ := h
  cases hE
  intro H locs ls hH hS hl
  exact W.aret hx hb hr (Or.inl ⟨_, rfl⟩) (Or.inr ⟨_, rfl⟩) (fun t ht hW => ⟨⟨some (.ref a), M, rfl, hP, by rw [ht]; exact hH⟩, hS.F ht⟩) hS.2.2 hd hlk
end ENDS
end
section
/-! whole numbers: every int is iI of a whole number -/
def iI (a : Int) : Int32 := Int32.ofInt a
theorem iI_add (a b : Int) : iI a + iI b = iI (a + b) := (Int32.ofInt_add a b).symm
theorem iI_sub (a b : Int) : iI a - iI b = iI (a - b) := (Int32.ofInt_sub a b).symm
theorem iI_mul (a b : Int) : iI a * iI b = iI (a * b) := (Int32.ofInt_mul a b).symm
theorem iI_neg (a : Int) : - iI a = iI (-a) := (Int32.ofInt_neg a).symm
theorem iI_toInt {a : Int} (h : -2147483648 ≤ a) (h2 : a ≤ 2147483647) : (iI a).toInt = a := by
  unfold iI
  rw [Int32.toInt_ofInt]
  have hz : (Int32.size : Int) = 4294967296 := rfl
  exact Int.bmod_eq_of_le (by omega) (by omega)
theorem iI_of (x : Int32) : iI x.toInt = x := Int32.ofInt_toInt x
theorem iI_lt {a b : Int} (h : -2147483648 ≤ a ∧ a ≤ 2147483647 ∧ -2147483648 ≤ b ∧ b ≤ 2147483647) : iI a < iI b ↔ a < b := by
  rw [Int32.lt_iff_toInt_lt, iI_toInt h.1 h.2.1, iI_toInt h.2.2.1 h.2.2.2]
theorem iI_le {a b : Int} (h : -2147483648 ≤ a ∧ a ≤ 2147483647 ∧ -2147483648 ≤ b ∧ b ≤ 2147483647) : iI a ≤ iI b ↔ a ≤ b := by
  rw [Int32.le_iff_toInt_le, iI_toInt h.1 h.2.1, iI_toInt h.2.2.1 h.2.2.2]
theorem iI_eq {a b : Int} (h : -2147483648 ≤ a ∧ a ≤ 2147483647 ∧ -2147483648 ≤ b ∧ b ≤ 2147483647) : iI a = iI b ↔ a = b := by
  constructor
  · intro e
    have := congrArg Int32.toInt e
    rwa [iI_toInt h.1 h.2.1, iI_toInt h.2.2.1 h.2.2.2] at this
  · intro e; rw [e]
theorem iI_nat (n : Nat) : Int32.ofNat n = iI (n : Int) := by
  unfold iI
  rw [Int32.ofInt_eq_ofNat]
theorem iI_cl {a : Int} (h : 0 ≤ a) (h2 : a ≤ 2147483647) : (iI a).toNatClampNeg = a.toNat := by
  rw [Int32.toNatClampNeg, iI_toInt (by omega) h2]
theorem iI_in {a : Int} {n : Nat} (h : 0 ≤ a ∧ a < (n : Int) ∧ (n : Int) ≤ 2147483647) : vp_in (iI a) n := by
  rw [vp_in_iff, iI_toInt (by omega) (by omega)]
  omega
theorem iI_div {a b : Int} (h : 0 ≤ a ∧ a ≤ 2147483647 ∧ 0 < b ∧ b ≤ 2147483647) : iI a / iI b = iI (a / b) := by
  apply Int32.toInt_inj.mp
  rw [Int32.toInt_div_of_ne_left, iI_toInt (by omega) (by omega), iI_toInt (by omega) (by omega), Int.tdiv_eq_ediv_of_nonneg h.1]
  · have h1 : 0 ≤ a / b := Int.ediv_nonneg h.1 (by omega)
    have h2 : a / b ≤ a := Int.ediv_le_self _ h.1
    rw [iI_toInt (by omega) (by omega)]
  · intro e
    have := congrArg Int32.toInt e
    rw [iI_toInt (by omega) (by omega)] at this
    have h3 : Int32.minValue.toInt = -2147483648 := by decide
    omega
theorem iI_ne0 {b : Int} (h : 0 < b ∧ b ≤ 2147483647) : ¬ iI b = 0 := by
  have : iI b = iI 0 ↔ b = 0 := iI_eq (by omega)
  intro e
  have := this.mp e
  omega
end
section
def R_law : String := "LadderSurveyLaw"
def cN9 : String := "java/lang/Integer"
def cN10 : String := "java/lang/Math"
/-! names, links -/
def yX_init : MethodName := ⟨cN7, "<init>", "()V"⟩
abbrev bX_init : ByteArray := prog_1_method_1_code
def yT_init : MethodName := ⟨cN6, "<init>", "()V"⟩
abbrev bT_init : ByteArray := prog_8_method_1_code
def yR_init : MethodName := ⟨cN3, "<init>", "(I)V"⟩
abbrev bR_init : ByteArray := prog_5_method_1_code
def yK_max : MethodName := ⟨cN10, "max", "(II)I"⟩
abbrev bK_max : ByteArray := prog_12_method_65_code
def yP_init : MethodName := ⟨cN2, "<init>", "()V"⟩
abbrev bP_init : ByteArray := prog_4_method_1_code
def yS_init : MethodName := ⟨cN4, "<init>", "()V"⟩
abbrev bS_init : ByteArray := prog_6_method_1_code
def yD_init : MethodName := ⟨cN0, "<init>", "()V"⟩
abbrev bD_init : ByteArray := prog_2_method_1_code
def yN_init : MethodName := ⟨cN5, "<init>", "()V"⟩
abbrev bN_init : ByteArray := prog_7_method_1_code
def yM_init : MethodName := ⟨cN1, "<init>", "()V"⟩
abbrev bM_init : ByteArray := prog_3_method_1_code
def yX_type : MethodName := ⟨cN7, "type", "(I)I"⟩
abbrev bX_type : ByteArray := prog_1_method_2_code
def yR_isFull : MethodName := ⟨cN3, "isFull", "()Z"⟩
abbrev bR_isFull : ByteArray := prog_5_method_3_code
def yR_push : MethodName := ⟨cN3, "push", "(I)V"⟩
abbrev bR_push : ByteArray := prog_5_method_6_code
def yR_put : MethodName := ⟨cN3, "put", "(II)V"⟩
abbrev bR_put : ByteArray := prog_5_method_5_code
def yR_size : MethodName := ⟨cN3, "size", "()I"⟩
abbrev bR_size : ByteArray := prog_5_method_2_code
def yX_clear : MethodName := ⟨cN7, "clear", "()I"⟩
abbrev bX_clear : ByteArray := prog_1_method_3_code
def yR_empty : MethodName := ⟨cN3, "empty", "()V"⟩
abbrev bR_empty : ByteArray := prog_5_method_9_code
def yX_ladder : MethodName := ⟨cN7, "ladder", "()I"⟩
abbrev bX_ladder : ByteArray := prog_1_method_4_code
def yT_readInto : MethodName := ⟨cN6, "readInto", "(LLadderSurvey$Plan;)I"⟩
abbrev bT_readInto : ByteArray := prog_8_method_2_code
def yP_begin : MethodName := ⟨cN2, "begin", "()V"⟩
abbrev bP_begin : ByteArray := prog_4_method_2_code
def yT_nextToken : MethodName := ⟨cN6, "nextToken", "()V"⟩
abbrev bT_nextToken : ByteArray := prog_8_method_10_code
def yR_at : MethodName := ⟨cN3, "at", "(I)I"⟩
abbrev bR_at : ByteArray := prog_5_method_4_code
def yT_isDigit : MethodName := ⟨cN6, "isDigit", "(I)Z"⟩
abbrev bT_isDigit : ByteArray := prog_8_method_11_code
def yK_min : MethodName := ⟨cN10, "min", "(II)I"⟩
abbrev bK_min : ByteArray := prog_12_method_69_code
def yT_readItem : MethodName := ⟨cN6, "readItem", "(LLadderSurvey$Plan;)Z"⟩
abbrev bT_readItem : ByteArray := prog_8_method_3_code
def yT_readStretch : MethodName := ⟨cN6, "readStretch", "(LLadderSurvey$Plan;)Z"⟩
abbrev bT_readStretch : ByteArray := prog_8_method_4_code
def yT_readNumber : MethodName := ⟨cN6, "readNumber", "(II)Z"⟩
abbrev bT_readNumber : ByteArray := prog_8_method_8_code
def yP_addStretch : MethodName := ⟨cN2, "addStretch", "(III)V"⟩
abbrev bP_addStretch : ByteArray := prog_4_method_3_code
def yT_readItemEnd : MethodName := ⟨cN6, "readItemEnd", "()Z"⟩
abbrev bT_readItemEnd : ByteArray := prog_8_method_9_code
def yT_readTraveller : MethodName := ⟨cN6, "readTraveller", "(LLadderSurvey$Plan;)Z"⟩
abbrev bT_readTraveller : ByteArray := prog_8_method_5_code
def yT_readReach : MethodName := ⟨cN6, "readReach", "(LLadderSurvey$Plan;)Z"⟩
abbrev bT_readReach : ByteArray := prog_8_method_6_code
def yT_readBoys : MethodName := ⟨cN6, "readBoys", "(LLadderSurvey$Plan;)Z"⟩
abbrev bT_readBoys : ByteArray := prog_8_method_7_code
def yS_begin : MethodName := ⟨cN4, "begin", "()V"⟩
abbrev bS_begin : ByteArray := prog_6_method_2_code
def yD_empty : MethodName := ⟨cN0, "empty", "()V"⟩
abbrev bD_empty : ByteArray := prog_2_method_3_code
def yN_empty : MethodName := ⟨cN5, "empty", "()V"⟩
abbrev bN_empty : ByteArray := prog_7_method_2_code
def yM_empty : MethodName := ⟨cN1, "empty", "()V"⟩
abbrev bM_empty : ByteArray := prog_3_method_2_code
def yX_stretch : MethodName := ⟨cN7, "stretch", "(II)I"⟩
abbrev bX_stretch : ByteArray := prog_1_method_5_code
def yP_hasStretch : MethodName := ⟨cN2, "hasStretch", "(I)Z"⟩
abbrev bP_hasStretch : ByteArray := prog_4_method_4_code
def yP_landingMark : MethodName := ⟨cN2, "landingMark", "(I)I"⟩
abbrev bP_landingMark : ByteArray := prog_4_method_9_code
def yX_traveller : MethodName := ⟨cN7, "traveller", "(II)I"⟩
abbrev bX_traveller : ByteArray := prog_1_method_6_code
def yP_hasTraveller : MethodName := ⟨cN2, "hasTraveller", "(I)Z"⟩
abbrev bP_hasTraveller : ByteArray := prog_4_method_5_code
def yX_wear : MethodName := ⟨cN7, "wear", "(II)I"⟩
abbrev bX_wear : ByteArray := prog_1_method_7_code
def yP_hasThousand : MethodName := ⟨cN2, "hasThousand", "(I)Z"⟩
abbrev bP_hasThousand : ByteArray := prog_4_method_6_code
def yX_thing : MethodName := ⟨cN7, "thing", "(I)I"⟩
abbrev bX_thing : ByteArray := prog_1_method_8_code
def yX_now : MethodName := ⟨cN7, "now", "(I)I"⟩
abbrev bX_now : ByteArray := prog_1_method_9_code
def yP_topMark : MethodName := ⟨cN2, "topMark", "()I"⟩
abbrev bP_topMark : ByteArray := prog_4_method_8_code
def yS_staying : MethodName := ⟨cN4, "staying", "()I"⟩
abbrev bS_staying : ByteArray := prog_6_method_5_code
def yR_sum : MethodName := ⟨cN3, "sum", "()I"⟩
abbrev bR_sum : ByteArray := prog_5_method_11_code
def yP_steepest : MethodName := ⟨cN2, "steepest", "()I"⟩
abbrev bP_steepest : ByteArray := prog_4_method_12_code
def yP_daysWith : MethodName := ⟨cN2, "daysWith", "(I)I"⟩
abbrev bP_daysWith : ByteArray := prog_4_method_13_code
def yX_divideUp : MethodName := ⟨cN7, "divideUp", "(II)I"⟩
abbrev bX_divideUp : ByteArray := prog_1_method_41_code
def yD_known : MethodName := ⟨cN0, "known", "()I"⟩
abbrev bD_known : ByteArray := prog_2_method_2_code
def yX_goes : MethodName := ⟨cN7, "goes", "(II)I"⟩
abbrev bX_goes : ByteArray := prog_1_method_10_code
def yS_hasStayed : MethodName := ⟨cN4, "hasStayed", "(I)Z"⟩
abbrev bS_hasStayed : ByteArray := prog_6_method_4_code
def yS_wearWay : MethodName := ⟨cN4, "wearWay", "(III)V"⟩
abbrev bS_wearWay : ByteArray := prog_6_method_6_code
def yD_add : MethodName := ⟨cN0, "add", "(III)V"⟩
abbrev bD_add : ByteArray := prog_2_method_4_code
def yD_drop : MethodName := ⟨cN0, "drop", "(I)V"⟩
abbrev bD_drop : ByteArray := prog_2_method_6_code
def yR_remove : MethodName := ⟨cN3, "remove", "(I)V"⟩
abbrev bR_remove : ByteArray := prog_5_method_8_code
def yK_abs : MethodName := ⟨cN10, "abs", "(I)I"⟩
abbrev bK_abs : ByteArray := prog_12_method_59_code
def yX_stays : MethodName := ⟨cN7, "stays", "(I)I"⟩
abbrev bX_stays : ByteArray := prog_1_method_11_code
def yX_loses : MethodName := ⟨cN7, "loses", "(I)I"⟩
abbrev bX_loses : ByteArray := prog_1_method_12_code
def yX_picks : MethodName := ⟨cN7, "picks", "(I)I"⟩
abbrev bX_picks : ByteArray := prog_1_method_13_code
def yS_firstThingAt : MethodName := ⟨cN4, "firstThingAt", "(I)I"⟩
abbrev bS_firstThingAt : ByteArray := prog_6_method_7_code
def yX_undo : MethodName := ⟨cN7, "undo", "()I"⟩
abbrev bX_undo : ByteArray := prog_1_method_14_code
def yD_takeBackLatest : MethodName := ⟨cN0, "takeBackLatest", "(LLadderSurvey$Scene;)V"⟩
abbrev bD_takeBackLatest : ByteArray := prog_2_method_5_code
def yR_insert : MethodName := ⟨cN3, "insert", "(II)V"⟩
abbrev bR_insert : ByteArray := prog_5_method_7_code
def yX_altitude : MethodName := ⟨cN7, "altitude", "(I)I"⟩
abbrev bX_altitude : ByteArray := prog_1_method_15_code
def yP_altitudeOf : MethodName := ⟨cN2, "altitudeOf", "(I)I"⟩
abbrev bP_altitudeOf : ByteArray := prog_4_method_10_code
def yX_step : MethodName := ⟨cN7, "step", "(I)I"⟩
abbrev bX_step : ByteArray := prog_1_method_16_code
def yP_firstStepAt : MethodName := ⟨cN2, "firstStepAt", "(I)I"⟩
abbrev bP_firstStepAt : ByteArray := prog_4_method_11_code
def yX_hands : MethodName := ⟨cN7, "hands", "(I)I"⟩
abbrev bX_hands : ByteArray := prog_1_method_17_code
def yX_sees : MethodName := ⟨cN7, "sees", "(II)I"⟩
abbrev bX_sees : ByteArray := prog_1_method_18_code
def yP_climbersAbove : MethodName := ⟨cN2, "climbersAbove", "(I)I"⟩
abbrev bP_climbersAbove : ByteArray := prog_4_method_14_code
def yN_add : MethodName := ⟨cN5, "add", "(II)V"⟩
abbrev bN_add : ByteArray := prog_7_method_3_code
def yX_can : MethodName := ⟨cN7, "can", "(I)I"⟩
abbrev bX_can : ByteArray := prog_1_method_19_code
def yN_countWays : MethodName := ⟨cN5, "countWays", "(III)I"⟩
abbrev bN_countWays : ByteArray := prog_7_method_4_code
def yN_dropUnlikeSeen : MethodName := ⟨cN5, "dropUnlikeSeen", "(I)V"⟩
abbrev bN_dropUnlikeSeen : ByteArray := prog_7_method_8_code
def yN_keepOnly : MethodName := ⟨cN5, "keepOnly", "(I)V"⟩
abbrev bN_keepOnly : ByteArray := prog_7_method_9_code
def yN_addGoings : MethodName := ⟨cN5, "addGoings", "(II)V"⟩
abbrev bN_addGoings : ByteArray := prog_7_method_7_code
def yN_fewestGoings : MethodName := ⟨cN5, "fewestGoings", "(I)I"⟩
abbrev bN_fewestGoings : ByteArray := prog_7_method_5_code
def yP_rankOf : MethodName := ⟨cN2, "rankOf", "(I)I"⟩
abbrev bP_rankOf : ByteArray := prog_4_method_15_code
def yN_timesInAll : MethodName := ⟨cN5, "timesInAll", "(II)I"⟩
abbrev bN_timesInAll : ByteArray := prog_7_method_6_code
def yX_measures : MethodName := ⟨cN7, "measures", "(III)I"⟩
abbrev bX_measures : ByteArray := prog_1_method_20_code
def yP_hasLanding : MethodName := ⟨cN2, "hasLanding", "(I)Z"⟩
abbrev bP_hasLanding : ByteArray := prog_4_method_7_code
def yM_add : MethodName := ⟨cN1, "add", "(III)V"⟩
abbrev bM_add : ByteArray := prog_3_method_3_code
def yX_agree : MethodName := ⟨cN7, "agree", "(I)I"⟩
abbrev bX_agree : ByteArray := prog_1_method_21_code
def yM_leastChange : MethodName := ⟨cN1, "leastChange", "()I"⟩
abbrev bM_leastChange : ByteArray := prog_3_method_5_code
def yX_power : MethodName := ⟨cN7, "power", "(II)I"⟩
abbrev bX_power : ByteArray := prog_1_method_39_code
def yM_gapOf : MethodName := ⟨cN1, "gapOf", "(I)I"⟩
abbrev bM_gapOf : ByteArray := prog_3_method_6_code
def yM_offBy : MethodName := ⟨cN1, "offBy", "(LLadderSurvey$Plan;)I"⟩
abbrev bM_offBy : ByteArray := prog_3_method_4_code
def yX_forget : MethodName := ⟨cN7, "forget", "()I"⟩
abbrev bX_forget : ByteArray := prog_1_method_22_code
def yX_whose : MethodName := ⟨cN7, "whose", "(I)I"⟩
abbrev bX_whose : ByteArray := prog_1_method_23_code
def yX_countOwners : MethodName := ⟨cN7, "countOwners", "(LLadderSurvey$Row;LLadderSurvey$Row;IIII)I"⟩
abbrev bX_countOwners : ByteArray := prog_1_method_37_code
def yX_odds : MethodName := ⟨cN7, "odds", "(III)I"⟩
abbrev bX_odds : ByteArray := prog_1_method_24_code
def yX_countAway : MethodName := ⟨cN7, "countAway", "(III)I"⟩
abbrev bX_countAway : ByteArray := prog_1_method_38_code
def yJ_bitCount : MethodName := ⟨cN9, "bitCount", "(I)I"⟩
abbrev bJ_bitCount : ByteArray := prog_11_method_49_code
def yX_commonFactor : MethodName := ⟨cN7, "commonFactor", "(II)I"⟩
abbrev bX_commonFactor : ByteArray := prog_1_method_40_code
def yX_rate : MethodName := ⟨cN7, "rate", "(II)I"⟩
abbrev bX_rate : ByteArray := prog_1_method_25_code
def yX_rateStretch : MethodName := ⟨cN7, "rateStretch", "(I)I"⟩
abbrev bX_rateStretch : ByteArray := prog_1_method_30_code
def yX_rateFeather : MethodName := ⟨cN7, "rateFeather", "(I)I"⟩
abbrev bX_rateFeather : ByteArray := prog_1_method_31_code
def yS_thingsBetween : MethodName := ⟨cN4, "thingsBetween", "(II)I"⟩
abbrev bS_thingsBetween : ByteArray := prog_6_method_8_code
def yX_rateBench : MethodName := ⟨cN7, "rateBench", "(I)I"⟩
abbrev bX_rateBench : ByteArray := prog_1_method_32_code
def yX_rateWing : MethodName := ⟨cN7, "rateWing", "(I)I"⟩
abbrev bX_rateWing : ByteArray := prog_1_method_33_code
def yX_rateName : MethodName := ⟨cN7, "rateName", "(I)I"⟩
abbrev bX_rateName : ByteArray := prog_1_method_34_code
def yX_rateCloud : MethodName := ⟨cN7, "rateCloud", "(I)I"⟩
abbrev bX_rateCloud : ByteArray := prog_1_method_35_code
def yX_keep : MethodName := ⟨cN7, "keep", "(I)I"⟩
abbrev bX_keep : ByteArray := prog_1_method_26_code
def yX_imageOf : MethodName := ⟨cN7, "imageOf", "(I)LLadderSurvey$Scene;"⟩
abbrev bX_imageOf : ByteArray := prog_1_method_36_code
def yS_copy : MethodName := ⟨cN4, "copy", "(LLadderSurvey$Scene;)V"⟩
abbrev bS_copy : ByteArray := prog_6_method_3_code
def yR_copy : MethodName := ⟨cN3, "copy", "(LLadderSurvey$Row;)V"⟩
abbrev bR_copy : ByteArray := prog_5_method_10_code
def yX_back : MethodName := ⟨cN7, "back", "(I)I"⟩
abbrev bX_back : ByteArray := prog_1_method_27_code
def yX_count : MethodName := ⟨cN7, "count", "(I)I"⟩
abbrev bX_count : ByteArray := prog_1_method_28_code
def yX_trace : MethodName := ⟨cN7, "trace", "()J"⟩
abbrev bX_trace : ByteArray := prog_1_method_29_code
def yZ_init : MethodName := ⟨cN8, "<init>", "()V"⟩
abbrev bZ_init : ByteArray := prog_10_method_1_code
def yZ_begins : MethodName := ⟨cN8, "begins", "()V"⟩
abbrev bZ_begins : ByteArray := prog_10_method_13_code
def yZ_settles : MethodName := ⟨cN8, "settles", "()V"⟩
abbrev bZ_settles : ByteArray := prog_10_method_17_code
def yZ_type : MethodName := ⟨cN8, "type", "(I)I"⟩
abbrev bZ_type : ByteArray := prog_10_method_5_code
def yZ_in : MethodName := ⟨cN8, "in", "(III)Z"⟩
abbrev bZ_in : ByteArray := prog_10_method_3_code
def yZ_clear : MethodName := ⟨cN8, "clear", "()I"⟩
abbrev bZ_clear : ByteArray := prog_10_method_6_code
def yZ_ladder : MethodName := ⟨cN8, "ladder", "()I"⟩
abbrev bZ_ladder : ByteArray := prog_10_method_16_code
def yZ_advances : MethodName := ⟨cN8, "advances", "()V"⟩
abbrev bZ_advances : ByteArray := prog_10_method_9_code
def yZ_letterAt : MethodName := ⟨cN8, "letterAt", "(I)I"⟩
abbrev bZ_letterAt : ByteArray := prog_10_method_7_code
def yZ_isLetter : MethodName := ⟨cN8, "isLetter", "(I)Z"⟩
abbrev bZ_isLetter : ByteArray := prog_10_method_8_code
def yZ_isWell : MethodName := ⟨cN8, "isWell", "()Z"⟩
abbrev bZ_isWell : ByteArray := prog_10_method_10_code
def yZ_mayBegin : MethodName := ⟨cN8, "mayBegin", "()Z"⟩
abbrev bZ_mayBegin : ByteArray := prog_10_method_14_code
def yZ_takes : MethodName := ⟨cN8, "takes", "(Z)I"⟩
abbrev bZ_takes : ByteArray := prog_10_method_11_code
def yZ_readsItem : MethodName := ⟨cN8, "readsItem", "(I)V"⟩
abbrev bZ_readsItem : ByteArray := prog_10_method_15_code
def yZ_number : MethodName := ⟨cN8, "number", "(II)I"⟩
abbrev bZ_number : ByteArray := prog_10_method_12_code
def yZ_stretch : MethodName := ⟨cN8, "stretch", "(II)I"⟩
abbrev bZ_stretch : ByteArray := prog_10_method_23_code
def yZ_isStretch : MethodName := ⟨cN8, "isStretch", "(I)Z"⟩
abbrev bZ_isStretch : ByteArray := prog_10_method_18_code
def yZ_markOf : MethodName := ⟨cN8, "markOf", "(I)I"⟩
abbrev bZ_markOf : ByteArray := prog_10_method_20_code
def yZ_traveller : MethodName := ⟨cN8, "traveller", "(II)I"⟩
abbrev bZ_traveller : ByteArray := prog_10_method_24_code
def yZ_isTraveller : MethodName := ⟨cN8, "isTraveller", "(I)Z"⟩
abbrev bZ_isTraveller : ByteArray := prog_10_method_19_code
def yZ_wear : MethodName := ⟨cN8, "wear", "(II)I"⟩
abbrev bZ_wear : ByteArray := prog_10_method_25_code
def yZ_top : MethodName := ⟨cN8, "top", "()I"⟩
abbrev bZ_top : ByteArray := prog_10_method_21_code
def yZ_thing : MethodName := ⟨cN8, "thing", "(I)I"⟩
abbrev bZ_thing : ByteArray := prog_10_method_26_code
def yZ_now : MethodName := ⟨cN8, "now", "(I)I"⟩
abbrev bZ_now : ByteArray := prog_10_method_30_code
def yZ_ones : MethodName := ⟨cN8, "ones", "(I)I"⟩
abbrev bZ_ones : ByteArray := prog_10_method_4_code
def yZ_allWear : MethodName := ⟨cN8, "allWear", "()I"⟩
abbrev bZ_allWear : ByteArray := prog_10_method_29_code
def yZ_steepest : MethodName := ⟨cN8, "steepest", "()I"⟩
abbrev bZ_steepest : ByteArray := prog_10_method_27_code
def yZ_heightAt : MethodName := ⟨cN8, "heightAt", "(I)I"⟩
abbrev bZ_heightAt : ByteArray := prog_10_method_22_code
def yZ_daysBy : MethodName := ⟨cN8, "daysBy", "(I)I"⟩
abbrev bZ_daysBy : ByteArray := prog_10_method_28_code
def yZ_goes : MethodName := ⟨cN8, "goes", "(II)I"⟩
abbrev bZ_goes : ByteArray := prog_10_method_33_code
def yZ_isStaying : MethodName := ⟨cN8, "isStaying", "(I)Z"⟩
abbrev bZ_isStaying : ByteArray := prog_10_method_32_code
def yZ_notes : MethodName := ⟨cN8, "notes", "()V"⟩
abbrev bZ_notes : ByteArray := prog_10_method_31_code
def yZ_stays : MethodName := ⟨cN8, "stays", "(I)I"⟩
abbrev bZ_stays : ByteArray := prog_10_method_34_code
def yZ_loses : MethodName := ⟨cN8, "loses", "(I)I"⟩
abbrev bZ_loses : ByteArray := prog_10_method_35_code
def yZ_picks : MethodName := ⟨cN8, "picks", "(I)I"⟩
abbrev bZ_picks : ByteArray := prog_10_method_37_code
def yZ_oldestAt : MethodName := ⟨cN8, "oldestAt", "(I)I"⟩
abbrev bZ_oldestAt : ByteArray := prog_10_method_36_code
def yZ_undo : MethodName := ⟨cN8, "undo", "()I"⟩
abbrev bZ_undo : ByteArray := prog_10_method_38_code
def yZ_altitude : MethodName := ⟨cN8, "altitude", "(I)I"⟩
abbrev bZ_altitude : ByteArray := prog_10_method_40_code
def yZ_altitudeOf : MethodName := ⟨cN8, "altitudeOf", "(I)I"⟩
abbrev bZ_altitudeOf : ByteArray := prog_10_method_39_code
def yZ_step : MethodName := ⟨cN8, "step", "(I)I"⟩
abbrev bZ_step : ByteArray := prog_10_method_41_code
def yZ_hands : MethodName := ⟨cN8, "hands", "(I)I"⟩
abbrev bZ_hands : ByteArray := prog_10_method_42_code
def yZ_sees : MethodName := ⟨cN8, "sees", "(II)I"⟩
abbrev bZ_sees : ByteArray := prog_10_method_43_code
def yZ_can : MethodName := ⟨cN8, "can", "(I)I"⟩
abbrev bZ_can : ByteArray := prog_10_method_47_code
def yZ_tens : MethodName := ⟨cN8, "tens", "(I)I"⟩
abbrev bZ_tens : ByteArray := prog_10_method_44_code
def yZ_isAsSeen : MethodName := ⟨cN8, "isAsSeen", "(I)Z"⟩
abbrev bZ_isAsSeen : ByteArray := prog_10_method_45_code
def yZ_goings : MethodName := ⟨cN8, "goings", "(I)I"⟩
abbrev bZ_goings : ByteArray := prog_10_method_46_code
def yZ_measures : MethodName := ⟨cN8, "measures", "(III)I"⟩
abbrev bZ_measures : ByteArray := prog_10_method_48_code
def yZ_agree : MethodName := ⟨cN8, "agree", "(I)I"⟩
abbrev bZ_agree : ByteArray := prog_10_method_52_code
def yZ_leastChanges : MethodName := ⟨cN8, "leastChanges", "()I"⟩
abbrev bZ_leastChanges : ByteArray := prog_10_method_51_code
def yZ_hangs : MethodName := ⟨cN8, "hangs", "(I)Z"⟩
abbrev bZ_hangs : ByteArray := prog_10_method_50_code
def yZ_apart : MethodName := ⟨cN8, "apart", "(II)I"⟩
abbrev bZ_apart : ByteArray := prog_10_method_49_code
def yZ_forget : MethodName := ⟨cN8, "forget", "()I"⟩
abbrev bZ_forget : ByteArray := prog_10_method_53_code
def yZ_whose : MethodName := ⟨cN8, "whose", "(I)I"⟩
abbrev bZ_whose : ByteArray := prog_10_method_56_code
def yZ_canOwn : MethodName := ⟨cN8, "canOwn", "(I)Z"⟩
abbrev bZ_canOwn : ByteArray := prog_10_method_55_code
def yZ_ownerOf : MethodName := ⟨cN8, "ownerOf", "(II)I"⟩
abbrev bZ_ownerOf : ByteArray := prog_10_method_54_code
def yZ_odds : MethodName := ⟨cN8, "odds", "(III)I"⟩
abbrev bZ_odds : ByteArray := prog_10_method_59_code
def yZ_power : MethodName := ⟨cN8, "power", "(II)I"⟩
abbrev bZ_power : ByteArray := prog_10_method_57_code
def yZ_gcd : MethodName := ⟨cN8, "gcd", "(II)I"⟩
abbrev bZ_gcd : ByteArray := prog_10_method_58_code
def yZ_rate : MethodName := ⟨cN8, "rate", "(II)I"⟩
abbrev bZ_rate : ByteArray := prog_10_method_61_code
def yZ_thingsOn : MethodName := ⟨cN8, "thingsOn", "(I)I"⟩
abbrev bZ_thingsOn : ByteArray := prog_10_method_60_code
def yZ_keep : MethodName := ⟨cN8, "keep", "(I)I"⟩
abbrev bZ_keep : ByteArray := prog_10_method_62_code
def yZ_back : MethodName := ⟨cN8, "back", "(I)I"⟩
abbrev bZ_back : ByteArray := prog_10_method_63_code
def yZ_count : MethodName := ⟨cN8, "count", "(I)I"⟩
abbrev bZ_count : ByteArray := prog_10_method_64_code
def yZ_trace : MethodName := ⟨cN8, "trace", "()J"⟩
abbrev bZ_trace : ByteArray := prog_10_method_65_code
theorem kcX_init : KC yX_init bX_init 1 none 0 := ⟨mw 62 (by decide +kernel) rfl, mw 47 (by decide +kernel) rfl, ⟨by decide +kernel, by decide +kernel, by decide +kernel⟩, by decide⟩
theorem kcT_init : KC yT_init bT_init 1 none 0 := ⟨mw 70 (by decide +kernel) rfl, mw 48 (by decide +kernel) rfl, ⟨by decide +kernel, by decide +kernel, by decide +kernel⟩, by decide⟩
theorem kcR_init : KC yR_init bR_init 2 none 1 := ⟨mw 76 (by decide +kernel) rfl, mw 49 (by decide +kernel) rfl, ⟨by decide +kernel, by decide +kernel, by decide +kernel⟩, by decide⟩
theorem kcK_max : KC yK_max bK_max 2 (some .int) 2 := ⟨mw 80 (by decide +kernel) rfl, mw 50 (by decide +kernel) rfl, ⟨by decide +kernel, by decide +kernel, by decide +kernel⟩, by decide⟩
theorem kcP_init : KC yP_init bP_init 1 none 0 := ⟨mw 116 (by decide +kernel) rfl, mw 51 (by decide +kernel) rfl, ⟨by decide +kernel, by decide +kernel, by decide +kernel⟩, by decide⟩
theorem kcS_init : KC yS_init bS_init 1 none 0 := ⟨mw 159 (by decide +kernel) rfl, mw 52 (by decide +kernel) rfl, ⟨by decide +kernel, by decide +kernel, by decide +kernel⟩, by decide⟩
theorem kcD_init : KC yD_init bD_init 1 none 0 := ⟨mw 193 (by decide +kernel) rfl, mw 53 (by decide +kernel) rfl, ⟨by decide +kernel, by decide +kernel, by decide +kernel⟩, by decide⟩
theorem kcN_init : KC yN_init bN_init 1 none 0 := ⟨mw 211 (by decide +kernel) rfl, mw 54 (by decide +kernel) rfl, ⟨by decide +kernel, by decide +kernel, by decide +kernel⟩, by decide⟩
theorem kcM_init : KC yM_init bM_init 1 none 0 := ⟨mw 230 (by decide +kernel) rfl, mw 55 (by decide +kernel) rfl, ⟨by decide +kernel, by decide +kernel, by decide +kernel⟩, by decide⟩
theorem kcX_type : KC yX_type bX_type 2 (some .int) 1 := ⟨mw 285 (by decide +kernel) rfl, mw 47 (by decide +kernel) rfl, ⟨by decide +kernel, by decide +kernel, by decide +kernel⟩, by decide⟩
theorem kcR_isFull : KC yR_isFull bR_isFull 1 (some .boolean) 0 := ⟨mw 289 (by decide +kernel) rfl, mw 49 (by decide +kernel) rfl, ⟨by decide +kernel, by decide +kernel, by decide +kernel⟩, by decide⟩
theorem kcR_push : KC yR_push bR_push 2 none 1 := ⟨mw 293 (by decide +kernel) rfl, mw 49 (by decide +kernel) rfl, ⟨by decide +kernel, by decide +kernel, by decide +kernel⟩, by decide⟩
theorem kcR_put : KC yR_put bR_put 3 none 2 := ⟨mw 298 (by decide +kernel) rfl, mw 49 (by decide +kernel) rfl, ⟨by decide +kernel, by decide +kernel, by decide +kernel⟩, by decide⟩
theorem kcR_size : KC yR_size bR_size 1 (some .int) 0 := ⟨mw 302 (by decide +kernel) rfl, mw 49 (by decide +kernel) rfl, ⟨by decide +kernel, by decide +kernel, by decide +kernel⟩, by decide⟩
theorem kcX_clear : KC yX_clear bX_clear 2 (some .int) 0 := ⟨mw 306 (by decide +kernel) rfl, mw 47 (by decide +kernel) rfl, ⟨by decide +kernel, by decide +kernel, by decide +kernel⟩, by decide⟩
theorem kcR_empty : KC yR_empty bR_empty 2 none 0 := ⟨mw 310 (by decide +kernel) rfl, mw 49 (by decide +kernel) rfl, ⟨by decide +kernel, by decide +kernel, by decide +kernel⟩, by decide⟩
theorem kcX_ladder : KC yX_ladder bX_ladder 3 (some .int) 0 := ⟨mw 314 (by decide +kernel) rfl, mw 47 (by decide +kernel) rfl, ⟨by decide +kernel, by decide +kernel, by decide +kernel⟩, by decide⟩
theorem kcT_readInto : KC yT_readInto bT_readInto 3 (some .int) 1 := ⟨mw 318 (by decide +kernel) rfl, mw 48 (by decide +kernel) rfl, ⟨by decide +kernel, by decide +kernel, by decide +kernel⟩, by decide⟩
theorem kcP_begin : KC yP_begin bP_begin 1 none 0 := ⟨mw 322 (by decide +kernel) rfl, mw 51 (by decide +kernel) rfl, ⟨by decide +kernel, by decide +kernel, by decide +kernel⟩, by decide⟩
theorem kcT_nextToken : KC yT_nextToken bT_nextToken 2 none 0 := ⟨mw 327 (by decide +kernel) rfl, mw 48 (by decide +kernel) rfl, ⟨by decide +kernel, by decide +kernel, by decide +kernel⟩, by decide⟩
theorem kcR_at : KC yR_at bR_at 2 (some .int) 1 := ⟨mw 332 (by decide +kernel) rfl, mw 49 (by decide +kernel) rfl, ⟨by decide +kernel, by decide +kernel, by decide +kernel⟩, by decide⟩
theorem kcT_isDigit : KC yT_isDigit bT_isDigit 1 (some .boolean) 1 := ⟨mw 335 (by decide +kernel) rfl, mw 48 (by decide +kernel) rfl, ⟨by decide +kernel, by decide +kernel, by decide +kernel⟩, by decide⟩
theorem kcK_min : KC yK_min bK_min 2 (some .int) 2 := ⟨mw 338 (by decide +kernel) rfl, mw 50 (by decide +kernel) rfl, ⟨by decide +kernel, by decide +kernel, by decide +kernel⟩, by decide⟩
theorem kcT_readItem : KC yT_readItem bT_readItem 2 (some .boolean) 1 := ⟨mw 342 (by decide +kernel) rfl, mw 48 (by decide +kernel) rfl, ⟨by decide +kernel, by decide +kernel, by decide +kernel⟩, by decide⟩
theorem kcT_readStretch : KC yT_readStretch bT_readStretch 4 (some .boolean) 1 := ⟨mw 347 (by decide +kernel) rfl, mw 48 (by decide +kernel) rfl, ⟨by decide +kernel, by decide +kernel, by decide +kernel⟩, by decide⟩
theorem kcT_readNumber : KC yT_readNumber bT_readNumber 3 (some .boolean) 2 := ⟨mw 351 (by decide +kernel) rfl, mw 48 (by decide +kernel) rfl, ⟨by decide +kernel, by decide +kernel, by decide +kernel⟩, by decide⟩
theorem kcP_addStretch : KC yP_addStretch bP_addStretch 5 none 3 := ⟨mw 355 (by decide +kernel) rfl, mw 51 (by decide +kernel) rfl, ⟨by decide +kernel, by decide +kernel, by decide +kernel⟩, by decide⟩
theorem kcT_readItemEnd : KC yT_readItemEnd bT_readItemEnd 1 (some .boolean) 0 := ⟨mw 362 (by decide +kernel) rfl, mw 48 (by decide +kernel) rfl, ⟨by decide +kernel, by decide +kernel, by decide +kernel⟩, by decide⟩
theorem kcT_readTraveller : KC yT_readTraveller bT_readTraveller 2 (some .boolean) 1 := ⟨mw 366 (by decide +kernel) rfl, mw 48 (by decide +kernel) rfl, ⟨by decide +kernel, by decide +kernel, by decide +kernel⟩, by decide⟩
theorem kcT_readReach : KC yT_readReach bT_readReach 2 (some .boolean) 1 := ⟨mw 371 (by decide +kernel) rfl, mw 48 (by decide +kernel) rfl, ⟨by decide +kernel, by decide +kernel, by decide +kernel⟩, by decide⟩
theorem kcT_readBoys : KC yT_readBoys bT_readBoys 2 (some .boolean) 1 := ⟨mw 375 (by decide +kernel) rfl, mw 48 (by decide +kernel) rfl, ⟨by decide +kernel, by decide +kernel, by decide +kernel⟩, by decide⟩
theorem kcS_begin : KC yS_begin bS_begin 1 none 0 := ⟨mw 379 (by decide +kernel) rfl, mw 52 (by decide +kernel) rfl, ⟨by decide +kernel, by decide +kernel, by decide +kernel⟩, by decide⟩
theorem kcD_empty : KC yD_empty bD_empty 1 none 0 := ⟨mw 384 (by decide +kernel) rfl, mw 53 (by decide +kernel) rfl, ⟨by decide +kernel, by decide +kernel, by decide +kernel⟩, by decide⟩
theorem kcN_empty : KC yN_empty bN_empty 1 none 0 := ⟨mw 389 (by decide +kernel) rfl, mw 54 (by decide +kernel) rfl, ⟨by decide +kernel, by decide +kernel, by decide +kernel⟩, by decide⟩
theorem kcM_empty : KC yM_empty bM_empty 1 none 0 := ⟨mw 394 (by decide +kernel) rfl, mw 55 (by decide +kernel) rfl, ⟨by decide +kernel, by decide +kernel, by decide +kernel⟩, by decide⟩
theorem kcX_stretch : KC yX_stretch bX_stretch 3 (some .int) 2 := ⟨mw 399 (by decide +kernel) rfl, mw 47 (by decide +kernel) rfl, ⟨by decide +kernel, by decide +kernel, by decide +kernel⟩, by decide⟩
theorem kcP_hasStretch : KC yP_hasStretch bP_hasStretch 2 (some .boolean) 1 := ⟨mw 403 (by decide +kernel) rfl, mw 51 (by decide +kernel) rfl, ⟨by decide +kernel, by decide +kernel, by decide +kernel⟩, by decide⟩
theorem kcP_landingMark : KC yP_landingMark bP_landingMark 2 (some .int) 1 := ⟨mw 409 (by decide +kernel) rfl, mw 51 (by decide +kernel) rfl, ⟨by decide +kernel, by decide +kernel, by decide +kernel⟩, by decide⟩
theorem kcX_traveller : KC yX_traveller bX_traveller 3 (some .int) 2 := ⟨mw 414 (by decide +kernel) rfl, mw 47 (by decide +kernel) rfl, ⟨by decide +kernel, by decide +kernel, by decide +kernel⟩, by decide⟩
theorem kcP_hasTraveller : KC yP_hasTraveller bP_hasTraveller 2 (some .boolean) 1 := ⟨mw 418 (by decide +kernel) rfl, mw 51 (by decide +kernel) rfl, ⟨by decide +kernel, by decide +kernel, by decide +kernel⟩, by decide⟩
theorem kcX_wear : KC yX_wear bX_wear 3 (some .int) 2 := ⟨mw 422 (by decide +kernel) rfl, mw 47 (by decide +kernel) rfl, ⟨by decide +kernel, by decide +kernel, by decide +kernel⟩, by decide⟩
theorem kcP_hasThousand : KC yP_hasThousand bP_hasThousand 2 (some .boolean) 1 := ⟨mw 426 (by decide +kernel) rfl, mw 51 (by decide +kernel) rfl, ⟨by decide +kernel, by decide +kernel, by decide +kernel⟩, by decide⟩
theorem kcX_thing : KC yX_thing bX_thing 2 (some .int) 1 := ⟨mw 430 (by decide +kernel) rfl, mw 47 (by decide +kernel) rfl, ⟨by decide +kernel, by decide +kernel, by decide +kernel⟩, by decide⟩
theorem kcX_now : KC yX_now bX_now 2 (some .int) 1 := ⟨mw 434 (by decide +kernel) rfl, mw 47 (by decide +kernel) rfl, ⟨by decide +kernel, by decide +kernel, by decide +kernel⟩, by decide⟩
theorem kcP_topMark : KC yP_topMark bP_topMark 1 (some .int) 0 := ⟨mw 438 (by decide +kernel) rfl, mw 51 (by decide +kernel) rfl, ⟨by decide +kernel, by decide +kernel, by decide +kernel⟩, by decide⟩
theorem kcS_staying : KC yS_staying bS_staying 1 (some .int) 0 := ⟨mw 442 (by decide +kernel) rfl, mw 52 (by decide +kernel) rfl, ⟨by decide +kernel, by decide +kernel, by decide +kernel⟩, by decide⟩
theorem kcR_sum : KC yR_sum bR_sum 3 (some .int) 0 := ⟨mw 446 (by decide +kernel) rfl, mw 49 (by decide +kernel) rfl, ⟨by decide +kernel, by decide +kernel, by decide +kernel⟩, by decide⟩
theorem kcP_steepest : KC yP_steepest bP_steepest 3 (some .int) 0 := ⟨mw 451 (by decide +kernel) rfl, mw 51 (by decide +kernel) rfl, ⟨by decide +kernel, by decide +kernel, by decide +kernel⟩, by decide⟩
theorem kcP_daysWith : KC yP_daysWith bP_daysWith 4 (some .int) 1 := ⟨mw 455 (by decide +kernel) rfl, mw 51 (by decide +kernel) rfl, ⟨by decide +kernel, by decide +kernel, by decide +kernel⟩, by decide⟩
theorem kcX_divideUp : KC yX_divideUp bX_divideUp 2 (some .int) 2 := ⟨mw 458 (by decide +kernel) rfl, mw 47 (by decide +kernel) rfl, ⟨by decide +kernel, by decide +kernel, by decide +kernel⟩, by decide⟩
theorem kcD_known : KC yD_known bD_known 1 (some .int) 0 := ⟨mw 462 (by decide +kernel) rfl, mw 53 (by decide +kernel) rfl, ⟨by decide +kernel, by decide +kernel, by decide +kernel⟩, by decide⟩
theorem kcX_goes : KC yX_goes bX_goes 4 (some .int) 2 := ⟨mw 467 (by decide +kernel) rfl, mw 47 (by decide +kernel) rfl, ⟨by decide +kernel, by decide +kernel, by decide +kernel⟩, by decide⟩
theorem kcS_hasStayed : KC yS_hasStayed bS_hasStayed 2 (some .boolean) 1 := ⟨mw 471 (by decide +kernel) rfl, mw 52 (by decide +kernel) rfl, ⟨by decide +kernel, by decide +kernel, by decide +kernel⟩, by decide⟩
theorem kcS_wearWay : KC yS_wearWay bS_wearWay 7 none 3 := ⟨mw 476 (by decide +kernel) rfl, mw 52 (by decide +kernel) rfl, ⟨by decide +kernel, by decide +kernel, by decide +kernel⟩, by decide⟩
theorem kcD_add : KC yD_add bD_add 4 none 3 := ⟨mw 484 (by decide +kernel) rfl, mw 53 (by decide +kernel) rfl, ⟨by decide +kernel, by decide +kernel, by decide +kernel⟩, by decide⟩
theorem kcD_drop : KC yD_drop bD_drop 2 none 1 := ⟨mw 489 (by decide +kernel) rfl, mw 53 (by decide +kernel) rfl, ⟨by decide +kernel, by decide +kernel, by decide +kernel⟩, by decide⟩
theorem kcR_remove : KC yR_remove bR_remove 3 none 1 := ⟨mw 493 (by decide +kernel) rfl, mw 49 (by decide +kernel) rfl, ⟨by decide +kernel, by decide +kernel, by decide +kernel⟩, by decide⟩
theorem kcK_abs : KC yK_abs bK_abs 1 (some .int) 1 := ⟨mw 498 (by decide +kernel) rfl, mw 50 (by decide +kernel) rfl, ⟨by decide +kernel, by decide +kernel, by decide +kernel⟩, by decide⟩
theorem kcX_stays : KC yX_stays bX_stays 2 (some .int) 1 := ⟨mw 502 (by decide +kernel) rfl, mw 47 (by decide +kernel) rfl, ⟨by decide +kernel, by decide +kernel, by decide +kernel⟩, by decide⟩
theorem kcX_loses : KC yX_loses bX_loses 2 (some .int) 1 := ⟨mw 506 (by decide +kernel) rfl, mw 47 (by decide +kernel) rfl, ⟨by decide +kernel, by decide +kernel, by decide +kernel⟩, by decide⟩
theorem kcX_picks : KC yX_picks bX_picks 3 (some .int) 1 := ⟨mw 510 (by decide +kernel) rfl, mw 47 (by decide +kernel) rfl, ⟨by decide +kernel, by decide +kernel, by decide +kernel⟩, by decide⟩
theorem kcS_firstThingAt : KC yS_firstThingAt bS_firstThingAt 3 (some .int) 1 := ⟨mw 514 (by decide +kernel) rfl, mw 52 (by decide +kernel) rfl, ⟨by decide +kernel, by decide +kernel, by decide +kernel⟩, by decide⟩
theorem kcX_undo : KC yX_undo bX_undo 1 (some .int) 0 := ⟨mw 520 (by decide +kernel) rfl, mw 47 (by decide +kernel) rfl, ⟨by decide +kernel, by decide +kernel, by decide +kernel⟩, by decide⟩
theorem kcD_takeBackLatest : KC yD_takeBackLatest bD_takeBackLatest 5 none 1 := ⟨mw 524 (by decide +kernel) rfl, mw 53 (by decide +kernel) rfl, ⟨by decide +kernel, by decide +kernel, by decide +kernel⟩, by decide⟩
theorem kcR_insert : KC yR_insert bR_insert 4 none 2 := ⟨mw 531 (by decide +kernel) rfl, mw 49 (by decide +kernel) rfl, ⟨by decide +kernel, by decide +kernel, by decide +kernel⟩, by decide⟩
theorem kcX_altitude : KC yX_altitude bX_altitude 2 (some .int) 1 := ⟨mw 535 (by decide +kernel) rfl, mw 47 (by decide +kernel) rfl, ⟨by decide +kernel, by decide +kernel, by decide +kernel⟩, by decide⟩
theorem kcP_altitudeOf : KC yP_altitudeOf bP_altitudeOf 5 (some .int) 1 := ⟨mw 539 (by decide +kernel) rfl, mw 51 (by decide +kernel) rfl, ⟨by decide +kernel, by decide +kernel, by decide +kernel⟩, by decide⟩
theorem kcX_step : KC yX_step bX_step 2 (some .int) 1 := ⟨mw 544 (by decide +kernel) rfl, mw 47 (by decide +kernel) rfl, ⟨by decide +kernel, by decide +kernel, by decide +kernel⟩, by decide⟩
theorem kcP_firstStepAt : KC yP_firstStepAt bP_firstStepAt 5 (some .int) 1 := ⟨mw 549 (by decide +kernel) rfl, mw 51 (by decide +kernel) rfl, ⟨by decide +kernel, by decide +kernel, by decide +kernel⟩, by decide⟩
theorem kcX_hands : KC yX_hands bX_hands 3 (some .int) 1 := ⟨mw 553 (by decide +kernel) rfl, mw 47 (by decide +kernel) rfl, ⟨by decide +kernel, by decide +kernel, by decide +kernel⟩, by decide⟩
theorem kcX_sees : KC yX_sees bX_sees 3 (some .int) 2 := ⟨mw 557 (by decide +kernel) rfl, mw 47 (by decide +kernel) rfl, ⟨by decide +kernel, by decide +kernel, by decide +kernel⟩, by decide⟩
theorem kcP_climbersAbove : KC yP_climbersAbove bP_climbersAbove 4 (some .int) 1 := ⟨mw 561 (by decide +kernel) rfl, mw 51 (by decide +kernel) rfl, ⟨by decide +kernel, by decide +kernel, by decide +kernel⟩, by decide⟩
theorem kcN_add : KC yN_add bN_add 3 none 2 := ⟨mw 565 (by decide +kernel) rfl, mw 54 (by decide +kernel) rfl, ⟨by decide +kernel, by decide +kernel, by decide +kernel⟩, by decide⟩
theorem kcX_can : KC yX_can bX_can 3 (some .int) 1 := ⟨mw 570 (by decide +kernel) rfl, mw 47 (by decide +kernel) rfl, ⟨by decide +kernel, by decide +kernel, by decide +kernel⟩, by decide⟩
theorem kcN_countWays : KC yN_countWays bN_countWays 6 (some .int) 3 := ⟨mw 574 (by decide +kernel) rfl, mw 54 (by decide +kernel) rfl, ⟨by decide +kernel, by decide +kernel, by decide +kernel⟩, by decide⟩
theorem kcN_dropUnlikeSeen : KC yN_dropUnlikeSeen bN_dropUnlikeSeen 3 none 1 := ⟨mw 579 (by decide +kernel) rfl, mw 54 (by decide +kernel) rfl, ⟨by decide +kernel, by decide +kernel, by decide +kernel⟩, by decide⟩
theorem kcN_keepOnly : KC yN_keepOnly bN_keepOnly 3 none 1 := ⟨mw 585 (by decide +kernel) rfl, mw 54 (by decide +kernel) rfl, ⟨by decide +kernel, by decide +kernel, by decide +kernel⟩, by decide⟩
theorem kcN_addGoings : KC yN_addGoings bN_addGoings 6 none 2 := ⟨mw 589 (by decide +kernel) rfl, mw 54 (by decide +kernel) rfl, ⟨by decide +kernel, by decide +kernel, by decide +kernel⟩, by decide⟩
theorem kcN_fewestGoings : KC yN_fewestGoings bN_fewestGoings 3 (some .int) 1 := ⟨mw 594 (by decide +kernel) rfl, mw 54 (by decide +kernel) rfl, ⟨by decide +kernel, by decide +kernel, by decide +kernel⟩, by decide⟩
theorem kcP_rankOf : KC yP_rankOf bP_rankOf 4 (some .int) 1 := ⟨mw 599 (by decide +kernel) rfl, mw 51 (by decide +kernel) rfl, ⟨by decide +kernel, by decide +kernel, by decide +kernel⟩, by decide⟩
theorem kcN_timesInAll : KC yN_timesInAll bN_timesInAll 5 (some .int) 2 := ⟨mw 603 (by decide +kernel) rfl, mw 54 (by decide +kernel) rfl, ⟨by decide +kernel, by decide +kernel, by decide +kernel⟩, by decide⟩
theorem kcX_measures : KC yX_measures bX_measures 4 (some .int) 3 := ⟨mw 607 (by decide +kernel) rfl, mw 47 (by decide +kernel) rfl, ⟨by decide +kernel, by decide +kernel, by decide +kernel⟩, by decide⟩
theorem kcP_hasLanding : KC yP_hasLanding bP_hasLanding 2 (some .boolean) 1 := ⟨mw 611 (by decide +kernel) rfl, mw 51 (by decide +kernel) rfl, ⟨by decide +kernel, by decide +kernel, by decide +kernel⟩, by decide⟩
theorem kcM_add : KC yM_add bM_add 4 none 3 := ⟨mw 616 (by decide +kernel) rfl, mw 55 (by decide +kernel) rfl, ⟨by decide +kernel, by decide +kernel, by decide +kernel⟩, by decide⟩
theorem kcX_agree : KC yX_agree bX_agree 2 (some .int) 1 := ⟨mw 621 (by decide +kernel) rfl, mw 47 (by decide +kernel) rfl, ⟨by decide +kernel, by decide +kernel, by decide +kernel⟩, by decide⟩
theorem kcM_leastChange : KC yM_leastChange bM_leastChange 4 (some .int) 0 := ⟨mw 625 (by decide +kernel) rfl, mw 55 (by decide +kernel) rfl, ⟨by decide +kernel, by decide +kernel, by decide +kernel⟩, by decide⟩
theorem kcX_power : KC yX_power bX_power 4 (some .int) 2 := ⟨mw 629 (by decide +kernel) rfl, mw 47 (by decide +kernel) rfl, ⟨by decide +kernel, by decide +kernel, by decide +kernel⟩, by decide⟩
theorem kcM_gapOf : KC yM_gapOf bM_gapOf 6 (some .int) 1 := ⟨mw 633 (by decide +kernel) rfl, mw 55 (by decide +kernel) rfl, ⟨by decide +kernel, by decide +kernel, by decide +kernel⟩, by decide⟩
theorem kcM_offBy : KC yM_offBy bM_offBy 6 (some .int) 1 := ⟨mw 640 (by decide +kernel) rfl, mw 55 (by decide +kernel) rfl, ⟨by decide +kernel, by decide +kernel, by decide +kernel⟩, by decide⟩
theorem kcX_forget : KC yX_forget bX_forget 2 (some .int) 0 := ⟨mw 647 (by decide +kernel) rfl, mw 47 (by decide +kernel) rfl, ⟨by decide +kernel, by decide +kernel, by decide +kernel⟩, by decide⟩
theorem kcX_whose : KC yX_whose bX_whose 4 (some .int) 1 := ⟨mw 651 (by decide +kernel) rfl, mw 47 (by decide +kernel) rfl, ⟨by decide +kernel, by decide +kernel, by decide +kernel⟩, by decide⟩
theorem kcX_countOwners : KC yX_countOwners bX_countOwners 10 (some .int) 6 := ⟨mw 654 (by decide +kernel) rfl, mw 47 (by decide +kernel) rfl, ⟨by decide +kernel, by decide +kernel, by decide +kernel⟩, by decide⟩
theorem kcX_odds : KC yX_odds bX_odds 8 (some .int) 3 := ⟨mw 658 (by decide +kernel) rfl, mw 47 (by decide +kernel) rfl, ⟨by decide +kernel, by decide +kernel, by decide +kernel⟩, by decide⟩
theorem kcX_countAway : KC yX_countAway bX_countAway 6 (some .int) 3 := ⟨mw 661 (by decide +kernel) rfl, mw 47 (by decide +kernel) rfl, ⟨by decide +kernel, by decide +kernel, by decide +kernel⟩, by decide⟩
theorem kcJ_bitCount : KC yJ_bitCount bJ_bitCount 1 (some .int) 1 := ⟨mw 664 (by decide +kernel) rfl, mw 57 (by decide +kernel) rfl, ⟨by decide +kernel, by decide +kernel, by decide +kernel⟩, by decide⟩
theorem kcX_commonFactor : KC yX_commonFactor bX_commonFactor 6 (some .int) 2 := ⟨mw 671 (by decide +kernel) rfl, mw 47 (by decide +kernel) rfl, ⟨by decide +kernel, by decide +kernel, by decide +kernel⟩, by decide⟩
theorem kcX_rate : KC yX_rate bX_rate 3 (some .int) 2 := ⟨mw 675 (by decide +kernel) rfl, mw 47 (by decide +kernel) rfl, ⟨by decide +kernel, by decide +kernel, by decide +kernel⟩, by decide⟩
theorem kcX_rateStretch : KC yX_rateStretch bX_rateStretch 2 (some .int) 1 := ⟨mw 679 (by decide +kernel) rfl, mw 47 (by decide +kernel) rfl, ⟨by decide +kernel, by decide +kernel, by decide +kernel⟩, by decide⟩
theorem kcX_rateFeather : KC yX_rateFeather bX_rateFeather 2 (some .int) 1 := ⟨mw 683 (by decide +kernel) rfl, mw 47 (by decide +kernel) rfl, ⟨by decide +kernel, by decide +kernel, by decide +kernel⟩, by decide⟩
theorem kcS_thingsBetween : KC yS_thingsBetween bS_thingsBetween 5 (some .int) 2 := ⟨mw 688 (by decide +kernel) rfl, mw 52 (by decide +kernel) rfl, ⟨by decide +kernel, by decide +kernel, by decide +kernel⟩, by decide⟩
theorem kcX_rateBench : KC yX_rateBench bX_rateBench 2 (some .int) 1 := ⟨mw 692 (by decide +kernel) rfl, mw 47 (by decide +kernel) rfl, ⟨by decide +kernel, by decide +kernel, by decide +kernel⟩, by decide⟩
theorem kcX_rateWing : KC yX_rateWing bX_rateWing 2 (some .int) 1 := ⟨mw 697 (by decide +kernel) rfl, mw 47 (by decide +kernel) rfl, ⟨by decide +kernel, by decide +kernel, by decide +kernel⟩, by decide⟩
theorem kcX_rateName : KC yX_rateName bX_rateName 2 (some .int) 1 := ⟨mw 702 (by decide +kernel) rfl, mw 47 (by decide +kernel) rfl, ⟨by decide +kernel, by decide +kernel, by decide +kernel⟩, by decide⟩
theorem kcX_rateCloud : KC yX_rateCloud bX_rateCloud 2 (some .int) 1 := ⟨mw 707 (by decide +kernel) rfl, mw 47 (by decide +kernel) rfl, ⟨by decide +kernel, by decide +kernel, by decide +kernel⟩, by decide⟩
theorem kcX_keep : KC yX_keep bX_keep 2 (some .int) 1 := ⟨mw 712 (by decide +kernel) rfl, mw 47 (by decide +kernel) rfl, ⟨by decide +kernel, by decide +kernel, by decide +kernel⟩, by decide⟩
theorem kcX_imageOf : KC yX_imageOf bX_imageOf 2 (some (.object "LadderSurvey$Scene")) 1 := ⟨mw 716 (by decide +kernel) rfl, mw 47 (by decide +kernel) rfl, ⟨by decide +kernel, by decide +kernel, by decide +kernel⟩, by decide⟩
theorem kcS_copy : KC yS_copy bS_copy 2 none 1 := ⟨mw 720 (by decide +kernel) rfl, mw 52 (by decide +kernel) rfl, ⟨by decide +kernel, by decide +kernel, by decide +kernel⟩, by decide⟩
theorem kcR_copy : KC yR_copy bR_copy 3 none 1 := ⟨mw 724 (by decide +kernel) rfl, mw 49 (by decide +kernel) rfl, ⟨by decide +kernel, by decide +kernel, by decide +kernel⟩, by decide⟩
theorem kcX_back : KC yX_back bX_back 2 (some .int) 1 := ⟨mw 729 (by decide +kernel) rfl, mw 47 (by decide +kernel) rfl, ⟨by decide +kernel, by decide +kernel, by decide +kernel⟩, by decide⟩
theorem kcX_count : KC yX_count bX_count 2 (some .int) 1 := ⟨mw 733 (by decide +kernel) rfl, mw 47 (by decide +kernel) rfl, ⟨by decide +kernel, by decide +kernel, by decide +kernel⟩, by decide⟩
theorem kcX_trace : KC yX_trace bX_trace 1 (some .long) 0 := ⟨mw 737 (by decide +kernel) rfl, mw 47 (by decide +kernel) rfl, ⟨by decide +kernel, by decide +kernel, by decide +kernel⟩, by decide⟩
theorem kcZ_init : KC yZ_init bZ_init 1 none 0 := ⟨mw 742 (by decide +kernel) rfl, mw 56 (by decide +kernel) rfl, ⟨by decide +kernel, by decide +kernel, by decide +kernel⟩, by decide⟩
theorem kcZ_begins : KC yZ_begins bZ_begins 1 none 0 := ⟨mw 747 (by decide +kernel) rfl, mw 56 (by decide +kernel) rfl, ⟨by decide +kernel, by decide +kernel, by decide +kernel⟩, by decide⟩
theorem kcZ_settles : KC yZ_settles bZ_settles 2 none 0 := ⟨mw 751 (by decide +kernel) rfl, mw 56 (by decide +kernel) rfl, ⟨by decide +kernel, by decide +kernel, by decide +kernel⟩, by decide⟩
theorem kcZ_type : KC yZ_type bZ_type 2 (some .int) 1 := ⟨mw 844 (by decide +kernel) rfl, mw 56 (by decide +kernel) rfl, ⟨by decide +kernel, by decide +kernel, by decide +kernel⟩, by decide⟩
theorem kcZ_in : KC yZ_in bZ_in 3 (some .boolean) 3 := ⟨mw 847 (by decide +kernel) rfl, mw 56 (by decide +kernel) rfl, ⟨by decide +kernel, by decide +kernel, by decide +kernel⟩, by decide⟩
theorem kcZ_clear : KC yZ_clear bZ_clear 2 (some .int) 0 := ⟨mw 851 (by decide +kernel) rfl, mw 56 (by decide +kernel) rfl, ⟨by decide +kernel, by decide +kernel, by decide +kernel⟩, by decide⟩
theorem kcZ_ladder : KC yZ_ladder bZ_ladder 3 (some .int) 0 := ⟨mw 855 (by decide +kernel) rfl, mw 56 (by decide +kernel) rfl, ⟨by decide +kernel, by decide +kernel, by decide +kernel⟩, by decide⟩
theorem kcZ_advances : KC yZ_advances bZ_advances 2 none 0 := ⟨mw 859 (by decide +kernel) rfl, mw 56 (by decide +kernel) rfl, ⟨by decide +kernel, by decide +kernel, by decide +kernel⟩, by decide⟩
theorem kcZ_letterAt : KC yZ_letterAt bZ_letterAt 2 (some .int) 1 := ⟨mw 863 (by decide +kernel) rfl, mw 56 (by decide +kernel) rfl, ⟨by decide +kernel, by decide +kernel, by decide +kernel⟩, by decide⟩
theorem kcZ_isLetter : KC yZ_isLetter bZ_isLetter 1 (some .boolean) 1 := ⟨mw 866 (by decide +kernel) rfl, mw 56 (by decide +kernel) rfl, ⟨by decide +kernel, by decide +kernel, by decide +kernel⟩, by decide⟩
theorem kcZ_isWell : KC yZ_isWell bZ_isWell 1 (some .boolean) 0 := ⟨mw 870 (by decide +kernel) rfl, mw 56 (by decide +kernel) rfl, ⟨by decide +kernel, by decide +kernel, by decide +kernel⟩, by decide⟩
theorem kcZ_mayBegin : KC yZ_mayBegin bZ_mayBegin 1 (some .boolean) 0 := ⟨mw 874 (by decide +kernel) rfl, mw 56 (by decide +kernel) rfl, ⟨by decide +kernel, by decide +kernel, by decide +kernel⟩, by decide⟩
theorem kcZ_takes : KC yZ_takes bZ_takes 3 (some .int) 1 := ⟨mw 878 (by decide +kernel) rfl, mw 56 (by decide +kernel) rfl, ⟨by decide +kernel, by decide +kernel, by decide +kernel⟩, by decide⟩
theorem kcZ_readsItem : KC yZ_readsItem bZ_readsItem 3 none 1 := ⟨mw 882 (by decide +kernel) rfl, mw 56 (by decide +kernel) rfl, ⟨by decide +kernel, by decide +kernel, by decide +kernel⟩, by decide⟩
theorem kcZ_number : KC yZ_number bZ_number 3 (some .int) 2 := ⟨mw 886 (by decide +kernel) rfl, mw 56 (by decide +kernel) rfl, ⟨by decide +kernel, by decide +kernel, by decide +kernel⟩, by decide⟩
theorem kcZ_stretch : KC yZ_stretch bZ_stretch 3 (some .int) 2 := ⟨mw 890 (by decide +kernel) rfl, mw 56 (by decide +kernel) rfl, ⟨by decide +kernel, by decide +kernel, by decide +kernel⟩, by decide⟩
theorem kcZ_isStretch : KC yZ_isStretch bZ_isStretch 2 (some .boolean) 1 := ⟨mw 894 (by decide +kernel) rfl, mw 56 (by decide +kernel) rfl, ⟨by decide +kernel, by decide +kernel, by decide +kernel⟩, by decide⟩
theorem kcZ_markOf : KC yZ_markOf bZ_markOf 4 (some .int) 1 := ⟨mw 899 (by decide +kernel) rfl, mw 56 (by decide +kernel) rfl, ⟨by decide +kernel, by decide +kernel, by decide +kernel⟩, by decide⟩
theorem kcZ_traveller : KC yZ_traveller bZ_traveller 3 (some .int) 2 := ⟨mw 903 (by decide +kernel) rfl, mw 56 (by decide +kernel) rfl, ⟨by decide +kernel, by decide +kernel, by decide +kernel⟩, by decide⟩
theorem kcZ_isTraveller : KC yZ_isTraveller bZ_isTraveller 2 (some .boolean) 1 := ⟨mw 907 (by decide +kernel) rfl, mw 56 (by decide +kernel) rfl, ⟨by decide +kernel, by decide +kernel, by decide +kernel⟩, by decide⟩
theorem kcZ_wear : KC yZ_wear bZ_wear 3 (some .int) 2 := ⟨mw 911 (by decide +kernel) rfl, mw 56 (by decide +kernel) rfl, ⟨by decide +kernel, by decide +kernel, by decide +kernel⟩, by decide⟩
theorem kcZ_top : KC yZ_top bZ_top 1 (some .int) 0 := ⟨mw 915 (by decide +kernel) rfl, mw 56 (by decide +kernel) rfl, ⟨by decide +kernel, by decide +kernel, by decide +kernel⟩, by decide⟩
theorem kcZ_thing : KC yZ_thing bZ_thing 2 (some .int) 1 := ⟨mw 919 (by decide +kernel) rfl, mw 56 (by decide +kernel) rfl, ⟨by decide +kernel, by decide +kernel, by decide +kernel⟩, by decide⟩
theorem kcZ_now : KC yZ_now bZ_now 2 (some .int) 1 := ⟨mw 923 (by decide +kernel) rfl, mw 56 (by decide +kernel) rfl, ⟨by decide +kernel, by decide +kernel, by decide +kernel⟩, by decide⟩
theorem kcZ_ones : KC yZ_ones bZ_ones 3 (some .int) 1 := ⟨mw 926 (by decide +kernel) rfl, mw 56 (by decide +kernel) rfl, ⟨by decide +kernel, by decide +kernel, by decide +kernel⟩, by decide⟩
theorem kcZ_allWear : KC yZ_allWear bZ_allWear 3 (some .int) 0 := ⟨mw 930 (by decide +kernel) rfl, mw 56 (by decide +kernel) rfl, ⟨by decide +kernel, by decide +kernel, by decide +kernel⟩, by decide⟩
theorem kcZ_steepest : KC yZ_steepest bZ_steepest 3 (some .int) 0 := ⟨mw 934 (by decide +kernel) rfl, mw 56 (by decide +kernel) rfl, ⟨by decide +kernel, by decide +kernel, by decide +kernel⟩, by decide⟩
theorem kcZ_heightAt : KC yZ_heightAt bZ_heightAt 5 (some .int) 1 := ⟨mw 938 (by decide +kernel) rfl, mw 56 (by decide +kernel) rfl, ⟨by decide +kernel, by decide +kernel, by decide +kernel⟩, by decide⟩
theorem kcZ_daysBy : KC yZ_daysBy bZ_daysBy 4 (some .int) 1 := ⟨mw 942 (by decide +kernel) rfl, mw 56 (by decide +kernel) rfl, ⟨by decide +kernel, by decide +kernel, by decide +kernel⟩, by decide⟩
theorem kcZ_goes : KC yZ_goes bZ_goes 9 (some .int) 2 := ⟨mw 946 (by decide +kernel) rfl, mw 56 (by decide +kernel) rfl, ⟨by decide +kernel, by decide +kernel, by decide +kernel⟩, by decide⟩
theorem kcZ_isStaying : KC yZ_isStaying bZ_isStaying 2 (some .boolean) 1 := ⟨mw 950 (by decide +kernel) rfl, mw 56 (by decide +kernel) rfl, ⟨by decide +kernel, by decide +kernel, by decide +kernel⟩, by decide⟩
theorem kcZ_notes : KC yZ_notes bZ_notes 2 none 0 := ⟨mw 954 (by decide +kernel) rfl, mw 56 (by decide +kernel) rfl, ⟨by decide +kernel, by decide +kernel, by decide +kernel⟩, by decide⟩
theorem kcZ_stays : KC yZ_stays bZ_stays 2 (some .int) 1 := ⟨mw 958 (by decide +kernel) rfl, mw 56 (by decide +kernel) rfl, ⟨by decide +kernel, by decide +kernel, by decide +kernel⟩, by decide⟩
theorem kcZ_loses : KC yZ_loses bZ_loses 2 (some .int) 1 := ⟨mw 962 (by decide +kernel) rfl, mw 56 (by decide +kernel) rfl, ⟨by decide +kernel, by decide +kernel, by decide +kernel⟩, by decide⟩
theorem kcZ_picks : KC yZ_picks bZ_picks 4 (some .int) 1 := ⟨mw 966 (by decide +kernel) rfl, mw 56 (by decide +kernel) rfl, ⟨by decide +kernel, by decide +kernel, by decide +kernel⟩, by decide⟩
theorem kcZ_oldestAt : KC yZ_oldestAt bZ_oldestAt 4 (some .int) 1 := ⟨mw 970 (by decide +kernel) rfl, mw 56 (by decide +kernel) rfl, ⟨by decide +kernel, by decide +kernel, by decide +kernel⟩, by decide⟩
theorem kcZ_undo : KC yZ_undo bZ_undo 2 (some .int) 0 := ⟨mw 974 (by decide +kernel) rfl, mw 56 (by decide +kernel) rfl, ⟨by decide +kernel, by decide +kernel, by decide +kernel⟩, by decide⟩
theorem kcZ_altitude : KC yZ_altitude bZ_altitude 2 (some .int) 1 := ⟨mw 978 (by decide +kernel) rfl, mw 56 (by decide +kernel) rfl, ⟨by decide +kernel, by decide +kernel, by decide +kernel⟩, by decide⟩
theorem kcZ_altitudeOf : KC yZ_altitudeOf bZ_altitudeOf 4 (some .int) 1 := ⟨mw 982 (by decide +kernel) rfl, mw 56 (by decide +kernel) rfl, ⟨by decide +kernel, by decide +kernel, by decide +kernel⟩, by decide⟩
theorem kcZ_step : KC yZ_step bZ_step 5 (some .int) 1 := ⟨mw 986 (by decide +kernel) rfl, mw 56 (by decide +kernel) rfl, ⟨by decide +kernel, by decide +kernel, by decide +kernel⟩, by decide⟩
theorem kcZ_hands : KC yZ_hands bZ_hands 4 (some .int) 1 := ⟨mw 991 (by decide +kernel) rfl, mw 56 (by decide +kernel) rfl, ⟨by decide +kernel, by decide +kernel, by decide +kernel⟩, by decide⟩
theorem kcZ_sees : KC yZ_sees bZ_sees 3 (some .int) 2 := ⟨mw 995 (by decide +kernel) rfl, mw 56 (by decide +kernel) rfl, ⟨by decide +kernel, by decide +kernel, by decide +kernel⟩, by decide⟩
theorem kcZ_can : KC yZ_can bZ_can 7 (some .int) 1 := ⟨mw 999 (by decide +kernel) rfl, mw 56 (by decide +kernel) rfl, ⟨by decide +kernel, by decide +kernel, by decide +kernel⟩, by decide⟩
theorem kcZ_tens : KC yZ_tens bZ_tens 3 (some .int) 1 := ⟨mw 1002 (by decide +kernel) rfl, mw 56 (by decide +kernel) rfl, ⟨by decide +kernel, by decide +kernel, by decide +kernel⟩, by decide⟩
theorem kcZ_isAsSeen : KC yZ_isAsSeen bZ_isAsSeen 6 (some .boolean) 1 := ⟨mw 1006 (by decide +kernel) rfl, mw 56 (by decide +kernel) rfl, ⟨by decide +kernel, by decide +kernel, by decide +kernel⟩, by decide⟩
theorem kcZ_goings : KC yZ_goings bZ_goings 1 (some .int) 1 := ⟨mw 1009 (by decide +kernel) rfl, mw 56 (by decide +kernel) rfl, ⟨by decide +kernel, by decide +kernel, by decide +kernel⟩, by decide⟩
theorem kcZ_measures : KC yZ_measures bZ_measures 4 (some .int) 3 := ⟨mw 1013 (by decide +kernel) rfl, mw 56 (by decide +kernel) rfl, ⟨by decide +kernel, by decide +kernel, by decide +kernel⟩, by decide⟩
theorem kcZ_agree : KC yZ_agree bZ_agree 4 (some .int) 1 := ⟨mw 1018 (by decide +kernel) rfl, mw 56 (by decide +kernel) rfl, ⟨by decide +kernel, by decide +kernel, by decide +kernel⟩, by decide⟩
theorem kcZ_leastChanges : KC yZ_leastChanges bZ_leastChanges 5 (some .int) 0 := ⟨mw 1022 (by decide +kernel) rfl, mw 56 (by decide +kernel) rfl, ⟨by decide +kernel, by decide +kernel, by decide +kernel⟩, by decide⟩
theorem kcZ_hangs : KC yZ_hangs bZ_hangs 8 (some .boolean) 1 := ⟨mw 1027 (by decide +kernel) rfl, mw 56 (by decide +kernel) rfl, ⟨by decide +kernel, by decide +kernel, by decide +kernel⟩, by decide⟩
theorem kcZ_apart : KC yZ_apart bZ_apart 2 (some .int) 2 := ⟨mw 1030 (by decide +kernel) rfl, mw 56 (by decide +kernel) rfl, ⟨by decide +kernel, by decide +kernel, by decide +kernel⟩, by decide⟩
theorem kcZ_forget : KC yZ_forget bZ_forget 2 (some .int) 0 := ⟨mw 1034 (by decide +kernel) rfl, mw 56 (by decide +kernel) rfl, ⟨by decide +kernel, by decide +kernel, by decide +kernel⟩, by decide⟩
theorem kcZ_whose : KC yZ_whose bZ_whose 6 (some .int) 1 := ⟨mw 1038 (by decide +kernel) rfl, mw 56 (by decide +kernel) rfl, ⟨by decide +kernel, by decide +kernel, by decide +kernel⟩, by decide⟩
theorem kcZ_canOwn : KC yZ_canOwn bZ_canOwn 6 (some .boolean) 1 := ⟨mw 1042 (by decide +kernel) rfl, mw 56 (by decide +kernel) rfl, ⟨by decide +kernel, by decide +kernel, by decide +kernel⟩, by decide⟩
theorem kcZ_ownerOf : KC yZ_ownerOf bZ_ownerOf 2 (some .int) 2 := ⟨mw 1045 (by decide +kernel) rfl, mw 56 (by decide +kernel) rfl, ⟨by decide +kernel, by decide +kernel, by decide +kernel⟩, by decide⟩
theorem kcZ_odds : KC yZ_odds bZ_odds 8 (some .int) 3 := ⟨mw 1049 (by decide +kernel) rfl, mw 56 (by decide +kernel) rfl, ⟨by decide +kernel, by decide +kernel, by decide +kernel⟩, by decide⟩
theorem kcZ_power : KC yZ_power bZ_power 4 (some .int) 2 := ⟨mw 1052 (by decide +kernel) rfl, mw 56 (by decide +kernel) rfl, ⟨by decide +kernel, by decide +kernel, by decide +kernel⟩, by decide⟩
theorem kcZ_gcd : KC yZ_gcd bZ_gcd 5 (some .int) 2 := ⟨mw 1055 (by decide +kernel) rfl, mw 56 (by decide +kernel) rfl, ⟨by decide +kernel, by decide +kernel, by decide +kernel⟩, by decide⟩
theorem kcZ_rate : KC yZ_rate bZ_rate 6 (some .int) 2 := ⟨mw 1059 (by decide +kernel) rfl, mw 56 (by decide +kernel) rfl, ⟨by decide +kernel, by decide +kernel, by decide +kernel⟩, by decide⟩
theorem kcZ_thingsOn : KC yZ_thingsOn bZ_thingsOn 4 (some .int) 1 := ⟨mw 1063 (by decide +kernel) rfl, mw 56 (by decide +kernel) rfl, ⟨by decide +kernel, by decide +kernel, by decide +kernel⟩, by decide⟩
theorem kcZ_keep : KC yZ_keep bZ_keep 3 (some .int) 1 := ⟨mw 1072 (by decide +kernel) rfl, mw 56 (by decide +kernel) rfl, ⟨by decide +kernel, by decide +kernel, by decide +kernel⟩, by decide⟩
theorem kcZ_back : KC yZ_back bZ_back 3 (some .int) 1 := ⟨mw 1076 (by decide +kernel) rfl, mw 56 (by decide +kernel) rfl, ⟨by decide +kernel, by decide +kernel, by decide +kernel⟩, by decide⟩
theorem kcZ_count : KC yZ_count bZ_count 2 (some .int) 1 := ⟨mw 1080 (by decide +kernel) rfl, mw 56 (by decide +kernel) rfl, ⟨by decide +kernel, by decide +kernel, by decide +kernel⟩, by decide⟩
theorem kcZ_trace : KC yZ_trace bZ_trace 1 (some .long) 0 := ⟨mw 1084 (by decide +kernel) rfl, mw 56 (by decide +kernel) rfl, ⟨by decide +kernel, by decide +kernel, by decide +kernel⟩, by decide⟩
theorem oiX_3 : OI cN7 3 := ⟨mw 63 (by decide +kernel) rfl, mw 64 (by decide +kernel) rfl, mw 65 (by decide +kernel) rfl⟩
theorem kvX_11 : KIN cN7 11 yT_init bT_init 1 none 0 := ⟨kcT_init, ⟨"LadderSurvey", mw 68 (by decide +kernel) rfl⟩, rfl, mw 69 (by decide +kernel) rfl⟩
theorem kvX_18 : KIN cN7 18 yP_init bP_init 1 none 0 := ⟨kcP_init, ⟨"LadderSurvey", mw 114 (by decide +kernel) rfl⟩, rfl, mw 115 (by decide +kernel) rfl⟩
theorem kvX_28 : KIN cN7 28 yS_init bS_init 1 none 0 := ⟨kcS_init, ⟨"LadderSurvey", mw 157 (by decide +kernel) rfl⟩, rfl, mw 158 (by decide +kernel) rfl⟩
theorem kvX_41 : KI cN7 41 yR_init bR_init 2 none 1 := ⟨kcR_init, mw 188 (by decide +kernel) rfl, rfl, mw 75 (by decide +kernel) rfl⟩
theorem kvX_50 : KIN cN7 50 yD_init bD_init 1 none 0 := ⟨kcD_init, ⟨"LadderSurvey", mw 191 (by decide +kernel) rfl⟩, rfl, mw 192 (by decide +kernel) rfl⟩
theorem kvX_57 : KIN cN7 57 yN_init bN_init 1 none 0 := ⟨kcN_init, ⟨"LadderSurvey", mw 209 (by decide +kernel) rfl⟩, rfl, mw 210 (by decide +kernel) rfl⟩
theorem kvX_64 : KIN cN7 64 yM_init bM_init 1 none 0 := ⟨kcM_init, ⟨"LadderSurvey", mw 228 (by decide +kernel) rfl⟩, rfl, mw 229 (by decide +kernel) rfl⟩
theorem kvX_72 : KV cN7 72 yR_isFull bR_isFull 1 (some .boolean) 0 := ⟨kcR_isFull, mw 286 (by decide +kernel) rfl, mw 287 (by decide +kernel) rfl, mw 288 (by decide +kernel) rfl⟩
theorem kvX_76 : KV cN7 76 yR_push bR_push 2 none 1 := ⟨kcR_push, mw 290 (by decide +kernel) rfl, mw 291 (by decide +kernel) rfl, mw 292 (by decide +kernel) rfl⟩
theorem kvX_79 : KV cN7 79 yR_size bR_size 1 (some .int) 0 := ⟨kcR_size, mw 299 (by decide +kernel) rfl, mw 300 (by decide +kernel) rfl, mw 301 (by decide +kernel) rfl⟩
theorem kvX_83 : KV cN7 83 yR_empty bR_empty 2 none 0 := ⟨kcR_empty, mw 307 (by decide +kernel) rfl, mw 308 (by decide +kernel) rfl, mw 309 (by decide +kernel) rfl⟩
theorem kvX_86 : KV cN7 86 yT_readInto bT_readInto 3 (some .int) 1 := ⟨kcT_readInto, mw 315 (by decide +kernel) rfl, mw 316 (by decide +kernel) rfl, mw 317 (by decide +kernel) rfl⟩
theorem kvX_90 : KV cN7 90 yS_begin bS_begin 1 none 0 := ⟨kcS_begin, mw 376 (by decide +kernel) rfl, mw 377 (by decide +kernel) rfl, mw 378 (by decide +kernel) rfl⟩
theorem kvX_93 : KV cN7 93 yD_empty bD_empty 1 none 0 := ⟨kcD_empty, mw 381 (by decide +kernel) rfl, mw 382 (by decide +kernel) rfl, mw 383 (by decide +kernel) rfl⟩
theorem kvX_94 : KV cN7 94 yN_empty bN_empty 1 none 0 := ⟨kcN_empty, mw 386 (by decide +kernel) rfl, mw 387 (by decide +kernel) rfl, mw 388 (by decide +kernel) rfl⟩
theorem kvX_95 : KV cN7 95 yM_empty bM_empty 1 none 0 := ⟨kcM_empty, mw 391 (by decide +kernel) rfl, mw 392 (by decide +kernel) rfl, mw 393 (by decide +kernel) rfl⟩
theorem kvX_96 : KV cN7 96 yP_hasStretch bP_hasStretch 2 (some .boolean) 1 := ⟨kcP_hasStretch, mw 400 (by decide +kernel) rfl, mw 401 (by decide +kernel) rfl, mw 402 (by decide +kernel) rfl⟩
theorem kvX_104 : KV cN7 104 yR_at bR_at 2 (some .int) 1 := ⟨kcR_at, mw 405 (by decide +kernel) rfl, mw 330 (by decide +kernel) rfl, mw 331 (by decide +kernel) rfl⟩
theorem kvX_114 : KV cN7 114 yP_landingMark bP_landingMark 2 (some .int) 1 := ⟨kcP_landingMark, mw 406 (by decide +kernel) rfl, mw 407 (by decide +kernel) rfl, mw 408 (by decide +kernel) rfl⟩
theorem kvX_117 : KV cN7 117 yP_hasTraveller bP_hasTraveller 2 (some .boolean) 1 := ⟨kcP_hasTraveller, mw 415 (by decide +kernel) rfl, mw 416 (by decide +kernel) rfl, mw 417 (by decide +kernel) rfl⟩
theorem kvX_129 : KV cN7 129 yP_hasThousand bP_hasThousand 2 (some .boolean) 1 := ⟨kcP_hasThousand, mw 423 (by decide +kernel) rfl, mw 424 (by decide +kernel) rfl, mw 425 (by decide +kernel) rfl⟩
theorem kvX_141 : KV cN7 141 yP_topMark bP_topMark 1 (some .int) 0 := ⟨kcP_topMark, mw 435 (by decide +kernel) rfl, mw 436 (by decide +kernel) rfl, mw 437 (by decide +kernel) rfl⟩
theorem kvX_144 : KV cN7 144 yS_staying bS_staying 1 (some .int) 0 := ⟨kcS_staying, mw 439 (by decide +kernel) rfl, mw 440 (by decide +kernel) rfl, mw 441 (by decide +kernel) rfl⟩
theorem kvX_147 : KV cN7 147 yR_sum bR_sum 3 (some .int) 0 := ⟨kcR_sum, mw 447 (by decide +kernel) rfl, mw 444 (by decide +kernel) rfl, mw 445 (by decide +kernel) rfl⟩
theorem kvX_150 : KV cN7 150 yP_steepest bP_steepest 3 (some .int) 0 := ⟨kcP_steepest, mw 448 (by decide +kernel) rfl, mw 449 (by decide +kernel) rfl, mw 450 (by decide +kernel) rfl⟩
theorem kvX_157 : KV cN7 157 yP_daysWith bP_daysWith 4 (some .int) 1 := ⟨kcP_daysWith, mw 452 (by decide +kernel) rfl, mw 453 (by decide +kernel) rfl, mw 454 (by decide +kernel) rfl⟩
theorem kvX_160 : KV cN7 160 yD_known bD_known 1 (some .int) 0 := ⟨kcD_known, mw 459 (by decide +kernel) rfl, mw 460 (by decide +kernel) rfl, mw 461 (by decide +kernel) rfl⟩
theorem kvX_163 : KV cN7 163 yS_hasStayed bS_hasStayed 2 (some .boolean) 1 := ⟨kcS_hasStayed, mw 468 (by decide +kernel) rfl, mw 469 (by decide +kernel) rfl, mw 470 (by decide +kernel) rfl⟩
theorem kvX_166 : KV cN7 166 yS_wearWay bS_wearWay 7 none 3 := ⟨kcS_wearWay, mw 473 (by decide +kernel) rfl, mw 474 (by decide +kernel) rfl, mw 475 (by decide +kernel) rfl⟩
theorem kvX_170 : KV cN7 170 yR_put bR_put 3 none 2 := ⟨kcR_put, mw 480 (by decide +kernel) rfl, mw 296 (by decide +kernel) rfl, mw 297 (by decide +kernel) rfl⟩
theorem kvX_174 : KV cN7 174 yD_add bD_add 4 none 3 := ⟨kcD_add, mw 481 (by decide +kernel) rfl, mw 482 (by decide +kernel) rfl, mw 483 (by decide +kernel) rfl⟩
theorem kvX_177 : KS cN7 177 yK_abs bK_abs 1 (some .int) 1 := ⟨kcK_abs, mw 496 (by decide +kernel) rfl, mw 497 (by decide +kernel) rfl⟩
theorem kvX_182 : KV cN7 182 yS_firstThingAt bS_firstThingAt 3 (some .int) 1 := ⟨kcS_firstThingAt, mw 511 (by decide +kernel) rfl, mw 512 (by decide +kernel) rfl, mw 513 (by decide +kernel) rfl⟩
theorem kvX_185 : KV cN7 185 yR_remove bR_remove 3 none 1 := ⟨kcR_remove, mw 516 (by decide +kernel) rfl, mw 491 (by decide +kernel) rfl, mw 492 (by decide +kernel) rfl⟩
theorem kvX_188 : KV cN7 188 yD_takeBackLatest bD_takeBackLatest 5 none 1 := ⟨kcD_takeBackLatest, mw 521 (by decide +kernel) rfl, mw 522 (by decide +kernel) rfl, mw 523 (by decide +kernel) rfl⟩
theorem kvX_192 : KV cN7 192 yP_altitudeOf bP_altitudeOf 5 (some .int) 1 := ⟨kcP_altitudeOf, mw 536 (by decide +kernel) rfl, mw 537 (by decide +kernel) rfl, mw 538 (by decide +kernel) rfl⟩
theorem kvX_196 : KV cN7 196 yP_firstStepAt bP_firstStepAt 5 (some .int) 1 := ⟨kcP_firstStepAt, mw 546 (by decide +kernel) rfl, mw 547 (by decide +kernel) rfl, mw 548 (by decide +kernel) rfl⟩
theorem kvX_202 : KV cN7 202 yP_climbersAbove bP_climbersAbove 4 (some .int) 1 := ⟨kcP_climbersAbove, mw 558 (by decide +kernel) rfl, mw 559 (by decide +kernel) rfl, mw 560 (by decide +kernel) rfl⟩
theorem kvX_205 : KV cN7 205 yN_add bN_add 3 none 2 := ⟨kcN_add, mw 562 (by decide +kernel) rfl, mw 563 (by decide +kernel) rfl, mw 564 (by decide +kernel) rfl⟩
theorem kvX_207 : KV cN7 207 yN_countWays bN_countWays 6 (some .int) 3 := ⟨kcN_countWays, mw 571 (by decide +kernel) rfl, mw 572 (by decide +kernel) rfl, mw 573 (by decide +kernel) rfl⟩
theorem kvX_211 : KV cN7 211 yN_fewestGoings bN_fewestGoings 3 (some .int) 1 := ⟨kcN_fewestGoings, mw 591 (by decide +kernel) rfl, mw 592 (by decide +kernel) rfl, mw 593 (by decide +kernel) rfl⟩
theorem kvX_214 : KV cN7 214 yP_rankOf bP_rankOf 4 (some .int) 1 := ⟨kcP_rankOf, mw 596 (by decide +kernel) rfl, mw 597 (by decide +kernel) rfl, mw 598 (by decide +kernel) rfl⟩
theorem kvX_217 : KV cN7 217 yN_timesInAll bN_timesInAll 5 (some .int) 2 := ⟨kcN_timesInAll, mw 600 (by decide +kernel) rfl, mw 601 (by decide +kernel) rfl, mw 602 (by decide +kernel) rfl⟩
theorem kvX_221 : KV cN7 221 yP_hasLanding bP_hasLanding 2 (some .boolean) 1 := ⟨kcP_hasLanding, mw 608 (by decide +kernel) rfl, mw 609 (by decide +kernel) rfl, mw 610 (by decide +kernel) rfl⟩
theorem kvX_228 : KV cN7 228 yM_add bM_add 4 none 3 := ⟨kcM_add, mw 613 (by decide +kernel) rfl, mw 614 (by decide +kernel) rfl, mw 615 (by decide +kernel) rfl⟩
theorem kvX_229 : KV cN7 229 yM_leastChange bM_leastChange 4 (some .int) 0 := ⟨kcM_leastChange, mw 622 (by decide +kernel) rfl, mw 623 (by decide +kernel) rfl, mw 624 (by decide +kernel) rfl⟩
theorem kvX_232 : KV cN7 232 yM_offBy bM_offBy 6 (some .int) 1 := ⟨kcM_offBy, mw 637 (by decide +kernel) rfl, mw 638 (by decide +kernel) rfl, mw 639 (by decide +kernel) rfl⟩
theorem kvX_235 : KS cN7 235 yX_countOwners bX_countOwners 10 (some .int) 6 := ⟨kcX_countOwners, mw 652 (by decide +kernel) rfl, mw 653 (by decide +kernel) rfl⟩
theorem kvX_239 : KS cN7 239 yX_countAway bX_countAway 6 (some .int) 3 := ⟨kcX_countAway, mw 659 (by decide +kernel) rfl, mw 660 (by decide +kernel) rfl⟩
theorem kvX_242 : KS cN7 242 yX_power bX_power 4 (some .int) 2 := ⟨kcX_power, mw 668 (by decide +kernel) rfl, mw 628 (by decide +kernel) rfl⟩
theorem kvX_245 : KS cN7 245 yX_commonFactor bX_commonFactor 6 (some .int) 2 := ⟨kcX_commonFactor, mw 669 (by decide +kernel) rfl, mw 670 (by decide +kernel) rfl⟩
theorem kvX_248 : KV cN7 248 yX_rateStretch bX_rateStretch 2 (some .int) 1 := ⟨kcX_rateStretch, mw 676 (by decide +kernel) rfl, mw 678 (by decide +kernel) rfl, mw 13 (by decide +kernel) rfl⟩
theorem kvX_251 : KV cN7 251 yX_rateFeather bX_rateFeather 2 (some .int) 1 := ⟨kcX_rateFeather, mw 680 (by decide +kernel) rfl, mw 682 (by decide +kernel) rfl, mw 14 (by decide +kernel) rfl⟩
theorem kvX_254 : KV cN7 254 yX_rateBench bX_rateBench 2 (some .int) 1 := ⟨kcX_rateBench, mw 689 (by decide +kernel) rfl, mw 691 (by decide +kernel) rfl, mw 15 (by decide +kernel) rfl⟩
theorem kvX_257 : KV cN7 257 yX_rateWing bX_rateWing 2 (some .int) 1 := ⟨kcX_rateWing, mw 694 (by decide +kernel) rfl, mw 696 (by decide +kernel) rfl, mw 16 (by decide +kernel) rfl⟩
theorem kvX_260 : KV cN7 260 yX_rateName bX_rateName 2 (some .int) 1 := ⟨kcX_rateName, mw 699 (by decide +kernel) rfl, mw 701 (by decide +kernel) rfl, mw 17 (by decide +kernel) rfl⟩
theorem kvX_263 : KV cN7 263 yX_rateCloud bX_rateCloud 2 (some .int) 1 := ⟨kcX_rateCloud, mw 704 (by decide +kernel) rfl, mw 706 (by decide +kernel) rfl, mw 18 (by decide +kernel) rfl⟩
theorem kvX_266 : KV cN7 266 yX_imageOf bX_imageOf 2 (some (.object "LadderSurvey$Scene")) 1 := ⟨kcX_imageOf, mw 713 (by decide +kernel) rfl, mw 715 (by decide +kernel) rfl, mw 19 (by decide +kernel) rfl⟩
theorem kvX_270 : KV cN7 270 yS_copy bS_copy 2 none 1 := ⟨kcS_copy, mw 717 (by decide +kernel) rfl, mw 718 (by decide +kernel) rfl, mw 719 (by decide +kernel) rfl⟩
theorem kvX_282 : KV cN7 282 yS_thingsBetween bS_thingsBetween 5 (some .int) 2 := ⟨kcS_thingsBetween, mw 685 (by decide +kernel) rfl, mw 686 (by decide +kernel) rfl, mw 687 (by decide +kernel) rfl⟩
theorem kvX_293 : KS cN7 293 yJ_bitCount bJ_bitCount 1 (some .int) 1 := ⟨kcJ_bitCount, mw 662 (by decide +kernel) rfl, mw 663 (by decide +kernel) rfl⟩
theorem oiD_3 : OI cN0 3 := ⟨mw 194 (by decide +kernel) rfl, mw 64 (by decide +kernel) rfl, mw 65 (by decide +kernel) rfl⟩
theorem kvD_11 : KI cN0 11 yR_init bR_init 2 none 1 := ⟨kcR_init, mw 196 (by decide +kernel) rfl, rfl, mw 75 (by decide +kernel) rfl⟩
theorem kvD_26 : KV cN0 26 yR_size bR_size 1 (some .int) 0 := ⟨kcR_size, mw 463 (by decide +kernel) rfl, mw 300 (by decide +kernel) rfl, mw 301 (by decide +kernel) rfl⟩
theorem kvD_30 : KV cN0 30 yR_empty bR_empty 2 none 0 := ⟨kcR_empty, mw 385 (by decide +kernel) rfl, mw 308 (by decide +kernel) rfl, mw 309 (by decide +kernel) rfl⟩
theorem kvD_33 : KV cN0 33 yR_isFull bR_isFull 1 (some .boolean) 0 := ⟨kcR_isFull, mw 485 (by decide +kernel) rfl, mw 287 (by decide +kernel) rfl, mw 288 (by decide +kernel) rfl⟩
theorem kvD_37 : KV cN0 37 yD_drop bD_drop 2 none 1 := ⟨kcD_drop, mw 486 (by decide +kernel) rfl, mw 488 (by decide +kernel) rfl, mw 8 (by decide +kernel) rfl⟩
theorem kvD_40 : KV cN0 40 yR_push bR_push 2 none 1 := ⟨kcR_push, mw 495 (by decide +kernel) rfl, mw 291 (by decide +kernel) rfl, mw 292 (by decide +kernel) rfl⟩
theorem kvD_43 : KV cN0 43 yR_at bR_at 2 (some .int) 1 := ⟨kcR_at, mw 525 (by decide +kernel) rfl, mw 330 (by decide +kernel) rfl, mw 331 (by decide +kernel) rfl⟩
theorem kvD_52 : KV cN0 52 yS_wearWay bS_wearWay 7 none 3 := ⟨kcS_wearWay, mw 526 (by decide +kernel) rfl, mw 474 (by decide +kernel) rfl, mw 475 (by decide +kernel) rfl⟩
theorem kvD_56 : KV cN0 56 yR_put bR_put 3 none 2 := ⟨kcR_put, mw 527 (by decide +kernel) rfl, mw 296 (by decide +kernel) rfl, mw 297 (by decide +kernel) rfl⟩
theorem kvD_66 : KV cN0 66 yR_remove bR_remove 3 none 1 := ⟨kcR_remove, mw 490 (by decide +kernel) rfl, mw 491 (by decide +kernel) rfl, mw 492 (by decide +kernel) rfl⟩
theorem kvD_69 : KV cN0 69 yR_insert bR_insert 4 none 2 := ⟨kcR_insert, mw 528 (by decide +kernel) rfl, mw 529 (by decide +kernel) rfl, mw 530 (by decide +kernel) rfl⟩
theorem oiM_3 : OI cN1 3 := ⟨mw 231 (by decide +kernel) rfl, mw 64 (by decide +kernel) rfl, mw 65 (by decide +kernel) rfl⟩
theorem kvM_11 : KI cN1 11 yR_init bR_init 2 none 1 := ⟨kcR_init, mw 233 (by decide +kernel) rfl, rfl, mw 75 (by decide +kernel) rfl⟩
theorem kvM_29 : KV cN1 29 yR_empty bR_empty 2 none 0 := ⟨kcR_empty, mw 395 (by decide +kernel) rfl, mw 308 (by decide +kernel) rfl, mw 309 (by decide +kernel) rfl⟩
theorem kvM_32 : KV cN1 32 yR_push bR_push 2 none 1 := ⟨kcR_push, mw 617 (by decide +kernel) rfl, mw 291 (by decide +kernel) rfl, mw 292 (by decide +kernel) rfl⟩
theorem kvM_35 : KV cN1 35 yR_size bR_size 1 (some .int) 0 := ⟨kcR_size, mw 626 (by decide +kernel) rfl, mw 300 (by decide +kernel) rfl, mw 301 (by decide +kernel) rfl⟩
theorem kvM_39 : KV cN1 39 yR_at bR_at 2 (some .int) 1 := ⟨kcR_at, mw 634 (by decide +kernel) rfl, mw 330 (by decide +kernel) rfl, mw 331 (by decide +kernel) rfl⟩
theorem kvM_43 : KV cN1 43 yP_landingMark bP_landingMark 2 (some .int) 1 := ⟨kcP_landingMark, mw 641 (by decide +kernel) rfl, mw 407 (by decide +kernel) rfl, mw 408 (by decide +kernel) rfl⟩
theorem kvM_48 : KV cN1 48 yP_altitudeOf bP_altitudeOf 5 (some .int) 1 := ⟨kcP_altitudeOf, mw 642 (by decide +kernel) rfl, mw 537 (by decide +kernel) rfl, mw 538 (by decide +kernel) rfl⟩
theorem kvM_51 : KS cN1 51 yK_abs bK_abs 1 (some .int) 1 := ⟨kcK_abs, mw 643 (by decide +kernel) rfl, mw 497 (by decide +kernel) rfl⟩
theorem kvM_56 : KSN cN1 56 yX_power bX_power 4 (some .int) 2 := ⟨kcX_power, ⟨"LadderSurvey", mw 627 (by decide +kernel) rfl⟩, mw 628 (by decide +kernel) rfl⟩
theorem kvM_60 : KV cN1 60 yM_gapOf bM_gapOf 6 (some .int) 1 := ⟨kcM_gapOf, mw 630 (by decide +kernel) rfl, mw 632 (by decide +kernel) rfl, mw 12 (by decide +kernel) rfl⟩
theorem kvM_63 : KS cN1 63 yK_max bK_max 2 (some .int) 2 := ⟨kcK_max, mw 636 (by decide +kernel) rfl, mw 79 (by decide +kernel) rfl⟩
theorem kvM_66 : KV cN1 66 yR_put bR_put 3 none 2 := ⟨kcR_put, mw 635 (by decide +kernel) rfl, mw 296 (by decide +kernel) rfl, mw 297 (by decide +kernel) rfl⟩
theorem oiP_3 : OI cN2 3 := ⟨mw 117 (by decide +kernel) rfl, mw 64 (by decide +kernel) rfl, mw 65 (by decide +kernel) rfl⟩
theorem kvP_11 : KI cN2 11 yR_init bR_init 2 none 1 := ⟨kcR_init, mw 119 (by decide +kernel) rfl, rfl, mw 75 (by decide +kernel) rfl⟩
theorem kvP_42 : KV cN2 42 yR_empty bR_empty 2 none 0 := ⟨kcR_empty, mw 323 (by decide +kernel) rfl, mw 308 (by decide +kernel) rfl, mw 309 (by decide +kernel) rfl⟩
theorem kvP_45 : KV cN2 45 yR_push bR_push 2 none 1 := ⟨kcR_push, mw 356 (by decide +kernel) rfl, mw 291 (by decide +kernel) rfl, mw 292 (by decide +kernel) rfl⟩
theorem kvP_48 : KS cN2 48 yK_max bK_max 2 (some .int) 2 := ⟨kcK_max, mw 357 (by decide +kernel) rfl, mw 79 (by decide +kernel) rfl⟩
theorem kvP_54 : KV cN2 54 yR_size bR_size 1 (some .int) 0 := ⟨kcR_size, mw 358 (by decide +kernel) rfl, mw 300 (by decide +kernel) rfl, mw 301 (by decide +kernel) rfl⟩
theorem kvP_58 : KV cN2 58 yR_at bR_at 2 (some .int) 1 := ⟨kcR_at, mw 410 (by decide +kernel) rfl, mw 330 (by decide +kernel) rfl, mw 331 (by decide +kernel) rfl⟩
theorem kvP_62 : KS cN2 62 yK_min bK_min 2 (some .int) 2 := ⟨kcK_min, mw 540 (by decide +kernel) rfl, mw 337 (by decide +kernel) rfl⟩
theorem kvP_65 : KSN cN2 65 yX_divideUp bX_divideUp 2 (some .int) 2 := ⟨kcX_divideUp, ⟨"LadderSurvey", mw 456 (by decide +kernel) rfl⟩, mw 457 (by decide +kernel) rfl⟩
theorem oiR_1 : OI cN3 1 := ⟨mw 77 (by decide +kernel) rfl, mw 64 (by decide +kernel) rfl, mw 65 (by decide +kernel) rfl⟩
theorem kvR_7 : KS cN3 7 yK_max bK_max 2 (some .int) 2 := ⟨kcK_max, mw 78 (by decide +kernel) rfl, mw 79 (by decide +kernel) rfl⟩
theorem kvR_23 : KV cN3 23 yR_isFull bR_isFull 1 (some .boolean) 0 := ⟨kcR_isFull, mw 294 (by decide +kernel) rfl, mw 287 (by decide +kernel) rfl, mw 288 (by decide +kernel) rfl⟩
theorem kvR_27 : KV cN3 27 yR_put bR_put 3 none 2 := ⟨kcR_put, mw 295 (by decide +kernel) rfl, mw 296 (by decide +kernel) rfl, mw 297 (by decide +kernel) rfl⟩
theorem kvR_31 : KV cN3 31 yR_at bR_at 2 (some .int) 1 := ⟨kcR_at, mw 494 (by decide +kernel) rfl, mw 330 (by decide +kernel) rfl, mw 331 (by decide +kernel) rfl⟩
theorem kvR_35 : KS cN3 35 yK_min bK_min 2 (some .int) 2 := ⟨kcK_min, mw 725 (by decide +kernel) rfl, mw 337 (by decide +kernel) rfl⟩
theorem oiS_3 : OI cN4 3 := ⟨mw 160 (by decide +kernel) rfl, mw 64 (by decide +kernel) rfl, mw 65 (by decide +kernel) rfl⟩
theorem kvS_11 : KI cN4 11 yR_init bR_init 2 none 1 := ⟨kcR_init, mw 162 (by decide +kernel) rfl, rfl, mw 75 (by decide +kernel) rfl⟩
theorem kvS_32 : KV cN4 32 yR_empty bR_empty 2 none 0 := ⟨kcR_empty, mw 380 (by decide +kernel) rfl, mw 308 (by decide +kernel) rfl, mw 309 (by decide +kernel) rfl⟩
theorem kvS_35 : KV cN4 35 yR_copy bR_copy 3 none 1 := ⟨kcR_copy, mw 721 (by decide +kernel) rfl, mw 722 (by decide +kernel) rfl, mw 723 (by decide +kernel) rfl⟩
theorem kvS_39 : KV cN4 39 yR_at bR_at 2 (some .int) 1 := ⟨kcR_at, mw 472 (by decide +kernel) rfl, mw 330 (by decide +kernel) rfl, mw 331 (by decide +kernel) rfl⟩
theorem kvS_43 : KV cN4 43 yR_sum bR_sum 3 (some .int) 0 := ⟨kcR_sum, mw 443 (by decide +kernel) rfl, mw 444 (by decide +kernel) rfl, mw 445 (by decide +kernel) rfl⟩
theorem kvS_47 : KS cN4 47 yK_max bK_max 2 (some .int) 2 := ⟨kcK_max, mw 477 (by decide +kernel) rfl, mw 79 (by decide +kernel) rfl⟩
theorem kvS_53 : KS cN4 53 yK_min bK_min 2 (some .int) 2 := ⟨kcK_min, mw 478 (by decide +kernel) rfl, mw 337 (by decide +kernel) rfl⟩
theorem kvS_56 : KV cN4 56 yR_put bR_put 3 none 2 := ⟨kcR_put, mw 479 (by decide +kernel) rfl, mw 296 (by decide +kernel) rfl, mw 297 (by decide +kernel) rfl⟩
theorem kvS_60 : KV cN4 60 yR_size bR_size 1 (some .int) 0 := ⟨kcR_size, mw 515 (by decide +kernel) rfl, mw 300 (by decide +kernel) rfl, mw 301 (by decide +kernel) rfl⟩
theorem oiN_3 : OI cN5 3 := ⟨mw 212 (by decide +kernel) rfl, mw 64 (by decide +kernel) rfl, mw 65 (by decide +kernel) rfl⟩
theorem kvN_11 : KI cN5 11 yR_init bR_init 2 none 1 := ⟨kcR_init, mw 214 (by decide +kernel) rfl, rfl, mw 75 (by decide +kernel) rfl⟩
theorem kvN_26 : KV cN5 26 yR_empty bR_empty 2 none 0 := ⟨kcR_empty, mw 390 (by decide +kernel) rfl, mw 308 (by decide +kernel) rfl, mw 309 (by decide +kernel) rfl⟩
theorem kvN_29 : KV cN5 29 yR_push bR_push 2 none 1 := ⟨kcR_push, mw 566 (by decide +kernel) rfl, mw 291 (by decide +kernel) rfl, mw 292 (by decide +kernel) rfl⟩
theorem kvN_32 : KV cN5 32 yR_put bR_put 3 none 2 := ⟨kcR_put, mw 575 (by decide +kernel) rfl, mw 296 (by decide +kernel) rfl, mw 297 (by decide +kernel) rfl⟩
theorem kvN_36 : KV cN5 36 yN_dropUnlikeSeen bN_dropUnlikeSeen 3 none 1 := ⟨kcN_dropUnlikeSeen, mw 576 (by decide +kernel) rfl, mw 578 (by decide +kernel) rfl, mw 9 (by decide +kernel) rfl⟩
theorem kvN_39 : KV cN5 39 yN_addGoings bN_addGoings 6 none 2 := ⟨kcN_addGoings, mw 586 (by decide +kernel) rfl, mw 588 (by decide +kernel) rfl, mw 11 (by decide +kernel) rfl⟩
theorem kvN_42 : KV cN5 42 yR_sum bR_sum 3 (some .int) 0 := ⟨kcR_sum, mw 590 (by decide +kernel) rfl, mw 444 (by decide +kernel) rfl, mw 445 (by decide +kernel) rfl⟩
theorem kvN_46 : KV cN5 46 yN_countWays bN_countWays 6 (some .int) 3 := ⟨kcN_countWays, mw 595 (by decide +kernel) rfl, mw 572 (by decide +kernel) rfl, mw 573 (by decide +kernel) rfl⟩
theorem kvN_50 : KV cN5 50 yR_at bR_at 2 (some .int) 1 := ⟨kcR_at, mw 581 (by decide +kernel) rfl, mw 330 (by decide +kernel) rfl, mw 331 (by decide +kernel) rfl⟩
theorem kvN_54 : KV cN5 54 yR_size bR_size 1 (some .int) 0 := ⟨kcR_size, mw 580 (by decide +kernel) rfl, mw 300 (by decide +kernel) rfl, mw 301 (by decide +kernel) rfl⟩
theorem kvN_57 : KV cN5 57 yN_keepOnly bN_keepOnly 3 none 1 := ⟨kcN_keepOnly, mw 582 (by decide +kernel) rfl, mw 584 (by decide +kernel) rfl, mw 10 (by decide +kernel) rfl⟩
theorem oiT_3 : OI cN6 3 := ⟨mw 71 (by decide +kernel) rfl, mw 64 (by decide +kernel) rfl, mw 65 (by decide +kernel) rfl⟩
theorem kvT_11 : KI cN6 11 yR_init bR_init 2 none 1 := ⟨kcR_init, mw 74 (by decide +kernel) rfl, rfl, mw 75 (by decide +kernel) rfl⟩
theorem kvT_20 : KV cN6 20 yP_begin bP_begin 1 none 0 := ⟨kcP_begin, mw 319 (by decide +kernel) rfl, mw 320 (by decide +kernel) rfl, mw 321 (by decide +kernel) rfl⟩
theorem kvT_36 : KV cN6 36 yT_nextToken bT_nextToken 2 none 0 := ⟨kcT_nextToken, mw 324 (by decide +kernel) rfl, mw 326 (by decide +kernel) rfl, mw 0 (by decide +kernel) rfl⟩
theorem kvT_42 : KV cN6 42 yT_readItem bT_readItem 2 (some .boolean) 1 := ⟨kcT_readItem, mw 339 (by decide +kernel) rfl, mw 341 (by decide +kernel) rfl, mw 1 (by decide +kernel) rfl⟩
theorem kvT_52 : KV cN6 52 yR_isFull bR_isFull 1 (some .boolean) 0 := ⟨kcR_isFull, mw 343 (by decide +kernel) rfl, mw 287 (by decide +kernel) rfl, mw 288 (by decide +kernel) rfl⟩
theorem kvT_56 : KV cN6 56 yT_readStretch bT_readStretch 4 (some .boolean) 1 := ⟨kcT_readStretch, mw 344 (by decide +kernel) rfl, mw 346 (by decide +kernel) rfl, mw 2 (by decide +kernel) rfl⟩
theorem kvT_62 : KV cN6 62 yT_readTraveller bT_readTraveller 2 (some .boolean) 1 := ⟨kcT_readTraveller, mw 363 (by decide +kernel) rfl, mw 365 (by decide +kernel) rfl, mw 5 (by decide +kernel) rfl⟩
theorem kvT_65 : KV cN6 65 yT_readReach bT_readReach 2 (some .boolean) 1 := ⟨kcT_readReach, mw 368 (by decide +kernel) rfl, mw 370 (by decide +kernel) rfl, mw 6 (by decide +kernel) rfl⟩
theorem kvT_68 : KV cN6 68 yT_readBoys bT_readBoys 2 (some .boolean) 1 := ⟨kcT_readBoys, mw 372 (by decide +kernel) rfl, mw 374 (by decide +kernel) rfl, mw 7 (by decide +kernel) rfl⟩
theorem kvT_71 : KV cN6 71 yT_readNumber bT_readNumber 3 (some .boolean) 2 := ⟨kcT_readNumber, mw 348 (by decide +kernel) rfl, mw 350 (by decide +kernel) rfl, mw 3 (by decide +kernel) rfl⟩
theorem kvT_78 : KV cN6 78 yP_addStretch bP_addStretch 5 none 3 := ⟨kcP_addStretch, mw 352 (by decide +kernel) rfl, mw 353 (by decide +kernel) rfl, mw 354 (by decide +kernel) rfl⟩
theorem kvT_82 : KV cN6 82 yT_readItemEnd bT_readItemEnd 1 (some .boolean) 0 := ⟨kcT_readItemEnd, mw 359 (by decide +kernel) rfl, mw 361 (by decide +kernel) rfl, mw 4 (by decide +kernel) rfl⟩
theorem kvT_85 : KV cN6 85 yR_push bR_push 2 none 1 := ⟨kcR_push, mw 367 (by decide +kernel) rfl, mw 291 (by decide +kernel) rfl, mw 292 (by decide +kernel) rfl⟩
theorem kvT_94 : KV cN6 94 yR_size bR_size 1 (some .int) 0 := ⟨kcR_size, mw 328 (by decide +kernel) rfl, mw 300 (by decide +kernel) rfl, mw 301 (by decide +kernel) rfl⟩
theorem kvT_98 : KV cN6 98 yR_at bR_at 2 (some .int) 1 := ⟨kcR_at, mw 329 (by decide +kernel) rfl, mw 330 (by decide +kernel) rfl, mw 331 (by decide +kernel) rfl⟩
theorem kvT_102 : KS cN6 102 yT_isDigit bT_isDigit 1 (some .boolean) 1 := ⟨kcT_isDigit, mw 333 (by decide +kernel) rfl, mw 334 (by decide +kernel) rfl⟩
theorem kvT_106 : KS cN6 106 yK_min bK_min 2 (some .int) 2 := ⟨kcK_min, mw 336 (by decide +kernel) rfl, mw 337 (by decide +kernel) rfl⟩
theorem kvL_9 : KI R_law 9 yX_init bX_init 1 none 0 := ⟨kcX_init, mw 60 (by decide +kernel) rfl, rfl, mw 61 (by decide +kernel) rfl⟩
theorem kvL_12 : KI R_law 12 yZ_init bZ_init 1 none 0 := ⟨kcZ_init, mw 740 (by decide +kernel) rfl, rfl, mw 741 (by decide +kernel) rfl⟩
theorem kvL_13 : KV R_law 13 yX_type bX_type 2 (some .int) 1 := ⟨kcX_type, mw 282 (by decide +kernel) rfl, mw 283 (by decide +kernel) rfl, mw 284 (by decide +kernel) rfl⟩
theorem kvL_17 : KV R_law 17 yZ_type bZ_type 2 (some .int) 1 := ⟨kcZ_type, mw 841 (by decide +kernel) rfl, mw 842 (by decide +kernel) rfl, mw 843 (by decide +kernel) rfl⟩
theorem kvL_18 : KV R_law 18 yX_clear bX_clear 2 (some .int) 0 := ⟨kcX_clear, mw 303 (by decide +kernel) rfl, mw 304 (by decide +kernel) rfl, mw 305 (by decide +kernel) rfl⟩
theorem kvL_22 : KV R_law 22 yZ_clear bZ_clear 2 (some .int) 0 := ⟨kcZ_clear, mw 848 (by decide +kernel) rfl, mw 849 (by decide +kernel) rfl, mw 850 (by decide +kernel) rfl⟩
theorem kvL_23 : KV R_law 23 yX_ladder bX_ladder 3 (some .int) 0 := ⟨kcX_ladder, mw 311 (by decide +kernel) rfl, mw 312 (by decide +kernel) rfl, mw 313 (by decide +kernel) rfl⟩
theorem kvL_26 : KV R_law 26 yZ_ladder bZ_ladder 3 (some .int) 0 := ⟨kcZ_ladder, mw 852 (by decide +kernel) rfl, mw 853 (by decide +kernel) rfl, mw 854 (by decide +kernel) rfl⟩
theorem kvL_27 : KV R_law 27 yX_stretch bX_stretch 3 (some .int) 2 := ⟨kcX_stretch, mw 396 (by decide +kernel) rfl, mw 397 (by decide +kernel) rfl, mw 398 (by decide +kernel) rfl⟩
theorem kvL_31 : KV R_law 31 yZ_stretch bZ_stretch 3 (some .int) 2 := ⟨kcZ_stretch, mw 887 (by decide +kernel) rfl, mw 888 (by decide +kernel) rfl, mw 889 (by decide +kernel) rfl⟩
theorem kvL_32 : KV R_law 32 yX_traveller bX_traveller 3 (some .int) 2 := ⟨kcX_traveller, mw 411 (by decide +kernel) rfl, mw 412 (by decide +kernel) rfl, mw 413 (by decide +kernel) rfl⟩
theorem kvL_35 : KV R_law 35 yZ_traveller bZ_traveller 3 (some .int) 2 := ⟨kcZ_traveller, mw 900 (by decide +kernel) rfl, mw 901 (by decide +kernel) rfl, mw 902 (by decide +kernel) rfl⟩
theorem kvL_36 : KV R_law 36 yX_wear bX_wear 3 (some .int) 2 := ⟨kcX_wear, mw 419 (by decide +kernel) rfl, mw 420 (by decide +kernel) rfl, mw 421 (by decide +kernel) rfl⟩
theorem kvL_39 : KV R_law 39 yZ_wear bZ_wear 3 (some .int) 2 := ⟨kcZ_wear, mw 908 (by decide +kernel) rfl, mw 909 (by decide +kernel) rfl, mw 910 (by decide +kernel) rfl⟩
theorem kvL_40 : KV R_law 40 yX_thing bX_thing 2 (some .int) 1 := ⟨kcX_thing, mw 427 (by decide +kernel) rfl, mw 428 (by decide +kernel) rfl, mw 429 (by decide +kernel) rfl⟩
theorem kvL_43 : KV R_law 43 yZ_thing bZ_thing 2 (some .int) 1 := ⟨kcZ_thing, mw 916 (by decide +kernel) rfl, mw 917 (by decide +kernel) rfl, mw 918 (by decide +kernel) rfl⟩
theorem kvL_44 : KV R_law 44 yX_now bX_now 2 (some .int) 1 := ⟨kcX_now, mw 431 (by decide +kernel) rfl, mw 432 (by decide +kernel) rfl, mw 433 (by decide +kernel) rfl⟩
theorem kvL_47 : KV R_law 47 yZ_now bZ_now 2 (some .int) 1 := ⟨kcZ_now, mw 920 (by decide +kernel) rfl, mw 921 (by decide +kernel) rfl, mw 922 (by decide +kernel) rfl⟩
theorem kvL_48 : KV R_law 48 yX_goes bX_goes 4 (some .int) 2 := ⟨kcX_goes, mw 464 (by decide +kernel) rfl, mw 465 (by decide +kernel) rfl, mw 466 (by decide +kernel) rfl⟩
theorem kvL_51 : KV R_law 51 yZ_goes bZ_goes 9 (some .int) 2 := ⟨kcZ_goes, mw 943 (by decide +kernel) rfl, mw 944 (by decide +kernel) rfl, mw 945 (by decide +kernel) rfl⟩
theorem kvL_52 : KV R_law 52 yX_stays bX_stays 2 (some .int) 1 := ⟨kcX_stays, mw 499 (by decide +kernel) rfl, mw 500 (by decide +kernel) rfl, mw 501 (by decide +kernel) rfl⟩
theorem kvL_55 : KV R_law 55 yZ_stays bZ_stays 2 (some .int) 1 := ⟨kcZ_stays, mw 955 (by decide +kernel) rfl, mw 956 (by decide +kernel) rfl, mw 957 (by decide +kernel) rfl⟩
theorem kvL_56 : KV R_law 56 yX_loses bX_loses 2 (some .int) 1 := ⟨kcX_loses, mw 503 (by decide +kernel) rfl, mw 504 (by decide +kernel) rfl, mw 505 (by decide +kernel) rfl⟩
theorem kvL_59 : KV R_law 59 yZ_loses bZ_loses 2 (some .int) 1 := ⟨kcZ_loses, mw 959 (by decide +kernel) rfl, mw 960 (by decide +kernel) rfl, mw 961 (by decide +kernel) rfl⟩
theorem kvL_60 : KV R_law 60 yX_picks bX_picks 3 (some .int) 1 := ⟨kcX_picks, mw 507 (by decide +kernel) rfl, mw 508 (by decide +kernel) rfl, mw 509 (by decide +kernel) rfl⟩
theorem kvL_63 : KV R_law 63 yZ_picks bZ_picks 4 (some .int) 1 := ⟨kcZ_picks, mw 963 (by decide +kernel) rfl, mw 964 (by decide +kernel) rfl, mw 965 (by decide +kernel) rfl⟩
theorem kvL_64 : KV R_law 64 yX_undo bX_undo 1 (some .int) 0 := ⟨kcX_undo, mw 517 (by decide +kernel) rfl, mw 518 (by decide +kernel) rfl, mw 519 (by decide +kernel) rfl⟩
theorem kvL_67 : KV R_law 67 yZ_undo bZ_undo 2 (some .int) 0 := ⟨kcZ_undo, mw 971 (by decide +kernel) rfl, mw 972 (by decide +kernel) rfl, mw 973 (by decide +kernel) rfl⟩
theorem kvL_68 : KV R_law 68 yX_altitude bX_altitude 2 (some .int) 1 := ⟨kcX_altitude, mw 532 (by decide +kernel) rfl, mw 533 (by decide +kernel) rfl, mw 534 (by decide +kernel) rfl⟩
theorem kvL_71 : KV R_law 71 yZ_altitude bZ_altitude 2 (some .int) 1 := ⟨kcZ_altitude, mw 975 (by decide +kernel) rfl, mw 976 (by decide +kernel) rfl, mw 977 (by decide +kernel) rfl⟩
theorem kvL_72 : KV R_law 72 yX_step bX_step 2 (some .int) 1 := ⟨kcX_step, mw 541 (by decide +kernel) rfl, mw 542 (by decide +kernel) rfl, mw 543 (by decide +kernel) rfl⟩
theorem kvL_75 : KV R_law 75 yZ_step bZ_step 5 (some .int) 1 := ⟨kcZ_step, mw 983 (by decide +kernel) rfl, mw 984 (by decide +kernel) rfl, mw 985 (by decide +kernel) rfl⟩
theorem kvL_76 : KV R_law 76 yX_hands bX_hands 3 (some .int) 1 := ⟨kcX_hands, mw 550 (by decide +kernel) rfl, mw 551 (by decide +kernel) rfl, mw 552 (by decide +kernel) rfl⟩
theorem kvL_79 : KV R_law 79 yZ_hands bZ_hands 4 (some .int) 1 := ⟨kcZ_hands, mw 988 (by decide +kernel) rfl, mw 989 (by decide +kernel) rfl, mw 990 (by decide +kernel) rfl⟩
theorem kvL_80 : KV R_law 80 yX_sees bX_sees 3 (some .int) 2 := ⟨kcX_sees, mw 554 (by decide +kernel) rfl, mw 555 (by decide +kernel) rfl, mw 556 (by decide +kernel) rfl⟩
theorem kvL_83 : KV R_law 83 yZ_sees bZ_sees 3 (some .int) 2 := ⟨kcZ_sees, mw 992 (by decide +kernel) rfl, mw 993 (by decide +kernel) rfl, mw 994 (by decide +kernel) rfl⟩
theorem kvL_84 : KV R_law 84 yX_can bX_can 3 (some .int) 1 := ⟨kcX_can, mw 567 (by decide +kernel) rfl, mw 568 (by decide +kernel) rfl, mw 569 (by decide +kernel) rfl⟩
theorem kvL_87 : KV R_law 87 yZ_can bZ_can 7 (some .int) 1 := ⟨kcZ_can, mw 996 (by decide +kernel) rfl, mw 997 (by decide +kernel) rfl, mw 998 (by decide +kernel) rfl⟩
theorem kvL_88 : KV R_law 88 yX_measures bX_measures 4 (some .int) 3 := ⟨kcX_measures, mw 604 (by decide +kernel) rfl, mw 605 (by decide +kernel) rfl, mw 606 (by decide +kernel) rfl⟩
theorem kvL_92 : KV R_law 92 yZ_measures bZ_measures 4 (some .int) 3 := ⟨kcZ_measures, mw 1010 (by decide +kernel) rfl, mw 1011 (by decide +kernel) rfl, mw 1012 (by decide +kernel) rfl⟩
theorem kvL_93 : KV R_law 93 yX_agree bX_agree 2 (some .int) 1 := ⟨kcX_agree, mw 618 (by decide +kernel) rfl, mw 619 (by decide +kernel) rfl, mw 620 (by decide +kernel) rfl⟩
theorem kvL_96 : KV R_law 96 yZ_agree bZ_agree 4 (some .int) 1 := ⟨kcZ_agree, mw 1015 (by decide +kernel) rfl, mw 1016 (by decide +kernel) rfl, mw 1017 (by decide +kernel) rfl⟩
theorem kvL_97 : KV R_law 97 yX_forget bX_forget 2 (some .int) 0 := ⟨kcX_forget, mw 644 (by decide +kernel) rfl, mw 645 (by decide +kernel) rfl, mw 646 (by decide +kernel) rfl⟩
theorem kvL_100 : KV R_law 100 yZ_forget bZ_forget 2 (some .int) 0 := ⟨kcZ_forget, mw 1031 (by decide +kernel) rfl, mw 1032 (by decide +kernel) rfl, mw 1033 (by decide +kernel) rfl⟩
theorem kvL_101 : KV R_law 101 yX_whose bX_whose 4 (some .int) 1 := ⟨kcX_whose, mw 648 (by decide +kernel) rfl, mw 649 (by decide +kernel) rfl, mw 650 (by decide +kernel) rfl⟩
theorem kvL_104 : KV R_law 104 yZ_whose bZ_whose 6 (some .int) 1 := ⟨kcZ_whose, mw 1035 (by decide +kernel) rfl, mw 1036 (by decide +kernel) rfl, mw 1037 (by decide +kernel) rfl⟩
theorem kvL_105 : KV R_law 105 yX_odds bX_odds 8 (some .int) 3 := ⟨kcX_odds, mw 655 (by decide +kernel) rfl, mw 656 (by decide +kernel) rfl, mw 657 (by decide +kernel) rfl⟩
theorem kvL_108 : KV R_law 108 yZ_odds bZ_odds 8 (some .int) 3 := ⟨kcZ_odds, mw 1046 (by decide +kernel) rfl, mw 1047 (by decide +kernel) rfl, mw 1048 (by decide +kernel) rfl⟩
theorem kvL_109 : KV R_law 109 yX_rate bX_rate 3 (some .int) 2 := ⟨kcX_rate, mw 672 (by decide +kernel) rfl, mw 673 (by decide +kernel) rfl, mw 674 (by decide +kernel) rfl⟩
theorem kvL_112 : KV R_law 112 yZ_rate bZ_rate 6 (some .int) 2 := ⟨kcZ_rate, mw 1056 (by decide +kernel) rfl, mw 1057 (by decide +kernel) rfl, mw 1058 (by decide +kernel) rfl⟩
theorem kvL_113 : KV R_law 113 yX_keep bX_keep 2 (some .int) 1 := ⟨kcX_keep, mw 709 (by decide +kernel) rfl, mw 710 (by decide +kernel) rfl, mw 711 (by decide +kernel) rfl⟩
theorem kvL_116 : KV R_law 116 yZ_keep bZ_keep 3 (some .int) 1 := ⟨kcZ_keep, mw 1069 (by decide +kernel) rfl, mw 1070 (by decide +kernel) rfl, mw 1071 (by decide +kernel) rfl⟩
theorem kvL_117 : KV R_law 117 yX_back bX_back 2 (some .int) 1 := ⟨kcX_back, mw 726 (by decide +kernel) rfl, mw 727 (by decide +kernel) rfl, mw 728 (by decide +kernel) rfl⟩
theorem kvL_120 : KV R_law 120 yZ_back bZ_back 3 (some .int) 1 := ⟨kcZ_back, mw 1073 (by decide +kernel) rfl, mw 1074 (by decide +kernel) rfl, mw 1075 (by decide +kernel) rfl⟩
theorem kvL_121 : KV R_law 121 yX_count bX_count 2 (some .int) 1 := ⟨kcX_count, mw 730 (by decide +kernel) rfl, mw 731 (by decide +kernel) rfl, mw 732 (by decide +kernel) rfl⟩
theorem kvL_124 : KV R_law 124 yZ_count bZ_count 2 (some .int) 1 := ⟨kcZ_count, mw 1077 (by decide +kernel) rfl, mw 1078 (by decide +kernel) rfl, mw 1079 (by decide +kernel) rfl⟩
theorem kvL_125 : KV R_law 125 yX_trace bX_trace 1 (some .long) 0 := ⟨kcX_trace, mw 734 (by decide +kernel) rfl, mw 735 (by decide +kernel) rfl, mw 736 (by decide +kernel) rfl⟩
theorem kvL_129 : KV R_law 129 yZ_trace bZ_trace 1 (some .long) 0 := ⟨kcZ_trace, mw 1081 (by decide +kernel) rfl, mw 1082 (by decide +kernel) rfl, mw 1083 (by decide +kernel) rfl⟩
theorem oiZ_1 : OI cN8 1 := ⟨mw 743 (by decide +kernel) rfl, mw 64 (by decide +kernel) rfl, mw 65 (by decide +kernel) rfl⟩
theorem kvZ_62 : KV cN8 62 yZ_begins bZ_begins 1 none 0 := ⟨kcZ_begins, mw 744 (by decide +kernel) rfl, mw 746 (by decide +kernel) rfl, mw 20 (by decide +kernel) rfl⟩
theorem kvZ_65 : KV cN8 65 yZ_settles bZ_settles 2 none 0 := ⟨kcZ_settles, mw 748 (by decide +kernel) rfl, mw 750 (by decide +kernel) rfl, mw 21 (by decide +kernel) rfl⟩
theorem kvZ_72 : KS cN8 72 yZ_in bZ_in 3 (some .boolean) 3 := ⟨kcZ_in, mw 845 (by decide +kernel) rfl, mw 846 (by decide +kernel) rfl⟩
theorem kvZ_82 : KV cN8 82 yZ_letterAt bZ_letterAt 2 (some .int) 1 := ⟨kcZ_letterAt, mw 860 (by decide +kernel) rfl, mw 862 (by decide +kernel) rfl, mw 23 (by decide +kernel) rfl⟩
theorem kvZ_95 : KS cN8 95 yZ_isLetter bZ_isLetter 1 (some .boolean) 1 := ⟨kcZ_isLetter, mw 864 (by decide +kernel) rfl, mw 865 (by decide +kernel) rfl⟩
theorem kvZ_102 : KV cN8 102 yZ_isWell bZ_isWell 1 (some .boolean) 0 := ⟨kcZ_isWell, mw 867 (by decide +kernel) rfl, mw 869 (by decide +kernel) rfl, mw 24 (by decide +kernel) rfl⟩
theorem kvZ_106 : KV cN8 106 yZ_advances bZ_advances 2 none 0 := ⟨kcZ_advances, mw 856 (by decide +kernel) rfl, mw 858 (by decide +kernel) rfl, mw 22 (by decide +kernel) rfl⟩
theorem kvZ_109 : KV cN8 109 yZ_takes bZ_takes 3 (some .int) 1 := ⟨kcZ_takes, mw 875 (by decide +kernel) rfl, mw 877 (by decide +kernel) rfl, mw 26 (by decide +kernel) rfl⟩
theorem kvZ_116 : KV cN8 116 yZ_number bZ_number 3 (some .int) 2 := ⟨kcZ_number, mw 883 (by decide +kernel) rfl, mw 885 (by decide +kernel) rfl, mw 28 (by decide +kernel) rfl⟩
theorem kvZ_120 : KV cN8 120 yZ_mayBegin bZ_mayBegin 1 (some .boolean) 0 := ⟨kcZ_mayBegin, mw 871 (by decide +kernel) rfl, mw 873 (by decide +kernel) rfl, mw 25 (by decide +kernel) rfl⟩
theorem kvZ_123 : KV cN8 123 yZ_readsItem bZ_readsItem 3 none 1 := ⟨kcZ_readsItem, mw 879 (by decide +kernel) rfl, mw 881 (by decide +kernel) rfl, mw 27 (by decide +kernel) rfl⟩
theorem kvZ_136 : KV cN8 136 yZ_markOf bZ_markOf 4 (some .int) 1 := ⟨kcZ_markOf, mw 896 (by decide +kernel) rfl, mw 898 (by decide +kernel) rfl, mw 30 (by decide +kernel) rfl⟩
theorem kvZ_139 : KV cN8 139 yZ_isStretch bZ_isStretch 2 (some .boolean) 1 := ⟨kcZ_isStretch, mw 891 (by decide +kernel) rfl, mw 893 (by decide +kernel) rfl, mw 29 (by decide +kernel) rfl⟩
theorem kvZ_143 : KV cN8 143 yZ_isTraveller bZ_isTraveller 2 (some .boolean) 1 := ⟨kcZ_isTraveller, mw 904 (by decide +kernel) rfl, mw 906 (by decide +kernel) rfl, mw 31 (by decide +kernel) rfl⟩
theorem kvZ_146 : KV cN8 146 yZ_top bZ_top 1 (some .int) 0 := ⟨kcZ_top, mw 912 (by decide +kernel) rfl, mw 914 (by decide +kernel) rfl, mw 32 (by decide +kernel) rfl⟩
theorem kvZ_150 : KV cN8 150 yZ_heightAt bZ_heightAt 5 (some .int) 1 := ⟨kcZ_heightAt, mw 935 (by decide +kernel) rfl, mw 937 (by decide +kernel) rfl, mw 35 (by decide +kernel) rfl⟩
theorem kvZ_153 : KS cN8 153 yZ_ones bZ_ones 3 (some .int) 1 := ⟨kcZ_ones, mw 924 (by decide +kernel) rfl, mw 925 (by decide +kernel) rfl⟩
theorem kvZ_156 : KV cN8 156 yZ_allWear bZ_allWear 3 (some .int) 0 := ⟨kcZ_allWear, mw 927 (by decide +kernel) rfl, mw 929 (by decide +kernel) rfl, mw 33 (by decide +kernel) rfl⟩
theorem kvZ_159 : KV cN8 159 yZ_steepest bZ_steepest 3 (some .int) 0 := ⟨kcZ_steepest, mw 931 (by decide +kernel) rfl, mw 933 (by decide +kernel) rfl, mw 34 (by decide +kernel) rfl⟩
theorem kvZ_162 : KV cN8 162 yZ_daysBy bZ_daysBy 4 (some .int) 1 := ⟨kcZ_daysBy, mw 939 (by decide +kernel) rfl, mw 941 (by decide +kernel) rfl, mw 36 (by decide +kernel) rfl⟩
theorem kvZ_165 : KV cN8 165 yZ_isStaying bZ_isStaying 2 (some .boolean) 1 := ⟨kcZ_isStaying, mw 947 (by decide +kernel) rfl, mw 949 (by decide +kernel) rfl, mw 37 (by decide +kernel) rfl⟩
theorem kvZ_168 : KV cN8 168 yZ_notes bZ_notes 2 none 0 := ⟨kcZ_notes, mw 951 (by decide +kernel) rfl, mw 953 (by decide +kernel) rfl, mw 38 (by decide +kernel) rfl⟩
theorem kvZ_171 : KV cN8 171 yZ_oldestAt bZ_oldestAt 4 (some .int) 1 := ⟨kcZ_oldestAt, mw 967 (by decide +kernel) rfl, mw 969 (by decide +kernel) rfl, mw 39 (by decide +kernel) rfl⟩
theorem kvZ_174 : KV cN8 174 yZ_altitudeOf bZ_altitudeOf 4 (some .int) 1 := ⟨kcZ_altitudeOf, mw 979 (by decide +kernel) rfl, mw 981 (by decide +kernel) rfl, mw 40 (by decide +kernel) rfl⟩
theorem kvZ_178 : KS cN8 178 yZ_tens bZ_tens 3 (some .int) 1 := ⟨kcZ_tens, mw 1000 (by decide +kernel) rfl, mw 1001 (by decide +kernel) rfl⟩
theorem kvZ_181 : KV cN8 181 yZ_isAsSeen bZ_isAsSeen 6 (some .boolean) 1 := ⟨kcZ_isAsSeen, mw 1003 (by decide +kernel) rfl, mw 1005 (by decide +kernel) rfl, mw 41 (by decide +kernel) rfl⟩
theorem kvZ_184 : KS cN8 184 yZ_goings bZ_goings 1 (some .int) 1 := ⟨kcZ_goings, mw 1007 (by decide +kernel) rfl, mw 1008 (by decide +kernel) rfl⟩
theorem kvZ_189 : KV cN8 189 yZ_hangs bZ_hangs 8 (some .boolean) 1 := ⟨kcZ_hangs, mw 1024 (by decide +kernel) rfl, mw 1026 (by decide +kernel) rfl, mw 43 (by decide +kernel) rfl⟩
theorem kvZ_192 : KS cN8 192 yZ_apart bZ_apart 2 (some .int) 2 := ⟨kcZ_apart, mw 1028 (by decide +kernel) rfl, mw 1029 (by decide +kernel) rfl⟩
theorem kvZ_195 : KV cN8 195 yZ_leastChanges bZ_leastChanges 5 (some .int) 0 := ⟨kcZ_leastChanges, mw 1019 (by decide +kernel) rfl, mw 1021 (by decide +kernel) rfl, mw 42 (by decide +kernel) rfl⟩
theorem kvZ_198 : KS cN8 198 yZ_ownerOf bZ_ownerOf 2 (some .int) 2 := ⟨kcZ_ownerOf, mw 1043 (by decide +kernel) rfl, mw 1044 (by decide +kernel) rfl⟩
theorem kvZ_201 : KV cN8 201 yZ_canOwn bZ_canOwn 6 (some .boolean) 1 := ⟨kcZ_canOwn, mw 1039 (by decide +kernel) rfl, mw 1041 (by decide +kernel) rfl, mw 44 (by decide +kernel) rfl⟩
theorem kvZ_204 : KS cN8 204 yZ_power bZ_power 4 (some .int) 2 := ⟨kcZ_power, mw 1050 (by decide +kernel) rfl, mw 1051 (by decide +kernel) rfl⟩
theorem kvZ_207 : KS cN8 207 yZ_gcd bZ_gcd 5 (some .int) 2 := ⟨kcZ_gcd, mw 1053 (by decide +kernel) rfl, mw 1054 (by decide +kernel) rfl⟩
theorem kvZ_210 : KV cN8 210 yZ_thingsOn bZ_thingsOn 4 (some .int) 1 := ⟨kcZ_thingsOn, mw 1060 (by decide +kernel) rfl, mw 1062 (by decide +kernel) rfl, mw 45 (by decide +kernel) rfl⟩
theorem fgX_12 : FL cN7 12 7 0 := ⟨cN7, fT7, 11, rfl, by decide, fI7, mw 248 (by decide +kernel) rfl⟩
theorem fpX_12 : FP cN7 12 7 0 true (.object "LadderSurvey$Text") := ⟨cN7, fT7, 11, fY7, rfl, by decide, fI7, mw 248 (by decide +kernel) rfl, fO7, fN7, rfl, rfl, fun _ => rfl⟩
theorem fgX_19 : FL cN7 19 7 1 := ⟨cN7, fT7, 11, rfl, by decide, fI7, mw 249 (by decide +kernel) rfl⟩
theorem fpX_19 : FP cN7 19 7 1 false (.object "LadderSurvey$Plan") := ⟨cN7, fT7, 11, fY7, rfl, by decide, fI7, mw 249 (by decide +kernel) rfl, fO7, fN7, rfl, rfl, fun _ => rfl⟩
theorem fgX_23 : FL cN7 23 7 2 := ⟨cN7, fT7, 11, rfl, by decide, fI7, mw 250 (by decide +kernel) rfl⟩
theorem fpX_23 : FP cN7 23 7 2 false (.object "LadderSurvey$Plan") := ⟨cN7, fT7, 11, fY7, rfl, by decide, fI7, mw 250 (by decide +kernel) rfl, fO7, fN7, rfl, rfl, fun _ => rfl⟩
theorem fgX_29 : FL cN7 29 7 3 := ⟨cN7, fT7, 11, rfl, by decide, fI7, mw 251 (by decide +kernel) rfl⟩
theorem fpX_29 : FP cN7 29 7 3 true (.object "LadderSurvey$Scene") := ⟨cN7, fT7, 11, fY7, rfl, by decide, fI7, mw 251 (by decide +kernel) rfl, fO7, fN7, rfl, rfl, fun _ => rfl⟩
theorem fgX_33 : FL cN7 33 7 4 := ⟨cN7, fT7, 11, rfl, by decide, fI7, mw 252 (by decide +kernel) rfl⟩
theorem fpX_33 : FP cN7 33 7 4 true (.object "LadderSurvey$Scene") := ⟨cN7, fT7, 11, fY7, rfl, by decide, fI7, mw 252 (by decide +kernel) rfl, fO7, fN7, rfl, rfl, fun _ => rfl⟩
theorem fgX_36 : FL cN7 36 7 5 := ⟨cN7, fT7, 11, rfl, by decide, fI7, mw 253 (by decide +kernel) rfl⟩
theorem fpX_36 : FP cN7 36 7 5 true (.object "LadderSurvey$Scene") := ⟨cN7, fT7, 11, fY7, rfl, by decide, fI7, mw 253 (by decide +kernel) rfl, fO7, fN7, rfl, rfl, fun _ => rfl⟩
theorem fgX_44 : FL cN7 44 7 6 := ⟨cN7, fT7, 11, rfl, by decide, fI7, mw 254 (by decide +kernel) rfl⟩
theorem fpX_44 : FP cN7 44 7 6 true (.object "LadderSurvey$Row") := ⟨cN7, fT7, 11, fY7, rfl, by decide, fI7, mw 254 (by decide +kernel) rfl, fO7, fN7, rfl, rfl, fun _ => rfl⟩
theorem fgX_51 : FL cN7 51 7 7 := ⟨cN7, fT7, 11, rfl, by decide, fI7, mw 255 (by decide +kernel) rfl⟩
theorem fpX_51 : FP cN7 51 7 7 true (.object "LadderSurvey$Deeds") := ⟨cN7, fT7, 11, fY7, rfl, by decide, fI7, mw 255 (by decide +kernel) rfl, fO7, fN7, rfl, rfl, fun _ => rfl⟩
theorem fgX_58 : FL cN7 58 7 8 := ⟨cN7, fT7, 11, rfl, by decide, fI7, mw 256 (by decide +kernel) rfl⟩
theorem fpX_58 : FP cN7 58 7 8 true (.object "LadderSurvey$Seen") := ⟨cN7, fT7, 11, fY7, rfl, by decide, fI7, mw 256 (by decide +kernel) rfl, fO7, fN7, rfl, rfl, fun _ => rfl⟩
theorem fgX_65 : FL cN7 65 7 9 := ⟨cN7, fT7, 11, rfl, by decide, fI7, mw 257 (by decide +kernel) rfl⟩
theorem fpX_65 : FP cN7 65 7 9 true (.object "LadderSurvey$Measures") := ⟨cN7, fT7, 11, fY7, rfl, by decide, fI7, mw 257 (by decide +kernel) rfl, fO7, fN7, rfl, rfl, fun _ => rfl⟩
theorem fgX_69 : FL cN7 69 6 0 := ⟨cN6, fT6, 7, rfl, by decide, fI6, mw 90 (by decide +kernel) rfl⟩
theorem fgX_101 : FL cN7 101 2 0 := ⟨cN2, fT2, 8, rfl, by decide, fI2, mw 122 (by decide +kernel) rfl⟩
theorem fgX_108 : FL cN7 108 2 1 := ⟨cN2, fT2, 8, rfl, by decide, fI2, mw 124 (by decide +kernel) rfl⟩
theorem fgX_111 : FL cN7 111 2 2 := ⟨cN2, fT2, 8, rfl, by decide, fI2, mw 126 (by decide +kernel) rfl⟩
theorem fgX_120 : FL cN7 120 2 5 := ⟨cN2, fT2, 8, rfl, by decide, fI2, mw 131 (by decide +kernel) rfl⟩
theorem fgX_123 : FL cN7 123 4 0 := ⟨cN4, fT4, 5, rfl, by decide, fI4, mw 165 (by decide +kernel) rfl⟩
theorem fgX_126 : FL cN7 126 4 1 := ⟨cN4, fT4, 5, rfl, by decide, fI4, mw 168 (by decide +kernel) rfl⟩
theorem fgX_132 : FL cN7 132 4 2 := ⟨cN4, fT4, 5, rfl, by decide, fI4, mw 170 (by decide +kernel) rfl⟩
theorem fgX_135 : FL cN7 135 4 3 := ⟨cN4, fT4, 5, rfl, by decide, fI4, mw 172 (by decide +kernel) rfl⟩
theorem fgX_138 : FL cN7 138 4 4 := ⟨cN4, fT4, 5, rfl, by decide, fI4, mw 175 (by decide +kernel) rfl⟩
theorem fgX_153 : FL cN7 153 2 7 := ⟨cN2, fT2, 8, rfl, by decide, fI2, mw 137 (by decide +kernel) rfl⟩
theorem fgX_199 : FL cN7 199 5 1 := ⟨cN5, fT5, 3, rfl, by decide, fI5, mw 217 (by decide +kernel) rfl⟩
theorem fgX_225 : FL cN7 225 1 2 := ⟨cN1, fT1, 4, rfl, by decide, fI1, mw 237 (by decide +kernel) rfl⟩
theorem fgX_273 : FL cN7 273 2 6 := ⟨cN2, fT2, 8, rfl, by decide, fI2, mw 134 (by decide +kernel) rfl⟩
theorem fgX_276 : FL cN7 276 7 10 := ⟨cN7, fT7, 11, rfl, by decide, fI7, mw 258 (by decide +kernel) rfl⟩
theorem fpX_276 : FP cN7 276 7 10 false .long := ⟨cN7, fT7, 11, fY7, rfl, by decide, fI7, mw 258 (by decide +kernel) rfl, fO7, fN7, rfl, rfl, fun _ => rfl⟩
theorem fgD_14 : FL cN0 14 0 0 := ⟨cN0, fT0, 3, rfl, by decide, fI0, mw 197 (by decide +kernel) rfl⟩
theorem fpD_14 : FP cN0 14 0 0 true (.object "LadderSurvey$Row") := ⟨cN0, fT0, 3, fY0, rfl, by decide, fI0, mw 197 (by decide +kernel) rfl, fO0, fN0, rfl, rfl, fun _ => rfl⟩
theorem fgD_20 : FL cN0 20 0 1 := ⟨cN0, fT0, 3, rfl, by decide, fI0, mw 198 (by decide +kernel) rfl⟩
theorem fpD_20 : FP cN0 20 0 1 true (.object "LadderSurvey$Row") := ⟨cN0, fT0, 3, fY0, rfl, by decide, fI0, mw 198 (by decide +kernel) rfl, fO0, fN0, rfl, rfl, fun _ => rfl⟩
theorem fgD_23 : FL cN0 23 0 2 := ⟨cN0, fT0, 3, rfl, by decide, fI0, mw 199 (by decide +kernel) rfl⟩
theorem fpD_23 : FP cN0 23 0 2 true (.object "LadderSurvey$Row") := ⟨cN0, fT0, 3, fY0, rfl, by decide, fI0, mw 199 (by decide +kernel) rfl, fO0, fN0, rfl, rfl, fun _ => rfl⟩
theorem fgD_47 : FL cN0 47 4 0 := ⟨cN4, fT4, 5, rfl, by decide, fI4, mw 164 (by decide +kernel) rfl⟩
theorem fgD_60 : FL cN0 60 4 1 := ⟨cN4, fT4, 5, rfl, by decide, fI4, mw 167 (by decide +kernel) rfl⟩
theorem fgD_63 : FL cN0 63 4 4 := ⟨cN4, fT4, 5, rfl, by decide, fI4, mw 174 (by decide +kernel) rfl⟩
theorem fgM_14 : FL cN1 14 1 0 := ⟨cN1, fT1, 4, rfl, by decide, fI1, mw 234 (by decide +kernel) rfl⟩
theorem fpM_14 : FP cN1 14 1 0 true (.object "LadderSurvey$Row") := ⟨cN1, fT1, 4, fY1, rfl, by decide, fI1, mw 234 (by decide +kernel) rfl, fO1, fN1, rfl, rfl, fun _ => rfl⟩
theorem fgM_20 : FL cN1 20 1 1 := ⟨cN1, fT1, 4, rfl, by decide, fI1, mw 235 (by decide +kernel) rfl⟩
theorem fpM_20 : FP cN1 20 1 1 true (.object "LadderSurvey$Row") := ⟨cN1, fT1, 4, fY1, rfl, by decide, fI1, mw 235 (by decide +kernel) rfl, fO1, fN1, rfl, rfl, fun _ => rfl⟩
theorem fgM_23 : FL cN1 23 1 2 := ⟨cN1, fT1, 4, rfl, by decide, fI1, mw 236 (by decide +kernel) rfl⟩
theorem fpM_23 : FP cN1 23 1 2 true (.object "LadderSurvey$Row") := ⟨cN1, fT1, 4, fY1, rfl, by decide, fI1, mw 236 (by decide +kernel) rfl, fO1, fN1, rfl, rfl, fun _ => rfl⟩
theorem fgM_26 : FL cN1 26 1 3 := ⟨cN1, fT1, 4, rfl, by decide, fI1, mw 238 (by decide +kernel) rfl⟩
theorem fpM_26 : FP cN1 26 1 3 true (.object "LadderSurvey$Row") := ⟨cN1, fT1, 4, fY1, rfl, by decide, fI1, mw 238 (by decide +kernel) rfl, fO1, fN1, rfl, rfl, fun _ => rfl⟩
theorem fgP_14 : FL cN2 14 2 0 := ⟨cN2, fT2, 8, rfl, by decide, fI2, mw 120 (by decide +kernel) rfl⟩
theorem fpP_14 : FP cN2 14 2 0 true (.object "LadderSurvey$Row") := ⟨cN2, fT2, 8, fY2, rfl, by decide, fI2, mw 120 (by decide +kernel) rfl, fO2, fN2, rfl, rfl, fun _ => rfl⟩
theorem fgP_20 : FL cN2 20 2 1 := ⟨cN2, fT2, 8, rfl, by decide, fI2, mw 123 (by decide +kernel) rfl⟩
theorem fpP_20 : FP cN2 20 2 1 true (.object "LadderSurvey$Row") := ⟨cN2, fT2, 8, fY2, rfl, by decide, fI2, mw 123 (by decide +kernel) rfl, fO2, fN2, rfl, rfl, fun _ => rfl⟩
theorem fgP_23 : FL cN2 23 2 2 := ⟨cN2, fT2, 8, rfl, by decide, fI2, mw 125 (by decide +kernel) rfl⟩
theorem fpP_23 : FP cN2 23 2 2 true (.object "LadderSurvey$Row") := ⟨cN2, fT2, 8, fY2, rfl, by decide, fI2, mw 125 (by decide +kernel) rfl, fO2, fN2, rfl, rfl, fun _ => rfl⟩
theorem fgP_26 : FL cN2 26 2 3 := ⟨cN2, fT2, 8, rfl, by decide, fI2, mw 127 (by decide +kernel) rfl⟩
theorem fpP_26 : FP cN2 26 2 3 true (.object "LadderSurvey$Row") := ⟨cN2, fT2, 8, fY2, rfl, by decide, fI2, mw 127 (by decide +kernel) rfl, fO2, fN2, rfl, rfl, fun _ => rfl⟩
theorem fgP_29 : FL cN2 29 2 4 := ⟨cN2, fT2, 8, rfl, by decide, fI2, mw 128 (by decide +kernel) rfl⟩
theorem fpP_29 : FP cN2 29 2 4 true (.object "LadderSurvey$Row") := ⟨cN2, fT2, 8, fY2, rfl, by decide, fI2, mw 128 (by decide +kernel) rfl, fO2, fN2, rfl, rfl, fun _ => rfl⟩
theorem fgP_32 : FL cN2 32 2 5 := ⟨cN2, fT2, 8, rfl, by decide, fI2, mw 129 (by decide +kernel) rfl⟩
theorem fpP_32 : FP cN2 32 2 5 true (.object "LadderSurvey$Row") := ⟨cN2, fT2, 8, fY2, rfl, by decide, fI2, mw 129 (by decide +kernel) rfl, fO2, fN2, rfl, rfl, fun _ => rfl⟩
theorem fgP_35 : FL cN2 35 2 6 := ⟨cN2, fT2, 8, rfl, by decide, fI2, mw 132 (by decide +kernel) rfl⟩
theorem fpP_35 : FP cN2 35 2 6 false .int := ⟨cN2, fT2, 8, fY2, rfl, by decide, fI2, mw 132 (by decide +kernel) rfl, fO2, fN2, rfl, rfl, fun _ => rfl⟩
theorem fgP_39 : FL cN2 39 2 7 := ⟨cN2, fT2, 8, rfl, by decide, fI2, mw 135 (by decide +kernel) rfl⟩
theorem fpP_39 : FP cN2 39 2 7 false .int := ⟨cN2, fT2, 8, fY2, rfl, by decide, fI2, mw 135 (by decide +kernel) rfl, fO2, fN2, rfl, rfl, fun _ => rfl⟩
theorem fgR_13 : FL cN3 13 3 0 := ⟨cN3, fT3, 2, rfl, by decide, fI3, mw 81 (by decide +kernel) rfl⟩
theorem fpR_13 : FP cN3 13 3 0 true (.array .int) := ⟨cN3, fT3, 2, fY3, rfl, by decide, fI3, mw 81 (by decide +kernel) rfl, fO3, fN3, rfl, rfl, fun _ => rfl⟩
theorem fgR_19 : FL cN3 19 3 1 := ⟨cN3, fT3, 2, rfl, by decide, fI3, mw 82 (by decide +kernel) rfl⟩
theorem fpR_19 : FP cN3 19 3 1 false .int := ⟨cN3, fT3, 2, fY3, rfl, by decide, fI3, mw 82 (by decide +kernel) rfl, fO3, fN3, rfl, rfl, fun _ => rfl⟩
theorem fgS_14 : FL cN4 14 4 0 := ⟨cN4, fT4, 5, rfl, by decide, fI4, mw 163 (by decide +kernel) rfl⟩
theorem fpS_14 : FP cN4 14 4 0 true (.object "LadderSurvey$Row") := ⟨cN4, fT4, 5, fY4, rfl, by decide, fI4, mw 163 (by decide +kernel) rfl, fO4, fN4, rfl, rfl, fun _ => rfl⟩
theorem fgS_20 : FL cN4 20 4 1 := ⟨cN4, fT4, 5, rfl, by decide, fI4, mw 166 (by decide +kernel) rfl⟩
theorem fpS_20 : FP cN4 20 4 1 true (.object "LadderSurvey$Row") := ⟨cN4, fT4, 5, fY4, rfl, by decide, fI4, mw 166 (by decide +kernel) rfl, fO4, fN4, rfl, rfl, fun _ => rfl⟩
theorem fgS_23 : FL cN4 23 4 2 := ⟨cN4, fT4, 5, rfl, by decide, fI4, mw 169 (by decide +kernel) rfl⟩
theorem fpS_23 : FP cN4 23 4 2 true (.object "LadderSurvey$Row") := ⟨cN4, fT4, 5, fY4, rfl, by decide, fI4, mw 169 (by decide +kernel) rfl, fO4, fN4, rfl, rfl, fun _ => rfl⟩
theorem fgS_26 : FL cN4 26 4 3 := ⟨cN4, fT4, 5, rfl, by decide, fI4, mw 171 (by decide +kernel) rfl⟩
theorem fpS_26 : FP cN4 26 4 3 true (.object "LadderSurvey$Row") := ⟨cN4, fT4, 5, fY4, rfl, by decide, fI4, mw 171 (by decide +kernel) rfl, fO4, fN4, rfl, rfl, fun _ => rfl⟩
theorem fgS_29 : FL cN4 29 4 4 := ⟨cN4, fT4, 5, rfl, by decide, fI4, mw 173 (by decide +kernel) rfl⟩
theorem fpS_29 : FP cN4 29 4 4 true (.object "LadderSurvey$Row") := ⟨cN4, fT4, 5, fY4, rfl, by decide, fI4, mw 173 (by decide +kernel) rfl, fO4, fN4, rfl, rfl, fun _ => rfl⟩
theorem fgN_14 : FL cN5 14 5 0 := ⟨cN5, fT5, 3, rfl, by decide, fI5, mw 215 (by decide +kernel) rfl⟩
theorem fpN_14 : FP cN5 14 5 0 true (.object "LadderSurvey$Row") := ⟨cN5, fT5, 3, fY5, rfl, by decide, fI5, mw 215 (by decide +kernel) rfl, fO5, fN5, rfl, rfl, fun _ => rfl⟩
theorem fgN_20 : FL cN5 20 5 1 := ⟨cN5, fT5, 3, rfl, by decide, fI5, mw 216 (by decide +kernel) rfl⟩
theorem fpN_20 : FP cN5 20 5 1 true (.object "LadderSurvey$Row") := ⟨cN5, fT5, 3, fY5, rfl, by decide, fI5, mw 216 (by decide +kernel) rfl, fO5, fN5, rfl, rfl, fun _ => rfl⟩
theorem fgN_23 : FL cN5 23 5 2 := ⟨cN5, fT5, 3, rfl, by decide, fI5, mw 218 (by decide +kernel) rfl⟩
theorem fpN_23 : FP cN5 23 5 2 true (.object "LadderSurvey$Row") := ⟨cN5, fT5, 3, fY5, rfl, by decide, fI5, mw 218 (by decide +kernel) rfl, fO5, fN5, rfl, rfl, fun _ => rfl⟩
theorem fgT_14 : FL cN6 14 6 0 := ⟨cN6, fT6, 7, rfl, by decide, fI6, mw 89 (by decide +kernel) rfl⟩
theorem fpT_14 : FP cN6 14 6 0 true (.object "LadderSurvey$Row") := ⟨cN6, fT6, 7, fY6, rfl, by decide, fI6, mw 89 (by decide +kernel) rfl, fO6, fN6, rfl, rfl, fun _ => rfl⟩
theorem fgT_25 : FL cN6 25 6 1 := ⟨cN6, fT6, 7, rfl, by decide, fI6, mw 91 (by decide +kernel) rfl⟩
theorem fpT_25 : FP cN6 25 6 1 false .int := ⟨cN6, fT6, 7, fY6, rfl, by decide, fI6, mw 91 (by decide +kernel) rfl, fO6, fN6, rfl, rfl, fun _ => rfl⟩
theorem fgT_29 : FL cN6 29 6 5 := ⟨cN6, fT6, 7, rfl, by decide, fI6, mw 95 (by decide +kernel) rfl⟩
theorem fpT_29 : FP cN6 29 6 5 false .boolean := ⟨cN6, fT6, 7, fY6, rfl, by decide, fI6, mw 95 (by decide +kernel) rfl, fO6, fN6, rfl, rfl, fun _ => rfl⟩
theorem fgT_33 : FL cN6 33 6 6 := ⟨cN6, fT6, 7, rfl, by decide, fI6, mw 96 (by decide +kernel) rfl⟩
theorem fpT_33 : FP cN6 33 6 6 false .boolean := ⟨cN6, fT6, 7, fY6, rfl, by decide, fI6, mw 96 (by decide +kernel) rfl, fO6, fN6, rfl, rfl, fun _ => rfl⟩
theorem fgT_39 : FL cN6 39 6 2 := ⟨cN6, fT6, 7, rfl, by decide, fI6, mw 92 (by decide +kernel) rfl⟩
theorem fpT_39 : FP cN6 39 6 2 false .int := ⟨cN6, fT6, 7, fY6, rfl, by decide, fI6, mw 92 (by decide +kernel) rfl, fO6, fN6, rfl, rfl, fun _ => rfl⟩
theorem fgT_46 : FL cN6 46 6 3 := ⟨cN6, fT6, 7, rfl, by decide, fI6, mw 93 (by decide +kernel) rfl⟩
theorem fpT_46 : FP cN6 46 6 3 false .int := ⟨cN6, fT6, 7, fY6, rfl, by decide, fI6, mw 93 (by decide +kernel) rfl, fO6, fN6, rfl, rfl, fun _ => rfl⟩
theorem fgT_49 : FL cN6 49 2 0 := ⟨cN2, fT2, 8, rfl, by decide, fI2, mw 121 (by decide +kernel) rfl⟩
theorem fgT_59 : FL cN6 59 2 5 := ⟨cN2, fT2, 8, rfl, by decide, fI2, mw 130 (by decide +kernel) rfl⟩
theorem fgT_75 : FL cN6 75 6 4 := ⟨cN6, fT6, 7, rfl, by decide, fI6, mw 94 (by decide +kernel) rfl⟩
theorem fpT_75 : FP cN6 75 6 4 false .int := ⟨cN6, fT6, 7, fY6, rfl, by decide, fI6, mw 94 (by decide +kernel) rfl, fO6, fN6, rfl, rfl, fun _ => rfl⟩
theorem fgT_88 : FL cN6 88 2 6 := ⟨cN2, fT2, 8, rfl, by decide, fI2, mw 133 (by decide +kernel) rfl⟩
theorem fgT_91 : FL cN6 91 2 7 := ⟨cN2, fT2, 8, rfl, by decide, fI2, mw 136 (by decide +kernel) rfl⟩
theorem fgZ_7 : FL cN8 7 8 2 := ⟨cN8, fT8, 29, rfl, by decide, fI8, mw 754 (by decide +kernel) rfl⟩
theorem fpZ_7 : FP cN8 7 8 2 true (.array .int) := ⟨cN8, fT8, 29, fY8, rfl, by decide, fI8, mw 754 (by decide +kernel) rfl, fO8, fN8, rfl, rfl, fun _ => rfl⟩
theorem fgZ_13 : FL cN8 13 8 9 := ⟨cN8, fT8, 29, rfl, by decide, fI8, mw 761 (by decide +kernel) rfl⟩
theorem fpZ_13 : FP cN8 13 8 9 true (.array .int) := ⟨cN8, fT8, 29, fY8, rfl, by decide, fI8, mw 761 (by decide +kernel) rfl, fO8, fN8, rfl, rfl, fun _ => rfl⟩
theorem fgZ_16 : FL cN8 16 8 11 := ⟨cN8, fT8, 29, rfl, by decide, fI8, mw 763 (by decide +kernel) rfl⟩
theorem fpZ_16 : FP cN8 16 8 11 true (.array .int) := ⟨cN8, fT8, 29, fY8, rfl, by decide, fI8, mw 763 (by decide +kernel) rfl, fO8, fN8, rfl, rfl, fun _ => rfl⟩
theorem fgZ_19 : FL cN8 19 8 12 := ⟨cN8, fT8, 29, rfl, by decide, fI8, mw 764 (by decide +kernel) rfl⟩
theorem fpZ_19 : FP cN8 19 8 12 true (.array .int) := ⟨cN8, fT8, 29, fY8, rfl, by decide, fI8, mw 764 (by decide +kernel) rfl, fO8, fN8, rfl, rfl, fun _ => rfl⟩
theorem fgZ_22 : FL cN8 22 8 13 := ⟨cN8, fT8, 29, rfl, by decide, fI8, mw 765 (by decide +kernel) rfl⟩
theorem fpZ_22 : FP cN8 22 8 13 true (.array .int) := ⟨cN8, fT8, 29, fY8, rfl, by decide, fI8, mw 765 (by decide +kernel) rfl, fO8, fN8, rfl, rfl, fun _ => rfl⟩
theorem fgZ_25 : FL cN8 25 8 14 := ⟨cN8, fT8, 29, rfl, by decide, fI8, mw 766 (by decide +kernel) rfl⟩
theorem fpZ_25 : FP cN8 25 8 14 true (.array .int) := ⟨cN8, fT8, 29, fY8, rfl, by decide, fI8, mw 766 (by decide +kernel) rfl, fO8, fN8, rfl, rfl, fun _ => rfl⟩
theorem fgZ_28 : FL cN8 28 8 15 := ⟨cN8, fT8, 29, rfl, by decide, fI8, mw 767 (by decide +kernel) rfl⟩
theorem fpZ_28 : FP cN8 28 8 15 true (.array .int) := ⟨cN8, fT8, 29, fY8, rfl, by decide, fI8, mw 767 (by decide +kernel) rfl, fO8, fN8, rfl, rfl, fun _ => rfl⟩
theorem fgZ_31 : FL cN8 31 8 16 := ⟨cN8, fT8, 29, rfl, by decide, fI8, mw 768 (by decide +kernel) rfl⟩
theorem fpZ_31 : FP cN8 31 8 16 true (.array .int) := ⟨cN8, fT8, 29, fY8, rfl, by decide, fI8, mw 768 (by decide +kernel) rfl, fO8, fN8, rfl, rfl, fun _ => rfl⟩
theorem fgZ_34 : FL cN8 34 8 17 := ⟨cN8, fT8, 29, rfl, by decide, fI8, mw 769 (by decide +kernel) rfl⟩
theorem fpZ_34 : FP cN8 34 8 17 true (.array .boolean) := ⟨cN8, fT8, 29, fY8, rfl, by decide, fI8, mw 769 (by decide +kernel) rfl, fO8, fN8, rfl, rfl, fun _ => rfl⟩
theorem fgZ_38 : FL cN8 38 8 18 := ⟨cN8, fT8, 29, rfl, by decide, fI8, mw 770 (by decide +kernel) rfl⟩
theorem fpZ_38 : FP cN8 38 8 18 true (.array .int) := ⟨cN8, fT8, 29, fY8, rfl, by decide, fI8, mw 770 (by decide +kernel) rfl, fO8, fN8, rfl, rfl, fun _ => rfl⟩
theorem fgZ_41 : FL cN8 41 8 20 := ⟨cN8, fT8, 29, rfl, by decide, fI8, mw 772 (by decide +kernel) rfl⟩
theorem fpZ_41 : FP cN8 41 8 20 true (.array .int) := ⟨cN8, fT8, 29, fY8, rfl, by decide, fI8, mw 772 (by decide +kernel) rfl, fO8, fN8, rfl, rfl, fun _ => rfl⟩
theorem fgZ_44 : FL cN8 44 8 21 := ⟨cN8, fT8, 29, rfl, by decide, fI8, mw 773 (by decide +kernel) rfl⟩
theorem fpZ_44 : FP cN8 44 8 21 true (.array .int) := ⟨cN8, fT8, 29, fY8, rfl, by decide, fI8, mw 773 (by decide +kernel) rfl, fO8, fN8, rfl, rfl, fun _ => rfl⟩
theorem fgZ_47 : FL cN8 47 8 23 := ⟨cN8, fT8, 29, rfl, by decide, fI8, mw 775 (by decide +kernel) rfl⟩
theorem fpZ_47 : FP cN8 47 8 23 true (.array .int) := ⟨cN8, fT8, 29, fY8, rfl, by decide, fI8, mw 775 (by decide +kernel) rfl, fO8, fN8, rfl, rfl, fun _ => rfl⟩
theorem fgZ_50 : FL cN8 50 8 24 := ⟨cN8, fT8, 29, rfl, by decide, fI8, mw 776 (by decide +kernel) rfl⟩
theorem fpZ_50 : FP cN8 50 8 24 true (.array .int) := ⟨cN8, fT8, 29, fY8, rfl, by decide, fI8, mw 776 (by decide +kernel) rfl, fO8, fN8, rfl, rfl, fun _ => rfl⟩
theorem fgZ_53 : FL cN8 53 8 25 := ⟨cN8, fT8, 29, rfl, by decide, fI8, mw 777 (by decide +kernel) rfl⟩
theorem fpZ_53 : FP cN8 53 8 25 true (.array .int) := ⟨cN8, fT8, 29, fY8, rfl, by decide, fI8, mw 777 (by decide +kernel) rfl, fO8, fN8, rfl, rfl, fun _ => rfl⟩
theorem fgZ_56 : FL cN8 56 8 27 := ⟨cN8, fT8, 29, rfl, by decide, fI8, mw 779 (by decide +kernel) rfl⟩
theorem fpZ_56 : FP cN8 56 8 27 true (.array .int) := ⟨cN8, fT8, 29, fY8, rfl, by decide, fI8, mw 779 (by decide +kernel) rfl, fO8, fN8, rfl, rfl, fun _ => rfl⟩
theorem fgZ_59 : FL cN8 59 8 28 := ⟨cN8, fT8, 29, rfl, by decide, fI8, mw 780 (by decide +kernel) rfl⟩
theorem fpZ_59 : FP cN8 59 8 28 true (.array .int) := ⟨cN8, fT8, 29, fY8, rfl, by decide, fI8, mw 780 (by decide +kernel) rfl, fO8, fN8, rfl, rfl, fun _ => rfl⟩
theorem fgZ_68 : FL cN8 68 8 0 := ⟨cN8, fT8, 29, rfl, by decide, fI8, mw 752 (by decide +kernel) rfl⟩
theorem fpZ_68 : FP cN8 68 8 0 false .int := ⟨cN8, fT8, 29, fY8, rfl, by decide, fI8, mw 752 (by decide +kernel) rfl, fO8, fN8, rfl, rfl, fun _ => rfl⟩
theorem fgZ_76 : FL cN8 76 8 3 := ⟨cN8, fT8, 29, rfl, by decide, fI8, mw 755 (by decide +kernel) rfl⟩
theorem fpZ_76 : FP cN8 76 8 3 false .int := ⟨cN8, fT8, 29, fY8, rfl, by decide, fI8, mw 755 (by decide +kernel) rfl, fO8, fN8, rfl, rfl, fun _ => rfl⟩
theorem fgZ_79 : FL cN8 79 8 4 := ⟨cN8, fT8, 29, rfl, by decide, fI8, mw 756 (by decide +kernel) rfl⟩
theorem fpZ_79 : FP cN8 79 8 4 false .int := ⟨cN8, fT8, 29, fY8, rfl, by decide, fI8, mw 756 (by decide +kernel) rfl, fO8, fN8, rfl, rfl, fun _ => rfl⟩
theorem fgZ_86 : FL cN8 86 8 6 := ⟨cN8, fT8, 29, rfl, by decide, fI8, mw 758 (by decide +kernel) rfl⟩
theorem fpZ_86 : FP cN8 86 8 6 false .int := ⟨cN8, fT8, 29, fY8, rfl, by decide, fI8, mw 758 (by decide +kernel) rfl, fO8, fN8, rfl, rfl, fun _ => rfl⟩
theorem fgZ_89 : FL cN8 89 8 5 := ⟨cN8, fT8, 29, rfl, by decide, fI8, mw 757 (by decide +kernel) rfl⟩
theorem fpZ_89 : FP cN8 89 8 5 false .int := ⟨cN8, fT8, 29, fY8, rfl, by decide, fI8, mw 757 (by decide +kernel) rfl, fO8, fN8, rfl, rfl, fun _ => rfl⟩
theorem fgZ_92 : FL cN8 92 8 7 := ⟨cN8, fT8, 29, rfl, by decide, fI8, mw 759 (by decide +kernel) rfl⟩
theorem fpZ_92 : FP cN8 92 8 7 false .int := ⟨cN8, fT8, 29, fY8, rfl, by decide, fI8, mw 759 (by decide +kernel) rfl, fO8, fN8, rfl, rfl, fun _ => rfl⟩
theorem fgZ_99 : FL cN8 99 8 8 := ⟨cN8, fT8, 29, rfl, by decide, fI8, mw 760 (by decide +kernel) rfl⟩
theorem fpZ_99 : FP cN8 99 8 8 false .int := ⟨cN8, fT8, 29, fY8, rfl, by decide, fI8, mw 760 (by decide +kernel) rfl, fO8, fN8, rfl, rfl, fun _ => rfl⟩
theorem fgZ_113 : FL cN8 113 8 10 := ⟨cN8, fT8, 29, rfl, by decide, fI8, mw 762 (by decide +kernel) rfl⟩
theorem fpZ_113 : FP cN8 113 8 10 false .int := ⟨cN8, fT8, 29, fY8, rfl, by decide, fI8, mw 762 (by decide +kernel) rfl, fO8, fN8, rfl, rfl, fun _ => rfl⟩
theorem fgZ_127 : FL cN8 127 8 22 := ⟨cN8, fT8, 29, rfl, by decide, fI8, mw 774 (by decide +kernel) rfl⟩
theorem fpZ_127 : FP cN8 127 8 22 false .int := ⟨cN8, fT8, 29, fY8, rfl, by decide, fI8, mw 774 (by decide +kernel) rfl, fO8, fN8, rfl, rfl, fun _ => rfl⟩
theorem fgZ_130 : FL cN8 130 8 26 := ⟨cN8, fT8, 29, rfl, by decide, fI8, mw 778 (by decide +kernel) rfl⟩
theorem fpZ_130 : FP cN8 130 8 26 false .int := ⟨cN8, fT8, 29, fY8, rfl, by decide, fI8, mw 778 (by decide +kernel) rfl, fO8, fN8, rfl, rfl, fun _ => rfl⟩
theorem fgZ_133 : FL cN8 133 8 19 := ⟨cN8, fT8, 29, rfl, by decide, fI8, mw 771 (by decide +kernel) rfl⟩
theorem fpZ_133 : FP cN8 133 8 19 false .int := ⟨cN8, fT8, 29, fY8, rfl, by decide, fI8, mw 771 (by decide +kernel) rfl, fO8, fN8, rfl, rfl, fun _ => rfl⟩
theorem fgZ_213 : FL cN8 213 8 1 := ⟨cN8, fT8, 29, rfl, by decide, fI8, mw 753 (by decide +kernel) rfl⟩
theorem fpZ_213 : FP cN8 213 8 1 false .long := ⟨cN8, fT8, 29, fY8, rfl, by decide, fI8, mw 753 (by decide +kernel) rfl, fO8, fN8, rfl, rfl, fun _ => rfl⟩
theorem csX_100 : Cond.constant cN7 100 (iI (-1000000)) ∈ lw_ws := mw 404 (by decide +kernel) rfl
theorem csX_195 : Cond.constant cN7 195 (iI (9999999)) ∈ lw_ws := mw 545 (by decide +kernel) rfl
theorem csX_224 : Cond.constant cN7 224 (iI (999999)) ∈ lw_ws := mw 612 (by decide +kernel) rfl
theorem csZ_142 : Cond.constant cN8 142 (iI (-1000000)) ∈ lw_ws := mw 895 (by decide +kernel) rfl
theorem csZ_177 : Cond.constant cN8 177 (iI (9999999)) ∈ lw_ws := mw 987 (by decide +kernel) rfl
theorem csZ_187 : Cond.constant cN8 187 (iI (999999)) ∈ lw_ws := mw 1014 (by decide +kernel) rfl
theorem csZ_188 : Cond.constant cN8 188 (iI (1000000000)) ∈ lw_ws := mw 1023 (by decide +kernel) rfl
theorem csJ_265 : Cond.constant cN9 265 (iI (1431655765)) ∈ lw_ws := mw 665 (by decide +kernel) rfl
theorem csJ_266 : Cond.constant cN9 266 (iI (858993459)) ∈ lw_ws := mw 666 (by decide +kernel) rfl
theorem csJ_267 : Cond.constant cN9 267 (iI (252645135)) ∈ lw_ws := mw 667 (by decide +kernel) rfl
theorem clX_280 : Cond.constantLong cN7 280 (10) ∈ lw_ws := mw 684 (by decide +kernel) rfl
theorem clX_285 : Cond.constantLong cN7 285 (100) ∈ lw_ws := mw 693 (by decide +kernel) rfl
theorem clX_287 : Cond.constantLong cN7 287 (1000) ∈ lw_ws := mw 698 (by decide +kernel) rfl
theorem clX_289 : Cond.constantLong cN7 289 (10000) ∈ lw_ws := mw 703 (by decide +kernel) rfl
theorem clX_291 : Cond.constantLong cN7 291 (100000) ∈ lw_ws := mw 708 (by decide +kernel) rfl
theorem clZ_217 : Cond.constantLong cN8 217 (11) ∈ lw_ws := mw 1064 (by decide +kernel) rfl
theorem clZ_219 : Cond.constantLong cN8 219 (101) ∈ lw_ws := mw 1065 (by decide +kernel) rfl
theorem clZ_221 : Cond.constantLong cN8 221 (1011) ∈ lw_ws := mw 1066 (by decide +kernel) rfl
theorem clZ_223 : Cond.constantLong cN8 223 (10101) ∈ lw_ws := mw 1067 (by decide +kernel) rfl
theorem clZ_225 : Cond.constantLong cN8 225 (100001) ∈ lw_ws := mw 1068 (by decide +kernel) rfl
theorem acI : Cond.arrayClass .int ∈ lw_ws := mw 88 (by decide +kernel) rfl
theorem acZ : Cond.arrayClass .boolean ∈ lw_ws := mw 840 (by decide +kernel) rfl
theorem nwX_9 : NW cN7 9 6 [.null, .int (iI 0), .int (iI 0), .int (iI 0), .int (iI 0), .int (iI 0), .int (iI 0)] := ⟨cN6, fT6, 7, fY6, rfl, fI6, fO6, mw 66 (by decide +kernel) rfl, mw 67 (by decide +kernel) rfl, mw 48 (by decide +kernel) rfl, rfl, fun j hj b => by rcases (show j = 0 ∨ j = 1 ∨ j = 2 ∨ j = 3 ∨ j = 4 ∨ j = 5 ∨ j = 6 by omega) with rfl | rfl | rfl | rfl | rfl | rfl | rfl <;> rfl⟩
theorem nwX_16 : NW cN7 16 2 [.null, .null, .null, .null, .null, .null, .int (iI 0), .int (iI 0)] := ⟨cN2, fT2, 8, fY2, rfl, fI2, fO2, mw 112 (by decide +kernel) rfl, mw 113 (by decide +kernel) rfl, mw 51 (by decide +kernel) rfl, rfl, fun j hj b => by rcases (show j = 0 ∨ j = 1 ∨ j = 2 ∨ j = 3 ∨ j = 4 ∨ j = 5 ∨ j = 6 ∨ j = 7 by omega) with rfl | rfl | rfl | rfl | rfl | rfl | rfl | rfl <;> rfl⟩
theorem nwX_26 : NW cN7 26 4 [.null, .null, .null, .null, .null] := ⟨cN4, fT4, 5, fY4, rfl, fI4, fO4, mw 155 (by decide +kernel) rfl, mw 156 (by decide +kernel) rfl, mw 52 (by decide +kernel) rfl, rfl, fun j hj b => by rcases (show j = 0 ∨ j = 1 ∨ j = 2 ∨ j = 3 ∨ j = 4 by omega) with rfl | rfl | rfl | rfl | rfl <;> rfl⟩
theorem nwX_39 : NW cN7 39 3 [.null, .int (iI 0)] := ⟨cN3, fT3, 2, fY3, rfl, fI3, fO3, mw 187 (by decide +kernel) rfl, mw 73 (by decide +kernel) rfl, mw 49 (by decide +kernel) rfl, rfl, fun j hj b => by rcases (show j = 0 ∨ j = 1 by omega) with rfl | rfl <;> rfl⟩
theorem nwX_48 : NW cN7 48 0 [.null, .null, .null] := ⟨cN0, fT0, 3, fY0, rfl, fI0, fO0, mw 189 (by decide +kernel) rfl, mw 190 (by decide +kernel) rfl, mw 53 (by decide +kernel) rfl, rfl, fun j hj b => by rcases (show j = 0 ∨ j = 1 ∨ j = 2 by omega) with rfl | rfl | rfl <;> rfl⟩
theorem nwX_55 : NW cN7 55 5 [.null, .null, .null] := ⟨cN5, fT5, 3, fY5, rfl, fI5, fO5, mw 207 (by decide +kernel) rfl, mw 208 (by decide +kernel) rfl, mw 54 (by decide +kernel) rfl, rfl, fun j hj b => by rcases (show j = 0 ∨ j = 1 ∨ j = 2 by omega) with rfl | rfl | rfl <;> rfl⟩
theorem nwX_62 : NW cN7 62 1 [.null, .null, .null, .null] := ⟨cN1, fT1, 4, fY1, rfl, fI1, fO1, mw 226 (by decide +kernel) rfl, mw 227 (by decide +kernel) rfl, mw 55 (by decide +kernel) rfl, rfl, fun j hj b => by rcases (show j = 0 ∨ j = 1 ∨ j = 2 ∨ j = 3 by omega) with rfl | rfl | rfl | rfl <;> rfl⟩
theorem nwD_9 : NW cN0 9 3 [.null, .int (iI 0)] := ⟨cN3, fT3, 2, fY3, rfl, fI3, fO3, mw 195 (by decide +kernel) rfl, mw 73 (by decide +kernel) rfl, mw 49 (by decide +kernel) rfl, rfl, fun j hj b => by rcases (show j = 0 ∨ j = 1 by omega) with rfl | rfl <;> rfl⟩
theorem nwM_9 : NW cN1 9 3 [.null, .int (iI 0)] := ⟨cN3, fT3, 2, fY3, rfl, fI3, fO3, mw 232 (by decide +kernel) rfl, mw 73 (by decide +kernel) rfl, mw 49 (by decide +kernel) rfl, rfl, fun j hj b => by rcases (show j = 0 ∨ j = 1 by omega) with rfl | rfl <;> rfl⟩
theorem nwP_9 : NW cN2 9 3 [.null, .int (iI 0)] := ⟨cN3, fT3, 2, fY3, rfl, fI3, fO3, mw 118 (by decide +kernel) rfl, mw 73 (by decide +kernel) rfl, mw 49 (by decide +kernel) rfl, rfl, fun j hj b => by rcases (show j = 0 ∨ j = 1 by omega) with rfl | rfl <;> rfl⟩
theorem nwS_9 : NW cN4 9 3 [.null, .int (iI 0)] := ⟨cN3, fT3, 2, fY3, rfl, fI3, fO3, mw 161 (by decide +kernel) rfl, mw 73 (by decide +kernel) rfl, mw 49 (by decide +kernel) rfl, rfl, fun j hj b => by rcases (show j = 0 ∨ j = 1 by omega) with rfl | rfl <;> rfl⟩
theorem nwN_9 : NW cN5 9 3 [.null, .int (iI 0)] := ⟨cN3, fT3, 2, fY3, rfl, fI3, fO3, mw 213 (by decide +kernel) rfl, mw 73 (by decide +kernel) rfl, mw 49 (by decide +kernel) rfl, rfl, fun j hj b => by rcases (show j = 0 ∨ j = 1 by omega) with rfl | rfl <;> rfl⟩
theorem nwT_9 : NW cN6 9 3 [.null, .int (iI 0)] := ⟨cN3, fT3, 2, fY3, rfl, fI3, fO3, mw 72 (by decide +kernel) rfl, mw 73 (by decide +kernel) rfl, mw 49 (by decide +kernel) rfl, rfl, fun j hj b => by rcases (show j = 0 ∨ j = 1 by omega) with rfl | rfl <;> rfl⟩
theorem nwL_7 : NW R_law 7 7 [.null, .null, .null, .null, .null, .null, .null, .null, .null, .null, .long 0] := ⟨cN7, fT7, 11, fY7, rfl, fI7, fO7, mw 58 (by decide +kernel) rfl, mw 59 (by decide +kernel) rfl, mw 47 (by decide +kernel) rfl, rfl, fun j hj b => by rcases (show j = 0 ∨ j = 1 ∨ j = 2 ∨ j = 3 ∨ j = 4 ∨ j = 5 ∨ j = 6 ∨ j = 7 ∨ j = 8 ∨ j = 9 ∨ j = 10 by omega) with rfl | rfl | rfl | rfl | rfl | rfl | rfl | rfl | rfl | rfl | rfl <;> rfl⟩
theorem nwL_10 : NW R_law 10 8 [.int (iI 0), .long 0, .null, .int (iI 0), .int (iI 0), .int (iI 0), .int (iI 0), .int (iI 0), .int (iI 0), .null, .int (iI 0), .null, .null, .null, .null, .null, .null, .null, .null, .int (iI 0), .null, .null, .int (iI 0), .null, .null, .null, .int (iI 0), .null, .null] := ⟨cN8, fT8, 29, fY8, rfl, fI8, fO8, mw 738 (by decide +kernel) rfl, mw 739 (by decide +kernel) rfl, mw 56 (by decide +kernel) rfl, rfl, fun j hj b => by rcases (show j = 0 ∨ j = 1 ∨ j = 2 ∨ j = 3 ∨ j = 4 ∨ j = 5 ∨ j = 6 ∨ j = 7 ∨ j = 8 ∨ j = 9 ∨ j = 10 ∨ j = 11 ∨ j = 12 ∨ j = 13 ∨ j = 14 ∨ j = 15 ∨ j = 16 ∨ j = 17 ∨ j = 18 ∨ j = 19 ∨ j = 20 ∨ j = 21 ∨ j = 22 ∨ j = 23 ∨ j = 24 ∨ j = 25 ∨ j = 26 ∨ j = 27 ∨ j = 28 by omega) with rfl | rfl | rfl | rfl | rfl | rfl | rfl | rfl | rfl | rfl | rfl | rfl | rfl | rfl | rfl | rfl | rfl | rfl | rfl | rfl | rfl | rfl | rfl | rfl | rfl | rfl | rfl | rfl | rfl <;> rfl⟩
end
section
theorem dT_init_0 : decode bT_init 0 = .ok (.aload_n 0, 1) := by decide +kernel
theorem dT_init_1 : decode bT_init 1 = .ok (.invokespecial 3, 3) := by decide +kernel
theorem dT_init_4 : decode bT_init 4 = .ok (.aload_n 0, 1) := by decide +kernel
theorem dT_init_5 : decode bT_init 5 = .ok (.new 9, 3) := by decide +kernel
theorem dT_init_8 : decode bT_init 8 = .ok (.dup, 1) := by decide +kernel
theorem dT_init_9 : decode bT_init 9 = .ok (.bipush 120, 2) := by decide +kernel
theorem dT_init_11 : decode bT_init 11 = .ok (.invokespecial 11, 3) := by decide +kernel
theorem dT_init_14 : decode bT_init 14 = .ok (.putfield 14, 3) := by decide +kernel
theorem dT_init_17 : decode bT_init 17 = .ok (.return_, 1) := by decide +kernel
theorem dR_init_0 : decode bR_init 0 = .ok (.aload_n 0, 1) := by decide +kernel
theorem dR_init_1 : decode bR_init 1 = .ok (.invokespecial 1, 3) := by decide +kernel
theorem dR_init_4 : decode bR_init 4 = .ok (.aload_n 0, 1) := by decide +kernel
theorem dR_init_5 : decode bR_init 5 = .ok (.iconst 0, 1) := by decide +kernel
theorem dR_init_6 : decode bR_init 6 = .ok (.iload_n 1, 1) := by decide +kernel
theorem dR_init_7 : decode bR_init 7 = .ok (.invokestatic 7, 3) := by decide +kernel
theorem dR_init_10 : decode bR_init 10 = .ok (.newarray .int, 2) := by decide +kernel
theorem dR_init_12 : decode bR_init 12 = .ok (.putfield 13, 3) := by decide +kernel
theorem dR_init_15 : decode bR_init 15 = .ok (.return_, 1) := by decide +kernel
theorem dK_max_0 : decode bK_max 0 = .ok (.iload_n 0, 1) := by decide +kernel
theorem dK_max_1 : decode bK_max 1 = .ok (.iload_n 1, 1) := by decide +kernel
theorem dK_max_2 : decode bK_max 2 = .ok (.if_icmp .lt 7, 3) := by decide +kernel
theorem dK_max_5 : decode bK_max 5 = .ok (.iload_n 0, 1) := by decide +kernel
theorem dK_max_6 : decode bK_max 6 = .ok (.goto 4, 3) := by decide +kernel
theorem dK_max_9 : decode bK_max 9 = .ok (.iload_n 1, 1) := by decide +kernel
theorem dK_max_10 : decode bK_max 10 = .ok (.ireturn, 1) := by decide +kernel
theorem dP_init_0 : decode bP_init 0 = .ok (.aload_n 0, 1) := by decide +kernel
theorem dP_init_1 : decode bP_init 1 = .ok (.invokespecial 3, 3) := by decide +kernel
theorem dP_init_4 : decode bP_init 4 = .ok (.aload_n 0, 1) := by decide +kernel
theorem dP_init_5 : decode bP_init 5 = .ok (.new 9, 3) := by decide +kernel
theorem dP_init_8 : decode bP_init 8 = .ok (.dup, 1) := by decide +kernel
theorem dP_init_9 : decode bP_init 9 = .ok (.iconst 5, 1) := by decide +kernel
theorem dP_init_10 : decode bP_init 10 = .ok (.invokespecial 11, 3) := by decide +kernel
theorem dP_init_13 : decode bP_init 13 = .ok (.putfield 14, 3) := by decide +kernel
theorem dP_init_16 : decode bP_init 16 = .ok (.aload_n 0, 1) := by decide +kernel
theorem dP_init_17 : decode bP_init 17 = .ok (.new 9, 3) := by decide +kernel
theorem dP_init_20 : decode bP_init 20 = .ok (.dup, 1) := by decide +kernel
theorem dP_init_21 : decode bP_init 21 = .ok (.iconst 5, 1) := by decide +kernel
theorem dP_init_22 : decode bP_init 22 = .ok (.invokespecial 11, 3) := by decide +kernel
theorem dP_init_25 : decode bP_init 25 = .ok (.putfield 20, 3) := by decide +kernel
theorem dP_init_28 : decode bP_init 28 = .ok (.aload_n 0, 1) := by decide +kernel
theorem dP_init_29 : decode bP_init 29 = .ok (.new 9, 3) := by decide +kernel
theorem dP_init_32 : decode bP_init 32 = .ok (.dup, 1) := by decide +kernel
theorem dP_init_33 : decode bP_init 33 = .ok (.iconst 5, 1) := by decide +kernel
theorem dP_init_34 : decode bP_init 34 = .ok (.invokespecial 11, 3) := by decide +kernel
theorem dP_init_37 : decode bP_init 37 = .ok (.putfield 23, 3) := by decide +kernel
theorem dP_init_40 : decode bP_init 40 = .ok (.aload_n 0, 1) := by decide +kernel
theorem dP_init_41 : decode bP_init 41 = .ok (.new 9, 3) := by decide +kernel
theorem dP_init_44 : decode bP_init 44 = .ok (.dup, 1) := by decide +kernel
theorem dP_init_45 : decode bP_init 45 = .ok (.iconst 5, 1) := by decide +kernel
theorem dP_init_46 : decode bP_init 46 = .ok (.invokespecial 11, 3) := by decide +kernel
theorem dP_init_49 : decode bP_init 49 = .ok (.putfield 26, 3) := by decide +kernel
theorem dP_init_52 : decode bP_init 52 = .ok (.aload_n 0, 1) := by decide +kernel
theorem dP_init_53 : decode bP_init 53 = .ok (.new 9, 3) := by decide +kernel
theorem dP_init_56 : decode bP_init 56 = .ok (.dup, 1) := by decide +kernel
theorem dP_init_57 : decode bP_init 57 = .ok (.bipush 100, 2) := by decide +kernel
theorem dP_init_59 : decode bP_init 59 = .ok (.invokespecial 11, 3) := by decide +kernel
theorem dP_init_62 : decode bP_init 62 = .ok (.putfield 29, 3) := by decide +kernel
theorem dP_init_65 : decode bP_init 65 = .ok (.aload_n 0, 1) := by decide +kernel
theorem dP_init_66 : decode bP_init 66 = .ok (.new 9, 3) := by decide +kernel
theorem dP_init_69 : decode bP_init 69 = .ok (.dup, 1) := by decide +kernel
theorem dP_init_70 : decode bP_init 70 = .ok (.iconst 4, 1) := by decide +kernel
theorem dP_init_71 : decode bP_init 71 = .ok (.invokespecial 11, 3) := by decide +kernel
theorem dP_init_74 : decode bP_init 74 = .ok (.putfield 32, 3) := by decide +kernel
theorem dP_init_77 : decode bP_init 77 = .ok (.aload_n 0, 1) := by decide +kernel
theorem dP_init_78 : decode bP_init 78 = .ok (.iconst 3, 1) := by decide +kernel
theorem dP_init_79 : decode bP_init 79 = .ok (.putfield 35, 3) := by decide +kernel
theorem dP_init_82 : decode bP_init 82 = .ok (.aload_n 0, 1) := by decide +kernel
theorem dP_init_83 : decode bP_init 83 = .ok (.iconst 3, 1) := by decide +kernel
theorem dP_init_84 : decode bP_init 84 = .ok (.putfield 39, 3) := by decide +kernel
theorem dP_init_87 : decode bP_init 87 = .ok (.return_, 1) := by decide +kernel
theorem dS_init_0 : decode bS_init 0 = .ok (.aload_n 0, 1) := by decide +kernel
theorem dS_init_1 : decode bS_init 1 = .ok (.invokespecial 3, 3) := by decide +kernel
theorem dS_init_4 : decode bS_init 4 = .ok (.aload_n 0, 1) := by decide +kernel
theorem dS_init_5 : decode bS_init 5 = .ok (.new 9, 3) := by decide +kernel
theorem dS_init_8 : decode bS_init 8 = .ok (.dup, 1) := by decide +kernel
theorem dS_init_9 : decode bS_init 9 = .ok (.iconst 4, 1) := by decide +kernel
theorem dS_init_10 : decode bS_init 10 = .ok (.invokespecial 11, 3) := by decide +kernel
theorem dS_init_13 : decode bS_init 13 = .ok (.putfield 14, 3) := by decide +kernel
theorem dS_init_16 : decode bS_init 16 = .ok (.aload_n 0, 1) := by decide +kernel
theorem dS_init_17 : decode bS_init 17 = .ok (.new 9, 3) := by decide +kernel
theorem dS_init_20 : decode bS_init 20 = .ok (.dup, 1) := by decide +kernel
theorem dS_init_21 : decode bS_init 21 = .ok (.iconst 4, 1) := by decide +kernel
theorem dS_init_22 : decode bS_init 22 = .ok (.invokespecial 11, 3) := by decide +kernel
theorem dS_init_25 : decode bS_init 25 = .ok (.putfield 20, 3) := by decide +kernel
theorem dS_init_28 : decode bS_init 28 = .ok (.aload_n 0, 1) := by decide +kernel
theorem dS_init_29 : decode bS_init 29 = .ok (.new 9, 3) := by decide +kernel
theorem dS_init_32 : decode bS_init 32 = .ok (.dup, 1) := by decide +kernel
theorem dS_init_33 : decode bS_init 33 = .ok (.bipush 100, 2) := by decide +kernel
theorem dS_init_35 : decode bS_init 35 = .ok (.invokespecial 11, 3) := by decide +kernel
theorem dS_init_38 : decode bS_init 38 = .ok (.putfield 23, 3) := by decide +kernel
theorem dS_init_41 : decode bS_init 41 = .ok (.aload_n 0, 1) := by decide +kernel
theorem dS_init_42 : decode bS_init 42 = .ok (.new 9, 3) := by decide +kernel
theorem dS_init_45 : decode bS_init 45 = .ok (.dup, 1) := by decide +kernel
theorem dS_init_46 : decode bS_init 46 = .ok (.bipush 100, 2) := by decide +kernel
theorem dS_init_48 : decode bS_init 48 = .ok (.invokespecial 11, 3) := by decide +kernel
theorem dS_init_51 : decode bS_init 51 = .ok (.putfield 26, 3) := by decide +kernel
theorem dS_init_54 : decode bS_init 54 = .ok (.aload_n 0, 1) := by decide +kernel
theorem dS_init_55 : decode bS_init 55 = .ok (.new 9, 3) := by decide +kernel
theorem dS_init_58 : decode bS_init 58 = .ok (.dup, 1) := by decide +kernel
theorem dS_init_59 : decode bS_init 59 = .ok (.bipush 6, 2) := by decide +kernel
theorem dS_init_61 : decode bS_init 61 = .ok (.invokespecial 11, 3) := by decide +kernel
theorem dS_init_64 : decode bS_init 64 = .ok (.putfield 29, 3) := by decide +kernel
theorem dS_init_67 : decode bS_init 67 = .ok (.return_, 1) := by decide +kernel
theorem dD_init_0 : decode bD_init 0 = .ok (.aload_n 0, 1) := by decide +kernel
theorem dD_init_1 : decode bD_init 1 = .ok (.invokespecial 3, 3) := by decide +kernel
theorem dD_init_4 : decode bD_init 4 = .ok (.aload_n 0, 1) := by decide +kernel
theorem dD_init_5 : decode bD_init 5 = .ok (.new 9, 3) := by decide +kernel
theorem dD_init_8 : decode bD_init 8 = .ok (.dup, 1) := by decide +kernel
theorem dD_init_9 : decode bD_init 9 = .ok (.bipush 10, 2) := by decide +kernel
theorem dD_init_11 : decode bD_init 11 = .ok (.invokespecial 11, 3) := by decide +kernel
theorem dD_init_14 : decode bD_init 14 = .ok (.putfield 14, 3) := by decide +kernel
theorem dD_init_17 : decode bD_init 17 = .ok (.aload_n 0, 1) := by decide +kernel
theorem dD_init_18 : decode bD_init 18 = .ok (.new 9, 3) := by decide +kernel
theorem dD_init_21 : decode bD_init 21 = .ok (.dup, 1) := by decide +kernel
theorem dD_init_22 : decode bD_init 22 = .ok (.bipush 10, 2) := by decide +kernel
theorem dD_init_24 : decode bD_init 24 = .ok (.invokespecial 11, 3) := by decide +kernel
theorem dD_init_27 : decode bD_init 27 = .ok (.putfield 20, 3) := by decide +kernel
theorem dD_init_30 : decode bD_init 30 = .ok (.aload_n 0, 1) := by decide +kernel
theorem dD_init_31 : decode bD_init 31 = .ok (.new 9, 3) := by decide +kernel
theorem dD_init_34 : decode bD_init 34 = .ok (.dup, 1) := by decide +kernel
theorem dD_init_35 : decode bD_init 35 = .ok (.bipush 10, 2) := by decide +kernel
theorem dD_init_37 : decode bD_init 37 = .ok (.invokespecial 11, 3) := by decide +kernel
theorem dD_init_40 : decode bD_init 40 = .ok (.putfield 23, 3) := by decide +kernel
theorem dD_init_43 : decode bD_init 43 = .ok (.return_, 1) := by decide +kernel
theorem dN_init_0 : decode bN_init 0 = .ok (.aload_n 0, 1) := by decide +kernel
theorem dN_init_1 : decode bN_init 1 = .ok (.invokespecial 3, 3) := by decide +kernel
theorem dN_init_4 : decode bN_init 4 = .ok (.aload_n 0, 1) := by decide +kernel
theorem dN_init_5 : decode bN_init 5 = .ok (.new 9, 3) := by decide +kernel
theorem dN_init_8 : decode bN_init 8 = .ok (.dup, 1) := by decide +kernel
theorem dN_init_9 : decode bN_init 9 = .ok (.bipush 6, 2) := by decide +kernel
theorem dN_init_11 : decode bN_init 11 = .ok (.invokespecial 11, 3) := by decide +kernel
theorem dN_init_14 : decode bN_init 14 = .ok (.putfield 14, 3) := by decide +kernel
theorem dN_init_17 : decode bN_init 17 = .ok (.aload_n 0, 1) := by decide +kernel
theorem dN_init_18 : decode bN_init 18 = .ok (.new 9, 3) := by decide +kernel
theorem dN_init_21 : decode bN_init 21 = .ok (.dup, 1) := by decide +kernel
theorem dN_init_22 : decode bN_init 22 = .ok (.bipush 6, 2) := by decide +kernel
theorem dN_init_24 : decode bN_init 24 = .ok (.invokespecial 11, 3) := by decide +kernel
theorem dN_init_27 : decode bN_init 27 = .ok (.putfield 20, 3) := by decide +kernel
theorem dN_init_30 : decode bN_init 30 = .ok (.aload_n 0, 1) := by decide +kernel
theorem dN_init_31 : decode bN_init 31 = .ok (.new 9, 3) := by decide +kernel
theorem dN_init_34 : decode bN_init 34 = .ok (.dup, 1) := by decide +kernel
theorem dN_init_35 : decode bN_init 35 = .ok (.bipush 41, 2) := by decide +kernel
theorem dN_init_37 : decode bN_init 37 = .ok (.invokespecial 11, 3) := by decide +kernel
theorem dN_init_40 : decode bN_init 40 = .ok (.putfield 23, 3) := by decide +kernel
theorem dN_init_43 : decode bN_init 43 = .ok (.return_, 1) := by decide +kernel
theorem dM_init_0 : decode bM_init 0 = .ok (.aload_n 0, 1) := by decide +kernel
theorem dM_init_1 : decode bM_init 1 = .ok (.invokespecial 3, 3) := by decide +kernel
theorem dM_init_4 : decode bM_init 4 = .ok (.aload_n 0, 1) := by decide +kernel
theorem dM_init_5 : decode bM_init 5 = .ok (.new 9, 3) := by decide +kernel
theorem dM_init_8 : decode bM_init 8 = .ok (.dup, 1) := by decide +kernel
theorem dM_init_9 : decode bM_init 9 = .ok (.bipush 6, 2) := by decide +kernel
theorem dM_init_11 : decode bM_init 11 = .ok (.invokespecial 11, 3) := by decide +kernel
theorem dM_init_14 : decode bM_init 14 = .ok (.putfield 14, 3) := by decide +kernel
theorem dM_init_17 : decode bM_init 17 = .ok (.aload_n 0, 1) := by decide +kernel
theorem dM_init_18 : decode bM_init 18 = .ok (.new 9, 3) := by decide +kernel
theorem dM_init_21 : decode bM_init 21 = .ok (.dup, 1) := by decide +kernel
theorem dM_init_22 : decode bM_init 22 = .ok (.bipush 6, 2) := by decide +kernel
theorem dM_init_24 : decode bM_init 24 = .ok (.invokespecial 11, 3) := by decide +kernel
theorem dM_init_27 : decode bM_init 27 = .ok (.putfield 20, 3) := by decide +kernel
theorem dM_init_30 : decode bM_init 30 = .ok (.aload_n 0, 1) := by decide +kernel
theorem dM_init_31 : decode bM_init 31 = .ok (.new 9, 3) := by decide +kernel
theorem dM_init_34 : decode bM_init 34 = .ok (.dup, 1) := by decide +kernel
theorem dM_init_35 : decode bM_init 35 = .ok (.bipush 6, 2) := by decide +kernel
theorem dM_init_37 : decode bM_init 37 = .ok (.invokespecial 11, 3) := by decide +kernel
theorem dM_init_40 : decode bM_init 40 = .ok (.putfield 23, 3) := by decide +kernel
theorem dM_init_43 : decode bM_init 43 = .ok (.aload_n 0, 1) := by decide +kernel
theorem dM_init_44 : decode bM_init 44 = .ok (.new 9, 3) := by decide +kernel
theorem dM_init_47 : decode bM_init 47 = .ok (.dup, 1) := by decide +kernel
theorem dM_init_48 : decode bM_init 48 = .ok (.bipush 6, 2) := by decide +kernel
theorem dM_init_50 : decode bM_init 50 = .ok (.invokespecial 11, 3) := by decide +kernel
theorem dM_init_53 : decode bM_init 53 = .ok (.putfield 26, 3) := by decide +kernel
theorem dM_init_56 : decode bM_init 56 = .ok (.return_, 1) := by decide +kernel
theorem dR_isFull_0 : decode bR_isFull 0 = .ok (.aload_n 0, 1) := by decide +kernel
theorem dR_isFull_1 : decode bR_isFull 1 = .ok (.getfield 19, 3) := by decide +kernel
theorem dR_isFull_4 : decode bR_isFull 4 = .ok (.aload_n 0, 1) := by decide +kernel
theorem dR_isFull_5 : decode bR_isFull 5 = .ok (.getfield 13, 3) := by decide +kernel
theorem dR_isFull_8 : decode bR_isFull 8 = .ok (.arraylength, 1) := by decide +kernel
theorem dR_isFull_9 : decode bR_isFull 9 = .ok (.if_icmp .lt 7, 3) := by decide +kernel
theorem dR_isFull_12 : decode bR_isFull 12 = .ok (.iconst 1, 1) := by decide +kernel
theorem dR_isFull_13 : decode bR_isFull 13 = .ok (.goto 4, 3) := by decide +kernel
theorem dR_isFull_16 : decode bR_isFull 16 = .ok (.iconst 0, 1) := by decide +kernel
theorem dR_isFull_17 : decode bR_isFull 17 = .ok (.ireturn, 1) := by decide +kernel
theorem dR_push_0 : decode bR_push 0 = .ok (.aload_n 0, 1) := by decide +kernel
theorem dR_push_1 : decode bR_push 1 = .ok (.invokevirtual 23, 3) := by decide +kernel
theorem dR_push_4 : decode bR_push 4 = .ok (.ifCond .ne 22, 3) := by decide +kernel
theorem dR_push_7 : decode bR_push 7 = .ok (.aload_n 0, 1) := by decide +kernel
theorem dR_push_8 : decode bR_push 8 = .ok (.aload_n 0, 1) := by decide +kernel
theorem dR_push_9 : decode bR_push 9 = .ok (.getfield 19, 3) := by decide +kernel
theorem dR_push_12 : decode bR_push 12 = .ok (.iload_n 1, 1) := by decide +kernel
theorem dR_push_13 : decode bR_push 13 = .ok (.invokevirtual 27, 3) := by decide +kernel
theorem dR_push_16 : decode bR_push 16 = .ok (.aload_n 0, 1) := by decide +kernel
theorem dR_push_17 : decode bR_push 17 = .ok (.dup, 1) := by decide +kernel
theorem dR_push_18 : decode bR_push 18 = .ok (.getfield 19, 3) := by decide +kernel
theorem dR_push_21 : decode bR_push 21 = .ok (.iconst 1, 1) := by decide +kernel
theorem dR_push_22 : decode bR_push 22 = .ok (.iadd, 1) := by decide +kernel
theorem dR_push_23 : decode bR_push 23 = .ok (.putfield 19, 3) := by decide +kernel
theorem dR_push_26 : decode bR_push 26 = .ok (.return_, 1) := by decide +kernel
theorem dR_put_0 : decode bR_put 0 = .ok (.iload_n 1, 1) := by decide +kernel
theorem dR_put_1 : decode bR_put 1 = .ok (.ifCond .lt 19, 3) := by decide +kernel
theorem dR_put_4 : decode bR_put 4 = .ok (.iload_n 1, 1) := by decide +kernel
theorem dR_put_5 : decode bR_put 5 = .ok (.aload_n 0, 1) := by decide +kernel
theorem dR_put_6 : decode bR_put 6 = .ok (.getfield 13, 3) := by decide +kernel
theorem dR_put_9 : decode bR_put 9 = .ok (.arraylength, 1) := by decide +kernel
theorem dR_put_10 : decode bR_put 10 = .ok (.if_icmp .ge 10, 3) := by decide +kernel
theorem dR_put_13 : decode bR_put 13 = .ok (.aload_n 0, 1) := by decide +kernel
theorem dR_put_14 : decode bR_put 14 = .ok (.getfield 13, 3) := by decide +kernel
theorem dR_put_17 : decode bR_put 17 = .ok (.iload_n 1, 1) := by decide +kernel
theorem dR_put_18 : decode bR_put 18 = .ok (.iload_n 2, 1) := by decide +kernel
theorem dR_put_19 : decode bR_put 19 = .ok (.iastore, 1) := by decide +kernel
theorem dR_put_20 : decode bR_put 20 = .ok (.return_, 1) := by decide +kernel
theorem dR_size_0 : decode bR_size 0 = .ok (.aload_n 0, 1) := by decide +kernel
theorem dR_size_1 : decode bR_size 1 = .ok (.getfield 19, 3) := by decide +kernel
theorem dR_size_4 : decode bR_size 4 = .ok (.ireturn, 1) := by decide +kernel
theorem dR_empty_0 : decode bR_empty 0 = .ok (.iconst 0, 1) := by decide +kernel
theorem dR_empty_1 : decode bR_empty 1 = .ok (.istore_n 1, 1) := by decide +kernel
theorem dR_empty_2 : decode bR_empty 2 = .ok (.iload_n 1, 1) := by decide +kernel
theorem dR_empty_3 : decode bR_empty 3 = .ok (.aload_n 0, 1) := by decide +kernel
theorem dR_empty_4 : decode bR_empty 4 = .ok (.getfield 13, 3) := by decide +kernel
theorem dR_empty_7 : decode bR_empty 7 = .ok (.arraylength, 1) := by decide +kernel
theorem dR_empty_8 : decode bR_empty 8 = .ok (.if_icmp .ge 16, 3) := by decide +kernel
theorem dR_empty_11 : decode bR_empty 11 = .ok (.aload_n 0, 1) := by decide +kernel
theorem dR_empty_12 : decode bR_empty 12 = .ok (.getfield 13, 3) := by decide +kernel
theorem dR_empty_15 : decode bR_empty 15 = .ok (.iload_n 1, 1) := by decide +kernel
theorem dR_empty_16 : decode bR_empty 16 = .ok (.iconst 0, 1) := by decide +kernel
theorem dR_empty_17 : decode bR_empty 17 = .ok (.iastore, 1) := by decide +kernel
theorem dR_empty_18 : decode bR_empty 18 = .ok (.iinc 1 1, 3) := by decide +kernel
theorem dR_empty_21 : decode bR_empty 21 = .ok (.goto (-19), 3) := by decide +kernel
theorem dR_empty_24 : decode bR_empty 24 = .ok (.aload_n 0, 1) := by decide +kernel
theorem dR_empty_25 : decode bR_empty 25 = .ok (.iconst 0, 1) := by decide +kernel
theorem dR_empty_26 : decode bR_empty 26 = .ok (.putfield 19, 3) := by decide +kernel
theorem dR_empty_29 : decode bR_empty 29 = .ok (.return_, 1) := by decide +kernel
theorem dT_readInto_0 : decode bT_readInto 0 = .ok (.aload_n 1, 1) := by decide +kernel
theorem dT_readInto_1 : decode bT_readInto 1 = .ok (.invokevirtual 20, 3) := by decide +kernel
theorem dT_readInto_4 : decode bT_readInto 4 = .ok (.aload_n 0, 1) := by decide +kernel
theorem dT_readInto_5 : decode bT_readInto 5 = .ok (.iconst 0, 1) := by decide +kernel
theorem dT_readInto_6 : decode bT_readInto 6 = .ok (.putfield 25, 3) := by decide +kernel
theorem dT_readInto_9 : decode bT_readInto 9 = .ok (.aload_n 0, 1) := by decide +kernel
theorem dT_readInto_10 : decode bT_readInto 10 = .ok (.iconst 0, 1) := by decide +kernel
theorem dT_readInto_11 : decode bT_readInto 11 = .ok (.putfield 29, 3) := by decide +kernel
theorem dT_readInto_14 : decode bT_readInto 14 = .ok (.aload_n 0, 1) := by decide +kernel
theorem dT_readInto_15 : decode bT_readInto 15 = .ok (.iconst 0, 1) := by decide +kernel
theorem dT_readInto_16 : decode bT_readInto 16 = .ok (.putfield 33, 3) := by decide +kernel
theorem dT_readInto_19 : decode bT_readInto 19 = .ok (.aload_n 0, 1) := by decide +kernel
theorem dT_readInto_20 : decode bT_readInto 20 = .ok (.invokevirtual 36, 3) := by decide +kernel
theorem dT_readInto_23 : decode bT_readInto 23 = .ok (.iconst 0, 1) := by decide +kernel
theorem dT_readInto_24 : decode bT_readInto 24 = .ok (.istore_n 2, 1) := by decide +kernel
theorem dT_readInto_25 : decode bT_readInto 25 = .ok (.iload_n 2, 1) := by decide +kernel
theorem dT_readInto_26 : decode bT_readInto 26 = .ok (.bipush 120, 2) := by decide +kernel
theorem dT_readInto_28 : decode bT_readInto 28 = .ok (.if_icmp .gt 36, 3) := by decide +kernel
theorem dT_readInto_31 : decode bT_readInto 31 = .ok (.aload_n 0, 1) := by decide +kernel
theorem dT_readInto_32 : decode bT_readInto 32 = .ok (.getfield 39, 3) := by decide +kernel
theorem dT_readInto_35 : decode bT_readInto 35 = .ok (.sipush 257, 3) := by decide +kernel
theorem dT_readInto_38 : decode bT_readInto 38 = .ok (.if_icmp .ne 5, 3) := by decide +kernel
theorem dT_readInto_41 : decode bT_readInto 41 = .ok (.iload_n 2, 1) := by decide +kernel
theorem dT_readInto_42 : decode bT_readInto 42 = .ok (.ireturn, 1) := by decide +kernel
theorem dT_readInto_43 : decode bT_readInto 43 = .ok (.aload_n 0, 1) := by decide +kernel
theorem dT_readInto_44 : decode bT_readInto 44 = .ok (.aload_n 1, 1) := by decide +kernel
theorem dT_readInto_45 : decode bT_readInto 45 = .ok (.invokevirtual 42, 3) := by decide +kernel
theorem dT_readInto_48 : decode bT_readInto 48 = .ok (.ifCond .ne 6, 3) := by decide +kernel
theorem dT_readInto_51 : decode bT_readInto 51 = .ok (.goto 13, 3) := by decide +kernel
theorem dT_readInto_54 : decode bT_readInto 54 = .ok (.aload_n 0, 1) := by decide +kernel
theorem dT_readInto_55 : decode bT_readInto 55 = .ok (.invokevirtual 36, 3) := by decide +kernel
theorem dT_readInto_58 : decode bT_readInto 58 = .ok (.iinc 2 1, 3) := by decide +kernel
theorem dT_readInto_61 : decode bT_readInto 61 = .ok (.goto (-36), 3) := by decide +kernel
theorem dT_readInto_64 : decode bT_readInto 64 = .ok (.bipush (-10), 2) := by decide +kernel
theorem dT_readInto_66 : decode bT_readInto 66 = .ok (.aload_n 0, 1) := by decide +kernel
theorem dT_readInto_67 : decode bT_readInto 67 = .ok (.getfield 46, 3) := by decide +kernel
theorem dT_readInto_70 : decode bT_readInto 70 = .ok (.isub, 1) := by decide +kernel
theorem dT_readInto_71 : decode bT_readInto 71 = .ok (.ireturn, 1) := by decide +kernel
theorem dP_begin_0 : decode bP_begin 0 = .ok (.aload_n 0, 1) := by decide +kernel
theorem dP_begin_1 : decode bP_begin 1 = .ok (.getfield 14, 3) := by decide +kernel
theorem dP_begin_4 : decode bP_begin 4 = .ok (.invokevirtual 42, 3) := by decide +kernel
theorem dP_begin_7 : decode bP_begin 7 = .ok (.aload_n 0, 1) := by decide +kernel
theorem dP_begin_8 : decode bP_begin 8 = .ok (.getfield 20, 3) := by decide +kernel
theorem dP_begin_11 : decode bP_begin 11 = .ok (.invokevirtual 42, 3) := by decide +kernel
theorem dP_begin_14 : decode bP_begin 14 = .ok (.aload_n 0, 1) := by decide +kernel
theorem dP_begin_15 : decode bP_begin 15 = .ok (.getfield 23, 3) := by decide +kernel
theorem dP_begin_18 : decode bP_begin 18 = .ok (.invokevirtual 42, 3) := by decide +kernel
theorem dP_begin_21 : decode bP_begin 21 = .ok (.aload_n 0, 1) := by decide +kernel
theorem dP_begin_22 : decode bP_begin 22 = .ok (.getfield 26, 3) := by decide +kernel
theorem dP_begin_25 : decode bP_begin 25 = .ok (.invokevirtual 42, 3) := by decide +kernel
theorem dP_begin_28 : decode bP_begin 28 = .ok (.aload_n 0, 1) := by decide +kernel
theorem dP_begin_29 : decode bP_begin 29 = .ok (.getfield 29, 3) := by decide +kernel
theorem dP_begin_32 : decode bP_begin 32 = .ok (.invokevirtual 42, 3) := by decide +kernel
theorem dP_begin_35 : decode bP_begin 35 = .ok (.aload_n 0, 1) := by decide +kernel
theorem dP_begin_36 : decode bP_begin 36 = .ok (.getfield 32, 3) := by decide +kernel
theorem dP_begin_39 : decode bP_begin 39 = .ok (.invokevirtual 42, 3) := by decide +kernel
theorem dP_begin_42 : decode bP_begin 42 = .ok (.aload_n 0, 1) := by decide +kernel
theorem dP_begin_43 : decode bP_begin 43 = .ok (.iconst 3, 1) := by decide +kernel
theorem dP_begin_44 : decode bP_begin 44 = .ok (.putfield 35, 3) := by decide +kernel
theorem dP_begin_47 : decode bP_begin 47 = .ok (.aload_n 0, 1) := by decide +kernel
theorem dP_begin_48 : decode bP_begin 48 = .ok (.iconst 3, 1) := by decide +kernel
theorem dP_begin_49 : decode bP_begin 49 = .ok (.putfield 39, 3) := by decide +kernel
theorem dP_begin_52 : decode bP_begin 52 = .ok (.return_, 1) := by decide +kernel
theorem dT_nextToken_0 : decode bT_nextToken 0 = .ok (.aload_n 0, 1) := by decide +kernel
theorem dT_nextToken_1 : decode bT_nextToken 1 = .ok (.getfield 25, 3) := by decide +kernel
theorem dT_nextToken_4 : decode bT_nextToken 4 = .ok (.aload_n 0, 1) := by decide +kernel
theorem dT_nextToken_5 : decode bT_nextToken 5 = .ok (.getfield 14, 3) := by decide +kernel
theorem dT_nextToken_8 : decode bT_nextToken 8 = .ok (.invokevirtual 94, 3) := by decide +kernel
theorem dT_nextToken_11 : decode bT_nextToken 11 = .ok (.if_icmp .ge 32, 3) := by decide +kernel
theorem dT_nextToken_14 : decode bT_nextToken 14 = .ok (.aload_n 0, 1) := by decide +kernel
theorem dT_nextToken_15 : decode bT_nextToken 15 = .ok (.getfield 14, 3) := by decide +kernel
theorem dT_nextToken_18 : decode bT_nextToken 18 = .ok (.aload_n 0, 1) := by decide +kernel
theorem dT_nextToken_19 : decode bT_nextToken 19 = .ok (.getfield 25, 3) := by decide +kernel
theorem dT_nextToken_22 : decode bT_nextToken 22 = .ok (.invokevirtual 98, 3) := by decide +kernel
theorem dT_nextToken_25 : decode bT_nextToken 25 = .ok (.bipush 32, 2) := by decide +kernel
theorem dT_nextToken_27 : decode bT_nextToken 27 = .ok (.if_icmp .ne 16, 3) := by decide +kernel
theorem dT_nextToken_30 : decode bT_nextToken 30 = .ok (.aload_n 0, 1) := by decide +kernel
theorem dT_nextToken_31 : decode bT_nextToken 31 = .ok (.dup, 1) := by decide +kernel
theorem dT_nextToken_32 : decode bT_nextToken 32 = .ok (.getfield 25, 3) := by decide +kernel
theorem dT_nextToken_35 : decode bT_nextToken 35 = .ok (.iconst 1, 1) := by decide +kernel
theorem dT_nextToken_36 : decode bT_nextToken 36 = .ok (.iadd, 1) := by decide +kernel
theorem dT_nextToken_37 : decode bT_nextToken 37 = .ok (.putfield 25, 3) := by decide +kernel
theorem dT_nextToken_40 : decode bT_nextToken 40 = .ok (.goto (-40), 3) := by decide +kernel
theorem dT_nextToken_43 : decode bT_nextToken 43 = .ok (.aload_n 0, 1) := by decide +kernel
theorem dT_nextToken_44 : decode bT_nextToken 44 = .ok (.aload_n 0, 1) := by decide +kernel
theorem dT_nextToken_45 : decode bT_nextToken 45 = .ok (.getfield 25, 3) := by decide +kernel
theorem dT_nextToken_48 : decode bT_nextToken 48 = .ok (.putfield 46, 3) := by decide +kernel
theorem dT_nextToken_51 : decode bT_nextToken 51 = .ok (.aload_n 0, 1) := by decide +kernel
theorem dT_nextToken_52 : decode bT_nextToken 52 = .ok (.getfield 25, 3) := by decide +kernel
theorem dT_nextToken_55 : decode bT_nextToken 55 = .ok (.aload_n 0, 1) := by decide +kernel
theorem dT_nextToken_56 : decode bT_nextToken 56 = .ok (.getfield 14, 3) := by decide +kernel
theorem dT_nextToken_59 : decode bT_nextToken 59 = .ok (.invokevirtual 94, 3) := by decide +kernel
theorem dT_nextToken_62 : decode bT_nextToken 62 = .ok (.if_icmp .lt 11, 3) := by decide +kernel
theorem dT_nextToken_65 : decode bT_nextToken 65 = .ok (.aload_n 0, 1) := by decide +kernel
theorem dT_nextToken_66 : decode bT_nextToken 66 = .ok (.sipush 257, 3) := by decide +kernel
theorem dT_nextToken_69 : decode bT_nextToken 69 = .ok (.putfield 39, 3) := by decide +kernel
theorem dT_nextToken_72 : decode bT_nextToken 72 = .ok (.return_, 1) := by decide +kernel
theorem dT_nextToken_73 : decode bT_nextToken 73 = .ok (.aload_n 0, 1) := by decide +kernel
theorem dT_nextToken_74 : decode bT_nextToken 74 = .ok (.aload_n 0, 1) := by decide +kernel
theorem dT_nextToken_75 : decode bT_nextToken 75 = .ok (.getfield 14, 3) := by decide +kernel
theorem dT_nextToken_78 : decode bT_nextToken 78 = .ok (.aload_n 0, 1) := by decide +kernel
theorem dT_nextToken_79 : decode bT_nextToken 79 = .ok (.getfield 25, 3) := by decide +kernel
theorem dT_nextToken_82 : decode bT_nextToken 82 = .ok (.invokevirtual 98, 3) := by decide +kernel
theorem dT_nextToken_85 : decode bT_nextToken 85 = .ok (.putfield 39, 3) := by decide +kernel
theorem dT_nextToken_88 : decode bT_nextToken 88 = .ok (.aload_n 0, 1) := by decide +kernel
theorem dT_nextToken_89 : decode bT_nextToken 89 = .ok (.getfield 39, 3) := by decide +kernel
theorem dT_nextToken_92 : decode bT_nextToken 92 = .ok (.invokestatic 102, 3) := by decide +kernel
theorem dT_nextToken_95 : decode bT_nextToken 95 = .ok (.ifCond .ne 14, 3) := by decide +kernel
theorem dT_nextToken_98 : decode bT_nextToken 98 = .ok (.aload_n 0, 1) := by decide +kernel
theorem dT_nextToken_99 : decode bT_nextToken 99 = .ok (.dup, 1) := by decide +kernel
theorem dT_nextToken_100 : decode bT_nextToken 100 = .ok (.getfield 25, 3) := by decide +kernel
theorem dT_nextToken_103 : decode bT_nextToken 103 = .ok (.iconst 1, 1) := by decide +kernel
theorem dT_nextToken_104 : decode bT_nextToken 104 = .ok (.iadd, 1) := by decide +kernel
theorem dT_nextToken_105 : decode bT_nextToken 105 = .ok (.putfield 25, 3) := by decide +kernel
theorem dT_nextToken_108 : decode bT_nextToken 108 = .ok (.return_, 1) := by decide +kernel
theorem dT_nextToken_109 : decode bT_nextToken 109 = .ok (.aload_n 0, 1) := by decide +kernel
theorem dT_nextToken_110 : decode bT_nextToken 110 = .ok (.iconst 0, 1) := by decide +kernel
theorem dT_nextToken_111 : decode bT_nextToken 111 = .ok (.putfield 75, 3) := by decide +kernel
theorem dT_nextToken_114 : decode bT_nextToken 114 = .ok (.aload_n 0, 1) := by decide +kernel
theorem dT_nextToken_115 : decode bT_nextToken 115 = .ok (.getfield 25, 3) := by decide +kernel
theorem dT_nextToken_118 : decode bT_nextToken 118 = .ok (.aload_n 0, 1) := by decide +kernel
theorem dT_nextToken_119 : decode bT_nextToken 119 = .ok (.getfield 14, 3) := by decide +kernel
theorem dT_nextToken_122 : decode bT_nextToken 122 = .ok (.invokevirtual 94, 3) := by decide +kernel
theorem dT_nextToken_125 : decode bT_nextToken 125 = .ok (.if_icmp .ge 64, 3) := by decide +kernel
theorem dT_nextToken_128 : decode bT_nextToken 128 = .ok (.aload_n 0, 1) := by decide +kernel
theorem dT_nextToken_129 : decode bT_nextToken 129 = .ok (.getfield 14, 3) := by decide +kernel
theorem dT_nextToken_132 : decode bT_nextToken 132 = .ok (.aload_n 0, 1) := by decide +kernel
theorem dT_nextToken_133 : decode bT_nextToken 133 = .ok (.getfield 25, 3) := by decide +kernel
theorem dT_nextToken_136 : decode bT_nextToken 136 = .ok (.invokevirtual 98, 3) := by decide +kernel
theorem dT_nextToken_139 : decode bT_nextToken 139 = .ok (.invokestatic 102, 3) := by decide +kernel
theorem dT_nextToken_142 : decode bT_nextToken 142 = .ok (.ifCond .eq 47, 3) := by decide +kernel
theorem dT_nextToken_145 : decode bT_nextToken 145 = .ok (.aload_n 0, 1) := by decide +kernel
theorem dT_nextToken_146 : decode bT_nextToken 146 = .ok (.bipush 100, 2) := by decide +kernel
theorem dT_nextToken_148 : decode bT_nextToken 148 = .ok (.bipush 10, 2) := by decide +kernel
theorem dT_nextToken_150 : decode bT_nextToken 150 = .ok (.aload_n 0, 1) := by decide +kernel
theorem dT_nextToken_151 : decode bT_nextToken 151 = .ok (.getfield 75, 3) := by decide +kernel
theorem dT_nextToken_154 : decode bT_nextToken 154 = .ok (.imul, 1) := by decide +kernel
theorem dT_nextToken_155 : decode bT_nextToken 155 = .ok (.aload_n 0, 1) := by decide +kernel
theorem dT_nextToken_156 : decode bT_nextToken 156 = .ok (.getfield 14, 3) := by decide +kernel
theorem dT_nextToken_159 : decode bT_nextToken 159 = .ok (.aload_n 0, 1) := by decide +kernel
theorem dT_nextToken_160 : decode bT_nextToken 160 = .ok (.getfield 25, 3) := by decide +kernel
theorem dT_nextToken_163 : decode bT_nextToken 163 = .ok (.invokevirtual 98, 3) := by decide +kernel
theorem dT_nextToken_166 : decode bT_nextToken 166 = .ok (.iadd, 1) := by decide +kernel
theorem dT_nextToken_167 : decode bT_nextToken 167 = .ok (.bipush 48, 2) := by decide +kernel
theorem dT_nextToken_169 : decode bT_nextToken 169 = .ok (.isub, 1) := by decide +kernel
theorem dT_nextToken_170 : decode bT_nextToken 170 = .ok (.invokestatic 106, 3) := by decide +kernel
theorem dT_nextToken_173 : decode bT_nextToken 173 = .ok (.putfield 75, 3) := by decide +kernel
theorem dT_nextToken_176 : decode bT_nextToken 176 = .ok (.aload_n 0, 1) := by decide +kernel
theorem dT_nextToken_177 : decode bT_nextToken 177 = .ok (.dup, 1) := by decide +kernel
theorem dT_nextToken_178 : decode bT_nextToken 178 = .ok (.getfield 25, 3) := by decide +kernel
theorem dT_nextToken_181 : decode bT_nextToken 181 = .ok (.iconst 1, 1) := by decide +kernel
theorem dT_nextToken_182 : decode bT_nextToken 182 = .ok (.iadd, 1) := by decide +kernel
theorem dT_nextToken_183 : decode bT_nextToken 183 = .ok (.putfield 25, 3) := by decide +kernel
theorem dT_nextToken_186 : decode bT_nextToken 186 = .ok (.goto (-72), 3) := by decide +kernel
theorem dT_nextToken_189 : decode bT_nextToken 189 = .ok (.aload_n 0, 1) := by decide +kernel
theorem dT_nextToken_190 : decode bT_nextToken 190 = .ok (.getfield 39, 3) := by decide +kernel
theorem dT_nextToken_193 : decode bT_nextToken 193 = .ok (.bipush 48, 2) := by decide +kernel
theorem dT_nextToken_195 : decode bT_nextToken 195 = .ok (.if_icmp .ne 20, 3) := by decide +kernel
theorem dT_nextToken_198 : decode bT_nextToken 198 = .ok (.aload_n 0, 1) := by decide +kernel
theorem dT_nextToken_199 : decode bT_nextToken 199 = .ok (.getfield 25, 3) := by decide +kernel
theorem dT_nextToken_202 : decode bT_nextToken 202 = .ok (.aload_n 0, 1) := by decide +kernel
theorem dT_nextToken_203 : decode bT_nextToken 203 = .ok (.getfield 46, 3) := by decide +kernel
theorem dT_nextToken_206 : decode bT_nextToken 206 = .ok (.iconst 1, 1) := by decide +kernel
theorem dT_nextToken_207 : decode bT_nextToken 207 = .ok (.iadd, 1) := by decide +kernel
theorem dT_nextToken_208 : decode bT_nextToken 208 = .ok (.if_icmp .le 7, 3) := by decide +kernel
theorem dT_nextToken_211 : decode bT_nextToken 211 = .ok (.iconst 1, 1) := by decide +kernel
theorem dT_nextToken_212 : decode bT_nextToken 212 = .ok (.goto 4, 3) := by decide +kernel
theorem dT_nextToken_215 : decode bT_nextToken 215 = .ok (.iconst 0, 1) := by decide +kernel
theorem dT_nextToken_216 : decode bT_nextToken 216 = .ok (.istore_n 1, 1) := by decide +kernel
theorem dT_nextToken_217 : decode bT_nextToken 217 = .ok (.iload_n 1, 1) := by decide +kernel
theorem dT_nextToken_218 : decode bT_nextToken 218 = .ok (.ifCond .ne 12, 3) := by decide +kernel
theorem dT_nextToken_221 : decode bT_nextToken 221 = .ok (.aload_n 0, 1) := by decide +kernel
theorem dT_nextToken_222 : decode bT_nextToken 222 = .ok (.getfield 75, 3) := by decide +kernel
theorem dT_nextToken_225 : decode bT_nextToken 225 = .ok (.bipush 99, 2) := by decide +kernel
theorem dT_nextToken_227 : decode bT_nextToken 227 = .ok (.if_icmp .le 8, 3) := by decide +kernel
theorem dT_nextToken_230 : decode bT_nextToken 230 = .ok (.aload_n 0, 1) := by decide +kernel
theorem dT_nextToken_231 : decode bT_nextToken 231 = .ok (.iconst (-1), 1) := by decide +kernel
theorem dT_nextToken_232 : decode bT_nextToken 232 = .ok (.putfield 75, 3) := by decide +kernel
theorem dT_nextToken_235 : decode bT_nextToken 235 = .ok (.aload_n 0, 1) := by decide +kernel
theorem dT_nextToken_236 : decode bT_nextToken 236 = .ok (.sipush 256, 3) := by decide +kernel
theorem dT_nextToken_239 : decode bT_nextToken 239 = .ok (.putfield 39, 3) := by decide +kernel
theorem dT_nextToken_242 : decode bT_nextToken 242 = .ok (.return_, 1) := by decide +kernel
theorem dR_at_0 : decode bR_at 0 = .ok (.iload_n 1, 1) := by decide +kernel
theorem dR_at_1 : decode bR_at 1 = .ok (.ifCond .lt 12, 3) := by decide +kernel
theorem dR_at_4 : decode bR_at 4 = .ok (.iload_n 1, 1) := by decide +kernel
theorem dR_at_5 : decode bR_at 5 = .ok (.aload_n 0, 1) := by decide +kernel
theorem dR_at_6 : decode bR_at 6 = .ok (.getfield 13, 3) := by decide +kernel
theorem dR_at_9 : decode bR_at 9 = .ok (.arraylength, 1) := by decide +kernel
theorem dR_at_10 : decode bR_at 10 = .ok (.if_icmp .lt 7, 3) := by decide +kernel
theorem dR_at_13 : decode bR_at 13 = .ok (.iconst 0, 1) := by decide +kernel
theorem dR_at_14 : decode bR_at 14 = .ok (.goto 9, 3) := by decide +kernel
theorem dR_at_17 : decode bR_at 17 = .ok (.aload_n 0, 1) := by decide +kernel
theorem dR_at_18 : decode bR_at 18 = .ok (.getfield 13, 3) := by decide +kernel
theorem dR_at_21 : decode bR_at 21 = .ok (.iload_n 1, 1) := by decide +kernel
theorem dR_at_22 : decode bR_at 22 = .ok (.iaload, 1) := by decide +kernel
theorem dR_at_23 : decode bR_at 23 = .ok (.ireturn, 1) := by decide +kernel
theorem dT_isDigit_0 : decode bT_isDigit 0 = .ok (.iload_n 0, 1) := by decide +kernel
theorem dT_isDigit_1 : decode bT_isDigit 1 = .ok (.bipush 48, 2) := by decide +kernel
theorem dT_isDigit_3 : decode bT_isDigit 3 = .ok (.if_icmp .lt 13, 3) := by decide +kernel
theorem dT_isDigit_6 : decode bT_isDigit 6 = .ok (.iload_n 0, 1) := by decide +kernel
theorem dT_isDigit_7 : decode bT_isDigit 7 = .ok (.bipush 57, 2) := by decide +kernel
theorem dT_isDigit_9 : decode bT_isDigit 9 = .ok (.if_icmp .gt 7, 3) := by decide +kernel
theorem dT_isDigit_12 : decode bT_isDigit 12 = .ok (.iconst 1, 1) := by decide +kernel
theorem dT_isDigit_13 : decode bT_isDigit 13 = .ok (.goto 4, 3) := by decide +kernel
theorem dT_isDigit_16 : decode bT_isDigit 16 = .ok (.iconst 0, 1) := by decide +kernel
theorem dT_isDigit_17 : decode bT_isDigit 17 = .ok (.ireturn, 1) := by decide +kernel
theorem dK_min_0 : decode bK_min 0 = .ok (.iload_n 0, 1) := by decide +kernel
theorem dK_min_1 : decode bK_min 1 = .ok (.iload_n 1, 1) := by decide +kernel
theorem dK_min_2 : decode bK_min 2 = .ok (.if_icmp .gt 7, 3) := by decide +kernel
theorem dK_min_5 : decode bK_min 5 = .ok (.iload_n 0, 1) := by decide +kernel
theorem dK_min_6 : decode bK_min 6 = .ok (.goto 4, 3) := by decide +kernel
theorem dK_min_9 : decode bK_min 9 = .ok (.iload_n 1, 1) := by decide +kernel
theorem dK_min_10 : decode bK_min 10 = .ok (.ireturn, 1) := by decide +kernel
theorem dT_readItem_0 : decode bT_readItem 0 = .ok (.aload_n 0, 1) := by decide +kernel
theorem dT_readItem_1 : decode bT_readItem 1 = .ok (.getfield 39, 3) := by decide +kernel
theorem dT_readItem_4 : decode bT_readItem 4 = .ok (.lookupswitch 134 #[(98, 113), (114, 92), (115, 44), (116, 68)], 44) := by decide +kernel
theorem dT_readItem_48 : decode bT_readItem 48 = .ok (.aload_n 1, 1) := by decide +kernel
theorem dT_readItem_49 : decode bT_readItem 49 = .ok (.getfield 49, 3) := by decide +kernel
theorem dT_readItem_52 : decode bT_readItem 52 = .ok (.invokevirtual 52, 3) := by decide +kernel
theorem dT_readItem_55 : decode bT_readItem 55 = .ok (.ifCond .ne 15, 3) := by decide +kernel
theorem dT_readItem_58 : decode bT_readItem 58 = .ok (.aload_n 0, 1) := by decide +kernel
theorem dT_readItem_59 : decode bT_readItem 59 = .ok (.aload_n 1, 1) := by decide +kernel
theorem dT_readItem_60 : decode bT_readItem 60 = .ok (.invokevirtual 56, 3) := by decide +kernel
theorem dT_readItem_63 : decode bT_readItem 63 = .ok (.ifCond .eq 7, 3) := by decide +kernel
theorem dT_readItem_66 : decode bT_readItem 66 = .ok (.iconst 1, 1) := by decide +kernel
theorem dT_readItem_67 : decode bT_readItem 67 = .ok (.goto 4, 3) := by decide +kernel
theorem dT_readItem_70 : decode bT_readItem 70 = .ok (.iconst 0, 1) := by decide +kernel
theorem dT_readItem_71 : decode bT_readItem 71 = .ok (.ireturn, 1) := by decide +kernel
theorem dT_readItem_72 : decode bT_readItem 72 = .ok (.aload_n 1, 1) := by decide +kernel
theorem dT_readItem_73 : decode bT_readItem 73 = .ok (.getfield 59, 3) := by decide +kernel
theorem dT_readItem_76 : decode bT_readItem 76 = .ok (.invokevirtual 52, 3) := by decide +kernel
theorem dT_readItem_79 : decode bT_readItem 79 = .ok (.ifCond .ne 15, 3) := by decide +kernel
theorem dT_readItem_82 : decode bT_readItem 82 = .ok (.aload_n 0, 1) := by decide +kernel
theorem dT_readItem_83 : decode bT_readItem 83 = .ok (.aload_n 1, 1) := by decide +kernel
theorem dT_readItem_84 : decode bT_readItem 84 = .ok (.invokevirtual 62, 3) := by decide +kernel
theorem dT_readItem_87 : decode bT_readItem 87 = .ok (.ifCond .eq 7, 3) := by decide +kernel
theorem dT_readItem_90 : decode bT_readItem 90 = .ok (.iconst 1, 1) := by decide +kernel
theorem dT_readItem_91 : decode bT_readItem 91 = .ok (.goto 4, 3) := by decide +kernel
theorem dT_readItem_94 : decode bT_readItem 94 = .ok (.iconst 0, 1) := by decide +kernel
theorem dT_readItem_95 : decode bT_readItem 95 = .ok (.ireturn, 1) := by decide +kernel
theorem dT_readItem_96 : decode bT_readItem 96 = .ok (.aload_n 0, 1) := by decide +kernel
theorem dT_readItem_97 : decode bT_readItem 97 = .ok (.getfield 29, 3) := by decide +kernel
theorem dT_readItem_100 : decode bT_readItem 100 = .ok (.ifCond .ne 15, 3) := by decide +kernel
theorem dT_readItem_103 : decode bT_readItem 103 = .ok (.aload_n 0, 1) := by decide +kernel
theorem dT_readItem_104 : decode bT_readItem 104 = .ok (.aload_n 1, 1) := by decide +kernel
theorem dT_readItem_105 : decode bT_readItem 105 = .ok (.invokevirtual 65, 3) := by decide +kernel
theorem dT_readItem_108 : decode bT_readItem 108 = .ok (.ifCond .eq 7, 3) := by decide +kernel
theorem dT_readItem_111 : decode bT_readItem 111 = .ok (.iconst 1, 1) := by decide +kernel
theorem dT_readItem_112 : decode bT_readItem 112 = .ok (.goto 4, 3) := by decide +kernel
theorem dT_readItem_115 : decode bT_readItem 115 = .ok (.iconst 0, 1) := by decide +kernel
theorem dT_readItem_116 : decode bT_readItem 116 = .ok (.ireturn, 1) := by decide +kernel
theorem dT_readItem_117 : decode bT_readItem 117 = .ok (.aload_n 0, 1) := by decide +kernel
theorem dT_readItem_118 : decode bT_readItem 118 = .ok (.getfield 33, 3) := by decide +kernel
theorem dT_readItem_121 : decode bT_readItem 121 = .ok (.ifCond .ne 15, 3) := by decide +kernel
theorem dT_readItem_124 : decode bT_readItem 124 = .ok (.aload_n 0, 1) := by decide +kernel
theorem dT_readItem_125 : decode bT_readItem 125 = .ok (.aload_n 1, 1) := by decide +kernel
theorem dT_readItem_126 : decode bT_readItem 126 = .ok (.invokevirtual 68, 3) := by decide +kernel
theorem dT_readItem_129 : decode bT_readItem 129 = .ok (.ifCond .eq 7, 3) := by decide +kernel
theorem dT_readItem_132 : decode bT_readItem 132 = .ok (.iconst 1, 1) := by decide +kernel
theorem dT_readItem_133 : decode bT_readItem 133 = .ok (.goto 4, 3) := by decide +kernel
theorem dT_readItem_136 : decode bT_readItem 136 = .ok (.iconst 0, 1) := by decide +kernel
theorem dT_readItem_137 : decode bT_readItem 137 = .ok (.ireturn, 1) := by decide +kernel
theorem dT_readItem_138 : decode bT_readItem 138 = .ok (.iconst 0, 1) := by decide +kernel
theorem dT_readItem_139 : decode bT_readItem 139 = .ok (.ireturn, 1) := by decide +kernel
theorem dT_readStretch_0 : decode bT_readStretch 0 = .ok (.aload_n 0, 1) := by decide +kernel
theorem dT_readStretch_1 : decode bT_readStretch 1 = .ok (.iconst 1, 1) := by decide +kernel
theorem dT_readStretch_2 : decode bT_readStretch 2 = .ok (.bipush 20, 2) := by decide +kernel
theorem dT_readStretch_4 : decode bT_readStretch 4 = .ok (.invokevirtual 71, 3) := by decide +kernel
theorem dT_readStretch_7 : decode bT_readStretch 7 = .ok (.ifCond .ne 5, 3) := by decide +kernel
theorem dT_readStretch_10 : decode bT_readStretch 10 = .ok (.iconst 0, 1) := by decide +kernel
theorem dT_readStretch_11 : decode bT_readStretch 11 = .ok (.ireturn, 1) := by decide +kernel
theorem dT_readStretch_12 : decode bT_readStretch 12 = .ok (.aload_n 0, 1) := by decide +kernel
theorem dT_readStretch_13 : decode bT_readStretch 13 = .ok (.getfield 75, 3) := by decide +kernel
theorem dT_readStretch_16 : decode bT_readStretch 16 = .ok (.istore_n 2, 1) := by decide +kernel
theorem dT_readStretch_17 : decode bT_readStretch 17 = .ok (.aload_n 0, 1) := by decide +kernel
theorem dT_readStretch_18 : decode bT_readStretch 18 = .ok (.iconst 1, 1) := by decide +kernel
theorem dT_readStretch_19 : decode bT_readStretch 19 = .ok (.bipush 20, 2) := by decide +kernel
theorem dT_readStretch_21 : decode bT_readStretch 21 = .ok (.invokevirtual 71, 3) := by decide +kernel
theorem dT_readStretch_24 : decode bT_readStretch 24 = .ok (.ifCond .ne 5, 3) := by decide +kernel
theorem dT_readStretch_27 : decode bT_readStretch 27 = .ok (.iconst 0, 1) := by decide +kernel
theorem dT_readStretch_28 : decode bT_readStretch 28 = .ok (.ireturn, 1) := by decide +kernel
theorem dT_readStretch_29 : decode bT_readStretch 29 = .ok (.aload_n 0, 1) := by decide +kernel
theorem dT_readStretch_30 : decode bT_readStretch 30 = .ok (.getfield 75, 3) := by decide +kernel
theorem dT_readStretch_33 : decode bT_readStretch 33 = .ok (.istore_n 3, 1) := by decide +kernel
theorem dT_readStretch_34 : decode bT_readStretch 34 = .ok (.aload_n 0, 1) := by decide +kernel
theorem dT_readStretch_35 : decode bT_readStretch 35 = .ok (.iconst 0, 1) := by decide +kernel
theorem dT_readStretch_36 : decode bT_readStretch 36 = .ok (.bipush 6, 2) := by decide +kernel
theorem dT_readStretch_38 : decode bT_readStretch 38 = .ok (.invokevirtual 71, 3) := by decide +kernel
theorem dT_readStretch_41 : decode bT_readStretch 41 = .ok (.ifCond .ne 5, 3) := by decide +kernel
theorem dT_readStretch_44 : decode bT_readStretch 44 = .ok (.iconst 0, 1) := by decide +kernel
theorem dT_readStretch_45 : decode bT_readStretch 45 = .ok (.ireturn, 1) := by decide +kernel
theorem dT_readStretch_46 : decode bT_readStretch 46 = .ok (.aload_n 1, 1) := by decide +kernel
theorem dT_readStretch_47 : decode bT_readStretch 47 = .ok (.iload_n 2, 1) := by decide +kernel
theorem dT_readStretch_48 : decode bT_readStretch 48 = .ok (.iload_n 3, 1) := by decide +kernel
theorem dT_readStretch_49 : decode bT_readStretch 49 = .ok (.aload_n 0, 1) := by decide +kernel
theorem dT_readStretch_50 : decode bT_readStretch 50 = .ok (.getfield 75, 3) := by decide +kernel
theorem dT_readStretch_53 : decode bT_readStretch 53 = .ok (.iconst 3, 1) := by decide +kernel
theorem dT_readStretch_54 : decode bT_readStretch 54 = .ok (.isub, 1) := by decide +kernel
theorem dT_readStretch_55 : decode bT_readStretch 55 = .ok (.invokevirtual 78, 3) := by decide +kernel
theorem dT_readStretch_58 : decode bT_readStretch 58 = .ok (.aload_n 0, 1) := by decide +kernel
theorem dT_readStretch_59 : decode bT_readStretch 59 = .ok (.invokevirtual 82, 3) := by decide +kernel
theorem dT_readStretch_62 : decode bT_readStretch 62 = .ok (.ireturn, 1) := by decide +kernel
theorem dT_readNumber_0 : decode bT_readNumber 0 = .ok (.aload_n 0, 1) := by decide +kernel
theorem dT_readNumber_1 : decode bT_readNumber 1 = .ok (.invokevirtual 36, 3) := by decide +kernel
theorem dT_readNumber_4 : decode bT_readNumber 4 = .ok (.aload_n 0, 1) := by decide +kernel
theorem dT_readNumber_5 : decode bT_readNumber 5 = .ok (.getfield 39, 3) := by decide +kernel
theorem dT_readNumber_8 : decode bT_readNumber 8 = .ok (.sipush 256, 3) := by decide +kernel
theorem dT_readNumber_11 : decode bT_readNumber 11 = .ok (.if_icmp .ne 23, 3) := by decide +kernel
theorem dT_readNumber_14 : decode bT_readNumber 14 = .ok (.aload_n 0, 1) := by decide +kernel
theorem dT_readNumber_15 : decode bT_readNumber 15 = .ok (.getfield 75, 3) := by decide +kernel
theorem dT_readNumber_18 : decode bT_readNumber 18 = .ok (.iload_n 1, 1) := by decide +kernel
theorem dT_readNumber_19 : decode bT_readNumber 19 = .ok (.if_icmp .lt 15, 3) := by decide +kernel
theorem dT_readNumber_22 : decode bT_readNumber 22 = .ok (.aload_n 0, 1) := by decide +kernel
theorem dT_readNumber_23 : decode bT_readNumber 23 = .ok (.getfield 75, 3) := by decide +kernel
theorem dT_readNumber_26 : decode bT_readNumber 26 = .ok (.iload_n 2, 1) := by decide +kernel
theorem dT_readNumber_27 : decode bT_readNumber 27 = .ok (.if_icmp .gt 7, 3) := by decide +kernel
theorem dT_readNumber_30 : decode bT_readNumber 30 = .ok (.iconst 1, 1) := by decide +kernel
theorem dT_readNumber_31 : decode bT_readNumber 31 = .ok (.goto 4, 3) := by decide +kernel
theorem dT_readNumber_34 : decode bT_readNumber 34 = .ok (.iconst 0, 1) := by decide +kernel
theorem dT_readNumber_35 : decode bT_readNumber 35 = .ok (.ireturn, 1) := by decide +kernel
theorem dP_addStretch_0 : decode bP_addStretch 0 = .ok (.aload_n 0, 1) := by decide +kernel
theorem dP_addStretch_1 : decode bP_addStretch 1 = .ok (.getfield 14, 3) := by decide +kernel
theorem dP_addStretch_4 : decode bP_addStretch 4 = .ok (.iload_n 1, 1) := by decide +kernel
theorem dP_addStretch_5 : decode bP_addStretch 5 = .ok (.invokevirtual 45, 3) := by decide +kernel
theorem dP_addStretch_8 : decode bP_addStretch 8 = .ok (.aload_n 0, 1) := by decide +kernel
theorem dP_addStretch_9 : decode bP_addStretch 9 = .ok (.getfield 20, 3) := by decide +kernel
theorem dP_addStretch_12 : decode bP_addStretch 12 = .ok (.iload_n 2, 1) := by decide +kernel
theorem dP_addStretch_13 : decode bP_addStretch 13 = .ok (.invokevirtual 45, 3) := by decide +kernel
theorem dP_addStretch_16 : decode bP_addStretch 16 = .ok (.aload_n 0, 1) := by decide +kernel
theorem dP_addStretch_17 : decode bP_addStretch 17 = .ok (.getfield 23, 3) := by decide +kernel
theorem dP_addStretch_20 : decode bP_addStretch 20 = .ok (.iload_n 3, 1) := by decide +kernel
theorem dP_addStretch_21 : decode bP_addStretch 21 = .ok (.invokevirtual 45, 3) := by decide +kernel
theorem dP_addStretch_24 : decode bP_addStretch 24 = .ok (.iconst 0, 1) := by decide +kernel
theorem dP_addStretch_25 : decode bP_addStretch 25 = .ok (.istore 4, 2) := by decide +kernel
theorem dP_addStretch_27 : decode bP_addStretch 27 = .ok (.iload 4, 2) := by decide +kernel
theorem dP_addStretch_29 : decode bP_addStretch 29 = .ok (.iload_n 1, 1) := by decide +kernel
theorem dP_addStretch_30 : decode bP_addStretch 30 = .ok (.if_icmp .ge 26, 3) := by decide +kernel
theorem dP_addStretch_33 : decode bP_addStretch 33 = .ok (.aload_n 0, 1) := by decide +kernel
theorem dP_addStretch_34 : decode bP_addStretch 34 = .ok (.getfield 29, 3) := by decide +kernel
theorem dP_addStretch_37 : decode bP_addStretch 37 = .ok (.iconst 1, 1) := by decide +kernel
theorem dP_addStretch_38 : decode bP_addStretch 38 = .ok (.iload_n 2, 1) := by decide +kernel
theorem dP_addStretch_39 : decode bP_addStretch 39 = .ok (.iload 4, 2) := by decide +kernel
theorem dP_addStretch_41 : decode bP_addStretch 41 = .ok (.iload_n 3, 1) := by decide +kernel
theorem dP_addStretch_42 : decode bP_addStretch 42 = .ok (.imul, 1) := by decide +kernel
theorem dP_addStretch_43 : decode bP_addStretch 43 = .ok (.iadd, 1) := by decide +kernel
theorem dP_addStretch_44 : decode bP_addStretch 44 = .ok (.invokestatic 48, 3) := by decide +kernel
theorem dP_addStretch_47 : decode bP_addStretch 47 = .ok (.invokevirtual 45, 3) := by decide +kernel
theorem dP_addStretch_50 : decode bP_addStretch 50 = .ok (.iinc 4 1, 3) := by decide +kernel
theorem dP_addStretch_53 : decode bP_addStretch 53 = .ok (.goto (-26), 3) := by decide +kernel
theorem dP_addStretch_56 : decode bP_addStretch 56 = .ok (.aload_n 0, 1) := by decide +kernel
theorem dP_addStretch_57 : decode bP_addStretch 57 = .ok (.getfield 26, 3) := by decide +kernel
theorem dP_addStretch_60 : decode bP_addStretch 60 = .ok (.aload_n 0, 1) := by decide +kernel
theorem dP_addStretch_61 : decode bP_addStretch 61 = .ok (.getfield 29, 3) := by decide +kernel
theorem dP_addStretch_64 : decode bP_addStretch 64 = .ok (.invokevirtual 54, 3) := by decide +kernel
theorem dP_addStretch_67 : decode bP_addStretch 67 = .ok (.invokevirtual 45, 3) := by decide +kernel
theorem dP_addStretch_70 : decode bP_addStretch 70 = .ok (.return_, 1) := by decide +kernel
theorem dT_readItemEnd_0 : decode bT_readItemEnd 0 = .ok (.aload_n 0, 1) := by decide +kernel
theorem dT_readItemEnd_1 : decode bT_readItemEnd 1 = .ok (.invokevirtual 36, 3) := by decide +kernel
theorem dT_readItemEnd_4 : decode bT_readItemEnd 4 = .ok (.aload_n 0, 1) := by decide +kernel
theorem dT_readItemEnd_5 : decode bT_readItemEnd 5 = .ok (.getfield 39, 3) := by decide +kernel
theorem dT_readItemEnd_8 : decode bT_readItemEnd 8 = .ok (.bipush 59, 2) := by decide +kernel
theorem dT_readItemEnd_10 : decode bT_readItemEnd 10 = .ok (.if_icmp .ne 7, 3) := by decide +kernel
theorem dT_readItemEnd_13 : decode bT_readItemEnd 13 = .ok (.iconst 1, 1) := by decide +kernel
theorem dT_readItemEnd_14 : decode bT_readItemEnd 14 = .ok (.goto 4, 3) := by decide +kernel
theorem dT_readItemEnd_17 : decode bT_readItemEnd 17 = .ok (.iconst 0, 1) := by decide +kernel
theorem dT_readItemEnd_18 : decode bT_readItemEnd 18 = .ok (.ireturn, 1) := by decide +kernel
theorem dT_readTraveller_0 : decode bT_readTraveller 0 = .ok (.aload_n 0, 1) := by decide +kernel
theorem dT_readTraveller_1 : decode bT_readTraveller 1 = .ok (.iconst 1, 1) := by decide +kernel
theorem dT_readTraveller_2 : decode bT_readTraveller 2 = .ok (.bipush 99, 2) := by decide +kernel
theorem dT_readTraveller_4 : decode bT_readTraveller 4 = .ok (.invokevirtual 71, 3) := by decide +kernel
theorem dT_readTraveller_7 : decode bT_readTraveller 7 = .ok (.ifCond .ne 5, 3) := by decide +kernel
theorem dT_readTraveller_10 : decode bT_readTraveller 10 = .ok (.iconst 0, 1) := by decide +kernel
theorem dT_readTraveller_11 : decode bT_readTraveller 11 = .ok (.ireturn, 1) := by decide +kernel
theorem dT_readTraveller_12 : decode bT_readTraveller 12 = .ok (.aload_n 1, 1) := by decide +kernel
theorem dT_readTraveller_13 : decode bT_readTraveller 13 = .ok (.getfield 59, 3) := by decide +kernel
theorem dT_readTraveller_16 : decode bT_readTraveller 16 = .ok (.aload_n 0, 1) := by decide +kernel
theorem dT_readTraveller_17 : decode bT_readTraveller 17 = .ok (.getfield 75, 3) := by decide +kernel
theorem dT_readTraveller_20 : decode bT_readTraveller 20 = .ok (.invokevirtual 85, 3) := by decide +kernel
theorem dT_readTraveller_23 : decode bT_readTraveller 23 = .ok (.aload_n 0, 1) := by decide +kernel
theorem dT_readTraveller_24 : decode bT_readTraveller 24 = .ok (.invokevirtual 82, 3) := by decide +kernel
theorem dT_readTraveller_27 : decode bT_readTraveller 27 = .ok (.ireturn, 1) := by decide +kernel
theorem dT_readReach_0 : decode bT_readReach 0 = .ok (.aload_n 0, 1) := by decide +kernel
theorem dT_readReach_1 : decode bT_readReach 1 = .ok (.iconst 1, 1) := by decide +kernel
theorem dT_readReach_2 : decode bT_readReach 2 = .ok (.bipush 9, 2) := by decide +kernel
theorem dT_readReach_4 : decode bT_readReach 4 = .ok (.invokevirtual 71, 3) := by decide +kernel
theorem dT_readReach_7 : decode bT_readReach 7 = .ok (.ifCond .ne 5, 3) := by decide +kernel
theorem dT_readReach_10 : decode bT_readReach 10 = .ok (.iconst 0, 1) := by decide +kernel
theorem dT_readReach_11 : decode bT_readReach 11 = .ok (.ireturn, 1) := by decide +kernel
theorem dT_readReach_12 : decode bT_readReach 12 = .ok (.aload_n 1, 1) := by decide +kernel
theorem dT_readReach_13 : decode bT_readReach 13 = .ok (.aload_n 0, 1) := by decide +kernel
theorem dT_readReach_14 : decode bT_readReach 14 = .ok (.getfield 75, 3) := by decide +kernel
theorem dT_readReach_17 : decode bT_readReach 17 = .ok (.putfield 88, 3) := by decide +kernel
theorem dT_readReach_20 : decode bT_readReach 20 = .ok (.aload_n 0, 1) := by decide +kernel
theorem dT_readReach_21 : decode bT_readReach 21 = .ok (.iconst 1, 1) := by decide +kernel
theorem dT_readReach_22 : decode bT_readReach 22 = .ok (.putfield 29, 3) := by decide +kernel
theorem dT_readReach_25 : decode bT_readReach 25 = .ok (.aload_n 0, 1) := by decide +kernel
theorem dT_readReach_26 : decode bT_readReach 26 = .ok (.invokevirtual 82, 3) := by decide +kernel
theorem dT_readReach_29 : decode bT_readReach 29 = .ok (.ireturn, 1) := by decide +kernel
theorem dT_readBoys_0 : decode bT_readBoys 0 = .ok (.aload_n 0, 1) := by decide +kernel
theorem dT_readBoys_1 : decode bT_readBoys 1 = .ok (.iconst 2, 1) := by decide +kernel
theorem dT_readBoys_2 : decode bT_readBoys 2 = .ok (.bipush 9, 2) := by decide +kernel
theorem dT_readBoys_4 : decode bT_readBoys 4 = .ok (.invokevirtual 71, 3) := by decide +kernel
theorem dT_readBoys_7 : decode bT_readBoys 7 = .ok (.ifCond .ne 5, 3) := by decide +kernel
theorem dT_readBoys_10 : decode bT_readBoys 10 = .ok (.iconst 0, 1) := by decide +kernel
theorem dT_readBoys_11 : decode bT_readBoys 11 = .ok (.ireturn, 1) := by decide +kernel
theorem dT_readBoys_12 : decode bT_readBoys 12 = .ok (.aload_n 1, 1) := by decide +kernel
theorem dT_readBoys_13 : decode bT_readBoys 13 = .ok (.aload_n 0, 1) := by decide +kernel
theorem dT_readBoys_14 : decode bT_readBoys 14 = .ok (.getfield 75, 3) := by decide +kernel
theorem dT_readBoys_17 : decode bT_readBoys 17 = .ok (.putfield 91, 3) := by decide +kernel
theorem dT_readBoys_20 : decode bT_readBoys 20 = .ok (.aload_n 0, 1) := by decide +kernel
theorem dT_readBoys_21 : decode bT_readBoys 21 = .ok (.iconst 1, 1) := by decide +kernel
theorem dT_readBoys_22 : decode bT_readBoys 22 = .ok (.putfield 33, 3) := by decide +kernel
theorem dT_readBoys_25 : decode bT_readBoys 25 = .ok (.aload_n 0, 1) := by decide +kernel
theorem dT_readBoys_26 : decode bT_readBoys 26 = .ok (.invokevirtual 82, 3) := by decide +kernel
theorem dT_readBoys_29 : decode bT_readBoys 29 = .ok (.ireturn, 1) := by decide +kernel
theorem dS_begin_0 : decode bS_begin 0 = .ok (.aload_n 0, 1) := by decide +kernel
theorem dS_begin_1 : decode bS_begin 1 = .ok (.getfield 14, 3) := by decide +kernel
theorem dS_begin_4 : decode bS_begin 4 = .ok (.invokevirtual 32, 3) := by decide +kernel
theorem dS_begin_7 : decode bS_begin 7 = .ok (.aload_n 0, 1) := by decide +kernel
theorem dS_begin_8 : decode bS_begin 8 = .ok (.getfield 20, 3) := by decide +kernel
theorem dS_begin_11 : decode bS_begin 11 = .ok (.invokevirtual 32, 3) := by decide +kernel
theorem dS_begin_14 : decode bS_begin 14 = .ok (.aload_n 0, 1) := by decide +kernel
theorem dS_begin_15 : decode bS_begin 15 = .ok (.getfield 23, 3) := by decide +kernel
theorem dS_begin_18 : decode bS_begin 18 = .ok (.invokevirtual 32, 3) := by decide +kernel
theorem dS_begin_21 : decode bS_begin 21 = .ok (.aload_n 0, 1) := by decide +kernel
theorem dS_begin_22 : decode bS_begin 22 = .ok (.getfield 26, 3) := by decide +kernel
theorem dS_begin_25 : decode bS_begin 25 = .ok (.invokevirtual 32, 3) := by decide +kernel
theorem dS_begin_28 : decode bS_begin 28 = .ok (.aload_n 0, 1) := by decide +kernel
theorem dS_begin_29 : decode bS_begin 29 = .ok (.getfield 29, 3) := by decide +kernel
theorem dS_begin_32 : decode bS_begin 32 = .ok (.invokevirtual 32, 3) := by decide +kernel
theorem dS_begin_35 : decode bS_begin 35 = .ok (.return_, 1) := by decide +kernel
theorem dD_empty_0 : decode bD_empty 0 = .ok (.aload_n 0, 1) := by decide +kernel
theorem dD_empty_1 : decode bD_empty 1 = .ok (.getfield 14, 3) := by decide +kernel
theorem dD_empty_4 : decode bD_empty 4 = .ok (.invokevirtual 30, 3) := by decide +kernel
theorem dD_empty_7 : decode bD_empty 7 = .ok (.aload_n 0, 1) := by decide +kernel
theorem dD_empty_8 : decode bD_empty 8 = .ok (.getfield 20, 3) := by decide +kernel
theorem dD_empty_11 : decode bD_empty 11 = .ok (.invokevirtual 30, 3) := by decide +kernel
theorem dD_empty_14 : decode bD_empty 14 = .ok (.aload_n 0, 1) := by decide +kernel
theorem dD_empty_15 : decode bD_empty 15 = .ok (.getfield 23, 3) := by decide +kernel
theorem dD_empty_18 : decode bD_empty 18 = .ok (.invokevirtual 30, 3) := by decide +kernel
theorem dD_empty_21 : decode bD_empty 21 = .ok (.return_, 1) := by decide +kernel
theorem dN_empty_0 : decode bN_empty 0 = .ok (.aload_n 0, 1) := by decide +kernel
theorem dN_empty_1 : decode bN_empty 1 = .ok (.getfield 14, 3) := by decide +kernel
theorem dN_empty_4 : decode bN_empty 4 = .ok (.invokevirtual 26, 3) := by decide +kernel
theorem dN_empty_7 : decode bN_empty 7 = .ok (.aload_n 0, 1) := by decide +kernel
theorem dN_empty_8 : decode bN_empty 8 = .ok (.getfield 20, 3) := by decide +kernel
theorem dN_empty_11 : decode bN_empty 11 = .ok (.invokevirtual 26, 3) := by decide +kernel
theorem dN_empty_14 : decode bN_empty 14 = .ok (.return_, 1) := by decide +kernel
theorem dM_empty_0 : decode bM_empty 0 = .ok (.aload_n 0, 1) := by decide +kernel
theorem dM_empty_1 : decode bM_empty 1 = .ok (.getfield 14, 3) := by decide +kernel
theorem dM_empty_4 : decode bM_empty 4 = .ok (.invokevirtual 29, 3) := by decide +kernel
theorem dM_empty_7 : decode bM_empty 7 = .ok (.aload_n 0, 1) := by decide +kernel
theorem dM_empty_8 : decode bM_empty 8 = .ok (.getfield 20, 3) := by decide +kernel
theorem dM_empty_11 : decode bM_empty 11 = .ok (.invokevirtual 29, 3) := by decide +kernel
theorem dM_empty_14 : decode bM_empty 14 = .ok (.aload_n 0, 1) := by decide +kernel
theorem dM_empty_15 : decode bM_empty 15 = .ok (.getfield 23, 3) := by decide +kernel
theorem dM_empty_18 : decode bM_empty 18 = .ok (.invokevirtual 29, 3) := by decide +kernel
theorem dM_empty_21 : decode bM_empty 21 = .ok (.return_, 1) := by decide +kernel
theorem dP_hasStretch_0 : decode bP_hasStretch 0 = .ok (.iload_n 1, 1) := by decide +kernel
theorem dP_hasStretch_1 : decode bP_hasStretch 1 = .ok (.ifCond .lt 18, 3) := by decide +kernel
theorem dP_hasStretch_4 : decode bP_hasStretch 4 = .ok (.iload_n 1, 1) := by decide +kernel
theorem dP_hasStretch_5 : decode bP_hasStretch 5 = .ok (.aload_n 0, 1) := by decide +kernel
theorem dP_hasStretch_6 : decode bP_hasStretch 6 = .ok (.getfield 14, 3) := by decide +kernel
theorem dP_hasStretch_9 : decode bP_hasStretch 9 = .ok (.invokevirtual 54, 3) := by decide +kernel
theorem dP_hasStretch_12 : decode bP_hasStretch 12 = .ok (.if_icmp .ge 7, 3) := by decide +kernel
theorem dP_hasStretch_15 : decode bP_hasStretch 15 = .ok (.iconst 1, 1) := by decide +kernel
theorem dP_hasStretch_16 : decode bP_hasStretch 16 = .ok (.goto 4, 3) := by decide +kernel
theorem dP_hasStretch_19 : decode bP_hasStretch 19 = .ok (.iconst 0, 1) := by decide +kernel
theorem dP_hasStretch_20 : decode bP_hasStretch 20 = .ok (.ireturn, 1) := by decide +kernel
theorem dP_landingMark_0 : decode bP_landingMark 0 = .ok (.aload_n 0, 1) := by decide +kernel
theorem dP_landingMark_1 : decode bP_landingMark 1 = .ok (.getfield 26, 3) := by decide +kernel
theorem dP_landingMark_4 : decode bP_landingMark 4 = .ok (.iload_n 1, 1) := by decide +kernel
theorem dP_landingMark_5 : decode bP_landingMark 5 = .ok (.iconst 1, 1) := by decide +kernel
theorem dP_landingMark_6 : decode bP_landingMark 6 = .ok (.isub, 1) := by decide +kernel
theorem dP_landingMark_7 : decode bP_landingMark 7 = .ok (.invokevirtual 58, 3) := by decide +kernel
theorem dP_landingMark_10 : decode bP_landingMark 10 = .ok (.ireturn, 1) := by decide +kernel
theorem dP_hasTraveller_0 : decode bP_hasTraveller 0 = .ok (.iload_n 1, 1) := by decide +kernel
theorem dP_hasTraveller_1 : decode bP_hasTraveller 1 = .ok (.ifCond .lt 18, 3) := by decide +kernel
theorem dP_hasTraveller_4 : decode bP_hasTraveller 4 = .ok (.iload_n 1, 1) := by decide +kernel
theorem dP_hasTraveller_5 : decode bP_hasTraveller 5 = .ok (.aload_n 0, 1) := by decide +kernel
theorem dP_hasTraveller_6 : decode bP_hasTraveller 6 = .ok (.getfield 32, 3) := by decide +kernel
theorem dP_hasTraveller_9 : decode bP_hasTraveller 9 = .ok (.invokevirtual 54, 3) := by decide +kernel
theorem dP_hasTraveller_12 : decode bP_hasTraveller 12 = .ok (.if_icmp .ge 7, 3) := by decide +kernel
theorem dP_hasTraveller_15 : decode bP_hasTraveller 15 = .ok (.iconst 1, 1) := by decide +kernel
theorem dP_hasTraveller_16 : decode bP_hasTraveller 16 = .ok (.goto 4, 3) := by decide +kernel
theorem dP_hasTraveller_19 : decode bP_hasTraveller 19 = .ok (.iconst 0, 1) := by decide +kernel
theorem dP_hasTraveller_20 : decode bP_hasTraveller 20 = .ok (.ireturn, 1) := by decide +kernel
theorem dP_hasThousand_0 : decode bP_hasThousand 0 = .ok (.iload_n 1, 1) := by decide +kernel
theorem dP_hasThousand_1 : decode bP_hasThousand 1 = .ok (.ifCond .lt 18, 3) := by decide +kernel
theorem dP_hasThousand_4 : decode bP_hasThousand 4 = .ok (.iload_n 1, 1) := by decide +kernel
theorem dP_hasThousand_5 : decode bP_hasThousand 5 = .ok (.aload_n 0, 1) := by decide +kernel
theorem dP_hasThousand_6 : decode bP_hasThousand 6 = .ok (.getfield 29, 3) := by decide +kernel
theorem dP_hasThousand_9 : decode bP_hasThousand 9 = .ok (.invokevirtual 54, 3) := by decide +kernel
theorem dP_hasThousand_12 : decode bP_hasThousand 12 = .ok (.if_icmp .ge 7, 3) := by decide +kernel
theorem dP_hasThousand_15 : decode bP_hasThousand 15 = .ok (.iconst 1, 1) := by decide +kernel
theorem dP_hasThousand_16 : decode bP_hasThousand 16 = .ok (.goto 4, 3) := by decide +kernel
theorem dP_hasThousand_19 : decode bP_hasThousand 19 = .ok (.iconst 0, 1) := by decide +kernel
theorem dP_hasThousand_20 : decode bP_hasThousand 20 = .ok (.ireturn, 1) := by decide +kernel
theorem dP_topMark_0 : decode bP_topMark 0 = .ok (.aload_n 0, 1) := by decide +kernel
theorem dP_topMark_1 : decode bP_topMark 1 = .ok (.getfield 29, 3) := by decide +kernel
theorem dP_topMark_4 : decode bP_topMark 4 = .ok (.invokevirtual 54, 3) := by decide +kernel
theorem dP_topMark_7 : decode bP_topMark 7 = .ok (.ireturn, 1) := by decide +kernel
theorem dS_staying_0 : decode bS_staying 0 = .ok (.aload_n 0, 1) := by decide +kernel
theorem dS_staying_1 : decode bS_staying 1 = .ok (.getfield 20, 3) := by decide +kernel
theorem dS_staying_4 : decode bS_staying 4 = .ok (.invokevirtual 43, 3) := by decide +kernel
theorem dS_staying_7 : decode bS_staying 7 = .ok (.ireturn, 1) := by decide +kernel
theorem dR_sum_0 : decode bR_sum 0 = .ok (.iconst 0, 1) := by decide +kernel
theorem dR_sum_1 : decode bR_sum 1 = .ok (.istore_n 1, 1) := by decide +kernel
theorem dR_sum_2 : decode bR_sum 2 = .ok (.iconst 0, 1) := by decide +kernel
theorem dR_sum_3 : decode bR_sum 3 = .ok (.istore_n 2, 1) := by decide +kernel
theorem dR_sum_4 : decode bR_sum 4 = .ok (.iload_n 2, 1) := by decide +kernel
theorem dR_sum_5 : decode bR_sum 5 = .ok (.aload_n 0, 1) := by decide +kernel
theorem dR_sum_6 : decode bR_sum 6 = .ok (.getfield 13, 3) := by decide +kernel
theorem dR_sum_9 : decode bR_sum 9 = .ok (.arraylength, 1) := by decide +kernel
theorem dR_sum_10 : decode bR_sum 10 = .ok (.if_icmp .ge 18, 3) := by decide +kernel
theorem dR_sum_13 : decode bR_sum 13 = .ok (.iload_n 1, 1) := by decide +kernel
theorem dR_sum_14 : decode bR_sum 14 = .ok (.aload_n 0, 1) := by decide +kernel
theorem dR_sum_15 : decode bR_sum 15 = .ok (.getfield 13, 3) := by decide +kernel
theorem dR_sum_18 : decode bR_sum 18 = .ok (.iload_n 2, 1) := by decide +kernel
theorem dR_sum_19 : decode bR_sum 19 = .ok (.iaload, 1) := by decide +kernel
theorem dR_sum_20 : decode bR_sum 20 = .ok (.iadd, 1) := by decide +kernel
theorem dR_sum_21 : decode bR_sum 21 = .ok (.istore_n 1, 1) := by decide +kernel
theorem dR_sum_22 : decode bR_sum 22 = .ok (.iinc 2 1, 3) := by decide +kernel
theorem dR_sum_25 : decode bR_sum 25 = .ok (.goto (-21), 3) := by decide +kernel
theorem dR_sum_28 : decode bR_sum 28 = .ok (.iload_n 1, 1) := by decide +kernel
theorem dR_sum_29 : decode bR_sum 29 = .ok (.ireturn, 1) := by decide +kernel
theorem dP_steepest_0 : decode bP_steepest 0 = .ok (.bipush (-9), 2) := by decide +kernel
theorem dP_steepest_2 : decode bP_steepest 2 = .ok (.istore_n 1, 1) := by decide +kernel
theorem dP_steepest_3 : decode bP_steepest 3 = .ok (.iconst 0, 1) := by decide +kernel
theorem dP_steepest_4 : decode bP_steepest 4 = .ok (.istore_n 2, 1) := by decide +kernel
theorem dP_steepest_5 : decode bP_steepest 5 = .ok (.iload_n 2, 1) := by decide +kernel
theorem dP_steepest_6 : decode bP_steepest 6 = .ok (.aload_n 0, 1) := by decide +kernel
theorem dP_steepest_7 : decode bP_steepest 7 = .ok (.getfield 29, 3) := by decide +kernel
theorem dP_steepest_10 : decode bP_steepest 10 = .ok (.invokevirtual 54, 3) := by decide +kernel
theorem dP_steepest_13 : decode bP_steepest 13 = .ok (.if_icmp .ge 36, 3) := by decide +kernel
theorem dP_steepest_16 : decode bP_steepest 16 = .ok (.iload_n 1, 1) := by decide +kernel
theorem dP_steepest_17 : decode bP_steepest 17 = .ok (.bipush (-9), 2) := by decide +kernel
theorem dP_steepest_19 : decode bP_steepest 19 = .ok (.if_icmp .eq 22, 3) := by decide +kernel
theorem dP_steepest_22 : decode bP_steepest 22 = .ok (.aload_n 0, 1) := by decide +kernel
theorem dP_steepest_23 : decode bP_steepest 23 = .ok (.getfield 29, 3) := by decide +kernel
theorem dP_steepest_26 : decode bP_steepest 26 = .ok (.iload_n 2, 1) := by decide +kernel
theorem dP_steepest_27 : decode bP_steepest 27 = .ok (.invokevirtual 58, 3) := by decide +kernel
theorem dP_steepest_30 : decode bP_steepest 30 = .ok (.aload_n 0, 1) := by decide +kernel
theorem dP_steepest_31 : decode bP_steepest 31 = .ok (.getfield 29, 3) := by decide +kernel
theorem dP_steepest_34 : decode bP_steepest 34 = .ok (.iload_n 1, 1) := by decide +kernel
theorem dP_steepest_35 : decode bP_steepest 35 = .ok (.invokevirtual 58, 3) := by decide +kernel
theorem dP_steepest_38 : decode bP_steepest 38 = .ok (.if_icmp .le 5, 3) := by decide +kernel
theorem dP_steepest_41 : decode bP_steepest 41 = .ok (.iload_n 2, 1) := by decide +kernel
theorem dP_steepest_42 : decode bP_steepest 42 = .ok (.istore_n 1, 1) := by decide +kernel
theorem dP_steepest_43 : decode bP_steepest 43 = .ok (.iinc 2 1, 3) := by decide +kernel
theorem dP_steepest_46 : decode bP_steepest 46 = .ok (.goto (-41), 3) := by decide +kernel
theorem dP_steepest_49 : decode bP_steepest 49 = .ok (.iload_n 1, 1) := by decide +kernel
theorem dP_steepest_50 : decode bP_steepest 50 = .ok (.ireturn, 1) := by decide +kernel
theorem dP_daysWith_0 : decode bP_daysWith 0 = .ok (.iconst 0, 1) := by decide +kernel
theorem dP_daysWith_1 : decode bP_daysWith 1 = .ok (.istore_n 2, 1) := by decide +kernel
theorem dP_daysWith_2 : decode bP_daysWith 2 = .ok (.iconst 0, 1) := by decide +kernel
theorem dP_daysWith_3 : decode bP_daysWith 3 = .ok (.istore_n 3, 1) := by decide +kernel
theorem dP_daysWith_4 : decode bP_daysWith 4 = .ok (.iload_n 3, 1) := by decide +kernel
theorem dP_daysWith_5 : decode bP_daysWith 5 = .ok (.aload_n 0, 1) := by decide +kernel
theorem dP_daysWith_6 : decode bP_daysWith 6 = .ok (.getfield 14, 3) := by decide +kernel
theorem dP_daysWith_9 : decode bP_daysWith 9 = .ok (.invokevirtual 54, 3) := by decide +kernel
theorem dP_daysWith_12 : decode bP_daysWith 12 = .ok (.if_icmp .ge 27, 3) := by decide +kernel
theorem dP_daysWith_15 : decode bP_daysWith 15 = .ok (.iload_n 2, 1) := by decide +kernel
theorem dP_daysWith_16 : decode bP_daysWith 16 = .ok (.aload_n 0, 1) := by decide +kernel
theorem dP_daysWith_17 : decode bP_daysWith 17 = .ok (.getfield 14, 3) := by decide +kernel
theorem dP_daysWith_20 : decode bP_daysWith 20 = .ok (.iload_n 3, 1) := by decide +kernel
theorem dP_daysWith_21 : decode bP_daysWith 21 = .ok (.invokevirtual 58, 3) := by decide +kernel
theorem dP_daysWith_24 : decode bP_daysWith 24 = .ok (.aload_n 0, 1) := by decide +kernel
theorem dP_daysWith_25 : decode bP_daysWith 25 = .ok (.getfield 35, 3) := by decide +kernel
theorem dP_daysWith_28 : decode bP_daysWith 28 = .ok (.invokestatic 65, 3) := by decide +kernel
theorem dP_daysWith_31 : decode bP_daysWith 31 = .ok (.iadd, 1) := by decide +kernel
theorem dP_daysWith_32 : decode bP_daysWith 32 = .ok (.istore_n 2, 1) := by decide +kernel
theorem dP_daysWith_33 : decode bP_daysWith 33 = .ok (.iinc 3 1, 3) := by decide +kernel
theorem dP_daysWith_36 : decode bP_daysWith 36 = .ok (.goto (-32), 3) := by decide +kernel
theorem dP_daysWith_39 : decode bP_daysWith 39 = .ok (.iload_n 2, 1) := by decide +kernel
theorem dP_daysWith_40 : decode bP_daysWith 40 = .ok (.iload_n 1, 1) := by decide +kernel
theorem dP_daysWith_41 : decode bP_daysWith 41 = .ok (.iconst 1, 1) := by decide +kernel
theorem dP_daysWith_42 : decode bP_daysWith 42 = .ok (.isub, 1) := by decide +kernel
theorem dP_daysWith_43 : decode bP_daysWith 43 = .ok (.invokestatic 65, 3) := by decide +kernel
theorem dP_daysWith_46 : decode bP_daysWith 46 = .ok (.ireturn, 1) := by decide +kernel
theorem dD_known_0 : decode bD_known 0 = .ok (.aload_n 0, 1) := by decide +kernel
theorem dD_known_1 : decode bD_known 1 = .ok (.getfield 14, 3) := by decide +kernel
theorem dD_known_4 : decode bD_known 4 = .ok (.invokevirtual 26, 3) := by decide +kernel
theorem dD_known_7 : decode bD_known 7 = .ok (.ireturn, 1) := by decide +kernel
theorem dS_hasStayed_0 : decode bS_hasStayed 0 = .ok (.aload_n 0, 1) := by decide +kernel
theorem dS_hasStayed_1 : decode bS_hasStayed 1 = .ok (.getfield 20, 3) := by decide +kernel
theorem dS_hasStayed_4 : decode bS_hasStayed 4 = .ok (.iload_n 1, 1) := by decide +kernel
theorem dS_hasStayed_5 : decode bS_hasStayed 5 = .ok (.invokevirtual 39, 3) := by decide +kernel
theorem dS_hasStayed_8 : decode bS_hasStayed 8 = .ok (.ifCond .eq 7, 3) := by decide +kernel
theorem dS_hasStayed_11 : decode bS_hasStayed 11 = .ok (.iconst 1, 1) := by decide +kernel
theorem dS_hasStayed_12 : decode bS_hasStayed 12 = .ok (.goto 4, 3) := by decide +kernel
theorem dS_hasStayed_15 : decode bS_hasStayed 15 = .ok (.iconst 0, 1) := by decide +kernel
theorem dS_hasStayed_16 : decode bS_hasStayed 16 = .ok (.ireturn, 1) := by decide +kernel
theorem dS_wearWay_0 : decode bS_wearWay 0 = .ok (.iload_n 1, 1) := by decide +kernel
theorem dS_wearWay_1 : decode bS_wearWay 1 = .ok (.iload_n 2, 1) := by decide +kernel
theorem dS_wearWay_2 : decode bS_wearWay 2 = .ok (.if_icmp .ge 10, 3) := by decide +kernel
theorem dS_wearWay_5 : decode bS_wearWay 5 = .ok (.aload_n 0, 1) := by decide +kernel
theorem dS_wearWay_6 : decode bS_wearWay 6 = .ok (.getfield 23, 3) := by decide +kernel
theorem dS_wearWay_9 : decode bS_wearWay 9 = .ok (.goto 7, 3) := by decide +kernel
theorem dS_wearWay_12 : decode bS_wearWay 12 = .ok (.aload_n 0, 1) := by decide +kernel
theorem dS_wearWay_13 : decode bS_wearWay 13 = .ok (.getfield 26, 3) := by decide +kernel
theorem dS_wearWay_16 : decode bS_wearWay 16 = .ok (.astore 4, 2) := by decide +kernel
theorem dS_wearWay_18 : decode bS_wearWay 18 = .ok (.iload_n 1, 1) := by decide +kernel
theorem dS_wearWay_19 : decode bS_wearWay 19 = .ok (.iload_n 2, 1) := by decide +kernel
theorem dS_wearWay_20 : decode bS_wearWay 20 = .ok (.invokestatic 47, 3) := by decide +kernel
theorem dS_wearWay_23 : decode bS_wearWay 23 = .ok (.istore 5, 2) := by decide +kernel
theorem dS_wearWay_25 : decode bS_wearWay 25 = .ok (.iload_n 1, 1) := by decide +kernel
theorem dS_wearWay_26 : decode bS_wearWay 26 = .ok (.iload_n 2, 1) := by decide +kernel
theorem dS_wearWay_27 : decode bS_wearWay 27 = .ok (.invokestatic 53, 3) := by decide +kernel
theorem dS_wearWay_30 : decode bS_wearWay 30 = .ok (.istore 6, 2) := by decide +kernel
theorem dS_wearWay_32 : decode bS_wearWay 32 = .ok (.iload 6, 2) := by decide +kernel
theorem dS_wearWay_34 : decode bS_wearWay 34 = .ok (.iload 5, 2) := by decide +kernel
theorem dS_wearWay_36 : decode bS_wearWay 36 = .ok (.if_icmp .ge 35, 3) := by decide +kernel
theorem dS_wearWay_39 : decode bS_wearWay 39 = .ok (.aload 4, 2) := by decide +kernel
theorem dS_wearWay_41 : decode bS_wearWay 41 = .ok (.iload 6, 2) := by decide +kernel
theorem dS_wearWay_43 : decode bS_wearWay 43 = .ok (.iconst 0, 1) := by decide +kernel
theorem dS_wearWay_44 : decode bS_wearWay 44 = .ok (.sipush 9999, 3) := by decide +kernel
theorem dS_wearWay_47 : decode bS_wearWay 47 = .ok (.aload 4, 2) := by decide +kernel
theorem dS_wearWay_49 : decode bS_wearWay 49 = .ok (.iload 6, 2) := by decide +kernel
theorem dS_wearWay_51 : decode bS_wearWay 51 = .ok (.invokevirtual 39, 3) := by decide +kernel
theorem dS_wearWay_54 : decode bS_wearWay 54 = .ok (.iload_n 3, 1) := by decide +kernel
theorem dS_wearWay_55 : decode bS_wearWay 55 = .ok (.iadd, 1) := by decide +kernel
theorem dS_wearWay_56 : decode bS_wearWay 56 = .ok (.invokestatic 53, 3) := by decide +kernel
theorem dS_wearWay_59 : decode bS_wearWay 59 = .ok (.invokestatic 47, 3) := by decide +kernel
theorem dS_wearWay_62 : decode bS_wearWay 62 = .ok (.invokevirtual 56, 3) := by decide +kernel
theorem dS_wearWay_65 : decode bS_wearWay 65 = .ok (.iinc 6 1, 3) := by decide +kernel
theorem dS_wearWay_68 : decode bS_wearWay 68 = .ok (.goto (-36), 3) := by decide +kernel
theorem dS_wearWay_71 : decode bS_wearWay 71 = .ok (.return_, 1) := by decide +kernel
theorem dD_add_0 : decode bD_add 0 = .ok (.aload_n 0, 1) := by decide +kernel
theorem dD_add_1 : decode bD_add 1 = .ok (.getfield 14, 3) := by decide +kernel
theorem dD_add_4 : decode bD_add 4 = .ok (.invokevirtual 33, 3) := by decide +kernel
theorem dD_add_7 : decode bD_add 7 = .ok (.ifCond .eq 8, 3) := by decide +kernel
theorem dD_add_10 : decode bD_add 10 = .ok (.aload_n 0, 1) := by decide +kernel
theorem dD_add_11 : decode bD_add 11 = .ok (.iconst 0, 1) := by decide +kernel
theorem dD_add_12 : decode bD_add 12 = .ok (.invokevirtual 37, 3) := by decide +kernel
theorem dD_add_15 : decode bD_add 15 = .ok (.aload_n 0, 1) := by decide +kernel
theorem dD_add_16 : decode bD_add 16 = .ok (.getfield 14, 3) := by decide +kernel
theorem dD_add_19 : decode bD_add 19 = .ok (.iload_n 1, 1) := by decide +kernel
theorem dD_add_20 : decode bD_add 20 = .ok (.invokevirtual 40, 3) := by decide +kernel
theorem dD_add_23 : decode bD_add 23 = .ok (.aload_n 0, 1) := by decide +kernel
theorem dD_add_24 : decode bD_add 24 = .ok (.getfield 20, 3) := by decide +kernel
theorem dD_add_27 : decode bD_add 27 = .ok (.iload_n 2, 1) := by decide +kernel
theorem dD_add_28 : decode bD_add 28 = .ok (.invokevirtual 40, 3) := by decide +kernel
theorem dD_add_31 : decode bD_add 31 = .ok (.aload_n 0, 1) := by decide +kernel
theorem dD_add_32 : decode bD_add 32 = .ok (.getfield 23, 3) := by decide +kernel
theorem dD_add_35 : decode bD_add 35 = .ok (.iload_n 3, 1) := by decide +kernel
theorem dD_add_36 : decode bD_add 36 = .ok (.invokevirtual 40, 3) := by decide +kernel
theorem dD_add_39 : decode bD_add 39 = .ok (.return_, 1) := by decide +kernel
theorem dD_drop_0 : decode bD_drop 0 = .ok (.aload_n 0, 1) := by decide +kernel
theorem dD_drop_1 : decode bD_drop 1 = .ok (.getfield 14, 3) := by decide +kernel
theorem dD_drop_4 : decode bD_drop 4 = .ok (.iload_n 1, 1) := by decide +kernel
theorem dD_drop_5 : decode bD_drop 5 = .ok (.invokevirtual 66, 3) := by decide +kernel
theorem dD_drop_8 : decode bD_drop 8 = .ok (.aload_n 0, 1) := by decide +kernel
theorem dD_drop_9 : decode bD_drop 9 = .ok (.getfield 20, 3) := by decide +kernel
theorem dD_drop_12 : decode bD_drop 12 = .ok (.iload_n 1, 1) := by decide +kernel
theorem dD_drop_13 : decode bD_drop 13 = .ok (.invokevirtual 66, 3) := by decide +kernel
theorem dD_drop_16 : decode bD_drop 16 = .ok (.aload_n 0, 1) := by decide +kernel
theorem dD_drop_17 : decode bD_drop 17 = .ok (.getfield 23, 3) := by decide +kernel
theorem dD_drop_20 : decode bD_drop 20 = .ok (.iload_n 1, 1) := by decide +kernel
theorem dD_drop_21 : decode bD_drop 21 = .ok (.invokevirtual 66, 3) := by decide +kernel
theorem dD_drop_24 : decode bD_drop 24 = .ok (.return_, 1) := by decide +kernel
theorem dR_remove_0 : decode bR_remove 0 = .ok (.iload_n 1, 1) := by decide +kernel
theorem dR_remove_1 : decode bR_remove 1 = .ok (.ifCond .lt 11, 3) := by decide +kernel
theorem dR_remove_4 : decode bR_remove 4 = .ok (.iload_n 1, 1) := by decide +kernel
theorem dR_remove_5 : decode bR_remove 5 = .ok (.aload_n 0, 1) := by decide +kernel
theorem dR_remove_6 : decode bR_remove 6 = .ok (.getfield 19, 3) := by decide +kernel
theorem dR_remove_9 : decode bR_remove 9 = .ok (.if_icmp .lt 4, 3) := by decide +kernel
theorem dR_remove_12 : decode bR_remove 12 = .ok (.return_, 1) := by decide +kernel
theorem dR_remove_13 : decode bR_remove 13 = .ok (.aload_n 0, 1) := by decide +kernel
theorem dR_remove_14 : decode bR_remove 14 = .ok (.dup, 1) := by decide +kernel
theorem dR_remove_15 : decode bR_remove 15 = .ok (.getfield 19, 3) := by decide +kernel
theorem dR_remove_18 : decode bR_remove 18 = .ok (.iconst 1, 1) := by decide +kernel
theorem dR_remove_19 : decode bR_remove 19 = .ok (.isub, 1) := by decide +kernel
theorem dR_remove_20 : decode bR_remove 20 = .ok (.putfield 19, 3) := by decide +kernel
theorem dR_remove_23 : decode bR_remove 23 = .ok (.iload_n 1, 1) := by decide +kernel
theorem dR_remove_24 : decode bR_remove 24 = .ok (.istore_n 2, 1) := by decide +kernel
theorem dR_remove_25 : decode bR_remove 25 = .ok (.iload_n 2, 1) := by decide +kernel
theorem dR_remove_26 : decode bR_remove 26 = .ok (.aload_n 0, 1) := by decide +kernel
theorem dR_remove_27 : decode bR_remove 27 = .ok (.getfield 19, 3) := by decide +kernel
theorem dR_remove_30 : decode bR_remove 30 = .ok (.if_icmp .ge 21, 3) := by decide +kernel
theorem dR_remove_33 : decode bR_remove 33 = .ok (.aload_n 0, 1) := by decide +kernel
theorem dR_remove_34 : decode bR_remove 34 = .ok (.iload_n 2, 1) := by decide +kernel
theorem dR_remove_35 : decode bR_remove 35 = .ok (.aload_n 0, 1) := by decide +kernel
theorem dR_remove_36 : decode bR_remove 36 = .ok (.iload_n 2, 1) := by decide +kernel
theorem dR_remove_37 : decode bR_remove 37 = .ok (.iconst 1, 1) := by decide +kernel
theorem dR_remove_38 : decode bR_remove 38 = .ok (.iadd, 1) := by decide +kernel
theorem dR_remove_39 : decode bR_remove 39 = .ok (.invokevirtual 31, 3) := by decide +kernel
theorem dR_remove_42 : decode bR_remove 42 = .ok (.invokevirtual 27, 3) := by decide +kernel
theorem dR_remove_45 : decode bR_remove 45 = .ok (.iinc 2 1, 3) := by decide +kernel
theorem dR_remove_48 : decode bR_remove 48 = .ok (.goto (-23), 3) := by decide +kernel
theorem dR_remove_51 : decode bR_remove 51 = .ok (.aload_n 0, 1) := by decide +kernel
theorem dR_remove_52 : decode bR_remove 52 = .ok (.aload_n 0, 1) := by decide +kernel
theorem dR_remove_53 : decode bR_remove 53 = .ok (.getfield 19, 3) := by decide +kernel
theorem dR_remove_56 : decode bR_remove 56 = .ok (.iconst 0, 1) := by decide +kernel
theorem dR_remove_57 : decode bR_remove 57 = .ok (.invokevirtual 27, 3) := by decide +kernel
theorem dR_remove_60 : decode bR_remove 60 = .ok (.return_, 1) := by decide +kernel
theorem dK_abs_0 : decode bK_abs 0 = .ok (.iload_n 0, 1) := by decide +kernel
theorem dK_abs_1 : decode bK_abs 1 = .ok (.ifCond .ge 8, 3) := by decide +kernel
theorem dK_abs_4 : decode bK_abs 4 = .ok (.iload_n 0, 1) := by decide +kernel
theorem dK_abs_5 : decode bK_abs 5 = .ok (.ineg, 1) := by decide +kernel
theorem dK_abs_6 : decode bK_abs 6 = .ok (.goto 4, 3) := by decide +kernel
theorem dK_abs_9 : decode bK_abs 9 = .ok (.iload_n 0, 1) := by decide +kernel
theorem dK_abs_10 : decode bK_abs 10 = .ok (.ireturn, 1) := by decide +kernel
theorem dS_firstThingAt_0 : decode bS_firstThingAt 0 = .ok (.iconst 0, 1) := by decide +kernel
theorem dS_firstThingAt_1 : decode bS_firstThingAt 1 = .ok (.istore_n 2, 1) := by decide +kernel
theorem dS_firstThingAt_2 : decode bS_firstThingAt 2 = .ok (.iload_n 2, 1) := by decide +kernel
theorem dS_firstThingAt_3 : decode bS_firstThingAt 3 = .ok (.aload_n 0, 1) := by decide +kernel
theorem dS_firstThingAt_4 : decode bS_firstThingAt 4 = .ok (.getfield 29, 3) := by decide +kernel
theorem dS_firstThingAt_7 : decode bS_firstThingAt 7 = .ok (.invokevirtual 60, 3) := by decide +kernel
theorem dS_firstThingAt_10 : decode bS_firstThingAt 10 = .ok (.if_icmp .ge 23, 3) := by decide +kernel
theorem dS_firstThingAt_13 : decode bS_firstThingAt 13 = .ok (.aload_n 0, 1) := by decide +kernel
theorem dS_firstThingAt_14 : decode bS_firstThingAt 14 = .ok (.getfield 29, 3) := by decide +kernel
theorem dS_firstThingAt_17 : decode bS_firstThingAt 17 = .ok (.iload_n 2, 1) := by decide +kernel
theorem dS_firstThingAt_18 : decode bS_firstThingAt 18 = .ok (.invokevirtual 39, 3) := by decide +kernel
theorem dS_firstThingAt_21 : decode bS_firstThingAt 21 = .ok (.iload_n 1, 1) := by decide +kernel
theorem dS_firstThingAt_22 : decode bS_firstThingAt 22 = .ok (.if_icmp .ne 5, 3) := by decide +kernel
theorem dS_firstThingAt_25 : decode bS_firstThingAt 25 = .ok (.iload_n 2, 1) := by decide +kernel
theorem dS_firstThingAt_26 : decode bS_firstThingAt 26 = .ok (.ireturn, 1) := by decide +kernel
theorem dS_firstThingAt_27 : decode bS_firstThingAt 27 = .ok (.iinc 2 1, 3) := by decide +kernel
theorem dS_firstThingAt_30 : decode bS_firstThingAt 30 = .ok (.goto (-28), 3) := by decide +kernel
theorem dS_firstThingAt_33 : decode bS_firstThingAt 33 = .ok (.iconst (-1), 1) := by decide +kernel
theorem dS_firstThingAt_34 : decode bS_firstThingAt 34 = .ok (.ireturn, 1) := by decide +kernel
theorem dD_takeBackLatest_0 : decode bD_takeBackLatest 0 = .ok (.aload_n 0, 1) := by decide +kernel
theorem dD_takeBackLatest_1 : decode bD_takeBackLatest 1 = .ok (.getfield 14, 3) := by decide +kernel
theorem dD_takeBackLatest_4 : decode bD_takeBackLatest 4 = .ok (.invokevirtual 26, 3) := by decide +kernel
theorem dD_takeBackLatest_7 : decode bD_takeBackLatest 7 = .ok (.iconst 1, 1) := by decide +kernel
theorem dD_takeBackLatest_8 : decode bD_takeBackLatest 8 = .ok (.isub, 1) := by decide +kernel
theorem dD_takeBackLatest_9 : decode bD_takeBackLatest 9 = .ok (.istore_n 2, 1) := by decide +kernel
theorem dD_takeBackLatest_10 : decode bD_takeBackLatest 10 = .ok (.aload_n 0, 1) := by decide +kernel
theorem dD_takeBackLatest_11 : decode bD_takeBackLatest 11 = .ok (.getfield 20, 3) := by decide +kernel
theorem dD_takeBackLatest_14 : decode bD_takeBackLatest 14 = .ok (.iload_n 2, 1) := by decide +kernel
theorem dD_takeBackLatest_15 : decode bD_takeBackLatest 15 = .ok (.invokevirtual 43, 3) := by decide +kernel
theorem dD_takeBackLatest_18 : decode bD_takeBackLatest 18 = .ok (.istore_n 3, 1) := by decide +kernel
theorem dD_takeBackLatest_19 : decode bD_takeBackLatest 19 = .ok (.aload_n 0, 1) := by decide +kernel
theorem dD_takeBackLatest_20 : decode bD_takeBackLatest 20 = .ok (.getfield 23, 3) := by decide +kernel
theorem dD_takeBackLatest_23 : decode bD_takeBackLatest 23 = .ok (.iload_n 2, 1) := by decide +kernel
theorem dD_takeBackLatest_24 : decode bD_takeBackLatest 24 = .ok (.invokevirtual 43, 3) := by decide +kernel
theorem dD_takeBackLatest_27 : decode bD_takeBackLatest 27 = .ok (.istore 4, 2) := by decide +kernel
theorem dD_takeBackLatest_29 : decode bD_takeBackLatest 29 = .ok (.aload_n 0, 1) := by decide +kernel
theorem dD_takeBackLatest_30 : decode bD_takeBackLatest 30 = .ok (.getfield 14, 3) := by decide +kernel
theorem dD_takeBackLatest_33 : decode bD_takeBackLatest 33 = .ok (.iload_n 2, 1) := by decide +kernel
theorem dD_takeBackLatest_34 : decode bD_takeBackLatest 34 = .ok (.invokevirtual 43, 3) := by decide +kernel
theorem dD_takeBackLatest_37 : decode bD_takeBackLatest 37 = .ok (.tableswitch 110 0 3 #[31, 59, 71, 90], 31) := by decide +kernel
theorem dD_takeBackLatest_68 : decode bD_takeBackLatest 68 = .ok (.aload_n 1, 1) := by decide +kernel
theorem dD_takeBackLatest_69 : decode bD_takeBackLatest 69 = .ok (.iload 4, 2) := by decide +kernel
theorem dD_takeBackLatest_71 : decode bD_takeBackLatest 71 = .ok (.aload_n 1, 1) := by decide +kernel
theorem dD_takeBackLatest_72 : decode bD_takeBackLatest 72 = .ok (.getfield 47, 3) := by decide +kernel
theorem dD_takeBackLatest_75 : decode bD_takeBackLatest 75 = .ok (.iload_n 3, 1) := by decide +kernel
theorem dD_takeBackLatest_76 : decode bD_takeBackLatest 76 = .ok (.invokevirtual 43, 3) := by decide +kernel
theorem dD_takeBackLatest_79 : decode bD_takeBackLatest 79 = .ok (.iconst (-1), 1) := by decide +kernel
theorem dD_takeBackLatest_80 : decode bD_takeBackLatest 80 = .ok (.invokevirtual 52, 3) := by decide +kernel
theorem dD_takeBackLatest_83 : decode bD_takeBackLatest 83 = .ok (.aload_n 1, 1) := by decide +kernel
theorem dD_takeBackLatest_84 : decode bD_takeBackLatest 84 = .ok (.getfield 47, 3) := by decide +kernel
theorem dD_takeBackLatest_87 : decode bD_takeBackLatest 87 = .ok (.iload_n 3, 1) := by decide +kernel
theorem dD_takeBackLatest_88 : decode bD_takeBackLatest 88 = .ok (.iload 4, 2) := by decide +kernel
theorem dD_takeBackLatest_90 : decode bD_takeBackLatest 90 = .ok (.invokevirtual 56, 3) := by decide +kernel
theorem dD_takeBackLatest_93 : decode bD_takeBackLatest 93 = .ok (.goto 54, 3) := by decide +kernel
theorem dD_takeBackLatest_96 : decode bD_takeBackLatest 96 = .ok (.aload_n 1, 1) := by decide +kernel
theorem dD_takeBackLatest_97 : decode bD_takeBackLatest 97 = .ok (.getfield 60, 3) := by decide +kernel
theorem dD_takeBackLatest_100 : decode bD_takeBackLatest 100 = .ok (.iload_n 3, 1) := by decide +kernel
theorem dD_takeBackLatest_101 : decode bD_takeBackLatest 101 = .ok (.iconst 0, 1) := by decide +kernel
theorem dD_takeBackLatest_102 : decode bD_takeBackLatest 102 = .ok (.invokevirtual 56, 3) := by decide +kernel
theorem dD_takeBackLatest_105 : decode bD_takeBackLatest 105 = .ok (.goto 42, 3) := by decide +kernel
theorem dD_takeBackLatest_108 : decode bD_takeBackLatest 108 = .ok (.aload_n 1, 1) := by decide +kernel
theorem dD_takeBackLatest_109 : decode bD_takeBackLatest 109 = .ok (.getfield 63, 3) := by decide +kernel
theorem dD_takeBackLatest_112 : decode bD_takeBackLatest 112 = .ok (.aload_n 1, 1) := by decide +kernel
theorem dD_takeBackLatest_113 : decode bD_takeBackLatest 113 = .ok (.getfield 63, 3) := by decide +kernel
theorem dD_takeBackLatest_116 : decode bD_takeBackLatest 116 = .ok (.invokevirtual 26, 3) := by decide +kernel
theorem dD_takeBackLatest_119 : decode bD_takeBackLatest 119 = .ok (.iconst 1, 1) := by decide +kernel
theorem dD_takeBackLatest_120 : decode bD_takeBackLatest 120 = .ok (.isub, 1) := by decide +kernel
theorem dD_takeBackLatest_121 : decode bD_takeBackLatest 121 = .ok (.invokevirtual 66, 3) := by decide +kernel
theorem dD_takeBackLatest_124 : decode bD_takeBackLatest 124 = .ok (.goto 23, 3) := by decide +kernel
theorem dD_takeBackLatest_127 : decode bD_takeBackLatest 127 = .ok (.aload_n 1, 1) := by decide +kernel
theorem dD_takeBackLatest_128 : decode bD_takeBackLatest 128 = .ok (.getfield 63, 3) := by decide +kernel
theorem dD_takeBackLatest_131 : decode bD_takeBackLatest 131 = .ok (.iload 4, 2) := by decide +kernel
theorem dD_takeBackLatest_133 : decode bD_takeBackLatest 133 = .ok (.aload_n 1, 1) := by decide +kernel
theorem dD_takeBackLatest_134 : decode bD_takeBackLatest 134 = .ok (.getfield 47, 3) := by decide +kernel
theorem dD_takeBackLatest_137 : decode bD_takeBackLatest 137 = .ok (.iload_n 3, 1) := by decide +kernel
theorem dD_takeBackLatest_138 : decode bD_takeBackLatest 138 = .ok (.invokevirtual 43, 3) := by decide +kernel
theorem dD_takeBackLatest_141 : decode bD_takeBackLatest 141 = .ok (.invokevirtual 69, 3) := by decide +kernel
theorem dD_takeBackLatest_144 : decode bD_takeBackLatest 144 = .ok (.goto 3, 3) := by decide +kernel
theorem dD_takeBackLatest_147 : decode bD_takeBackLatest 147 = .ok (.aload_n 0, 1) := by decide +kernel
theorem dD_takeBackLatest_148 : decode bD_takeBackLatest 148 = .ok (.iload_n 2, 1) := by decide +kernel
theorem dD_takeBackLatest_149 : decode bD_takeBackLatest 149 = .ok (.invokevirtual 37, 3) := by decide +kernel
theorem dD_takeBackLatest_152 : decode bD_takeBackLatest 152 = .ok (.return_, 1) := by decide +kernel
theorem dR_insert_0 : decode bR_insert 0 = .ok (.aload_n 0, 1) := by decide +kernel
theorem dR_insert_1 : decode bR_insert 1 = .ok (.invokevirtual 23, 3) := by decide +kernel
theorem dR_insert_4 : decode bR_insert 4 = .ok (.ifCond .ne 15, 3) := by decide +kernel
theorem dR_insert_7 : decode bR_insert 7 = .ok (.iload_n 1, 1) := by decide +kernel
theorem dR_insert_8 : decode bR_insert 8 = .ok (.ifCond .lt 11, 3) := by decide +kernel
theorem dR_insert_11 : decode bR_insert 11 = .ok (.iload_n 1, 1) := by decide +kernel
theorem dR_insert_12 : decode bR_insert 12 = .ok (.aload_n 0, 1) := by decide +kernel
theorem dR_insert_13 : decode bR_insert 13 = .ok (.getfield 19, 3) := by decide +kernel
theorem dR_insert_16 : decode bR_insert 16 = .ok (.if_icmp .le 4, 3) := by decide +kernel
theorem dR_insert_19 : decode bR_insert 19 = .ok (.return_, 1) := by decide +kernel
theorem dR_insert_20 : decode bR_insert 20 = .ok (.aload_n 0, 1) := by decide +kernel
theorem dR_insert_21 : decode bR_insert 21 = .ok (.getfield 19, 3) := by decide +kernel
theorem dR_insert_24 : decode bR_insert 24 = .ok (.istore_n 3, 1) := by decide +kernel
theorem dR_insert_25 : decode bR_insert 25 = .ok (.iload_n 3, 1) := by decide +kernel
theorem dR_insert_26 : decode bR_insert 26 = .ok (.iload_n 1, 1) := by decide +kernel
theorem dR_insert_27 : decode bR_insert 27 = .ok (.if_icmp .le 21, 3) := by decide +kernel
theorem dR_insert_30 : decode bR_insert 30 = .ok (.aload_n 0, 1) := by decide +kernel
theorem dR_insert_31 : decode bR_insert 31 = .ok (.iload_n 3, 1) := by decide +kernel
theorem dR_insert_32 : decode bR_insert 32 = .ok (.aload_n 0, 1) := by decide +kernel
theorem dR_insert_33 : decode bR_insert 33 = .ok (.iload_n 3, 1) := by decide +kernel
theorem dR_insert_34 : decode bR_insert 34 = .ok (.iconst 1, 1) := by decide +kernel
theorem dR_insert_35 : decode bR_insert 35 = .ok (.isub, 1) := by decide +kernel
theorem dR_insert_36 : decode bR_insert 36 = .ok (.invokevirtual 31, 3) := by decide +kernel
theorem dR_insert_39 : decode bR_insert 39 = .ok (.invokevirtual 27, 3) := by decide +kernel
theorem dR_insert_42 : decode bR_insert 42 = .ok (.iinc 3 (-1), 3) := by decide +kernel
theorem dR_insert_45 : decode bR_insert 45 = .ok (.goto (-20), 3) := by decide +kernel
theorem dR_insert_48 : decode bR_insert 48 = .ok (.aload_n 0, 1) := by decide +kernel
theorem dR_insert_49 : decode bR_insert 49 = .ok (.iload_n 1, 1) := by decide +kernel
theorem dR_insert_50 : decode bR_insert 50 = .ok (.iload_n 2, 1) := by decide +kernel
theorem dR_insert_51 : decode bR_insert 51 = .ok (.invokevirtual 27, 3) := by decide +kernel
theorem dR_insert_54 : decode bR_insert 54 = .ok (.aload_n 0, 1) := by decide +kernel
theorem dR_insert_55 : decode bR_insert 55 = .ok (.dup, 1) := by decide +kernel
theorem dR_insert_56 : decode bR_insert 56 = .ok (.getfield 19, 3) := by decide +kernel
theorem dR_insert_59 : decode bR_insert 59 = .ok (.iconst 1, 1) := by decide +kernel
theorem dR_insert_60 : decode bR_insert 60 = .ok (.iadd, 1) := by decide +kernel
theorem dR_insert_61 : decode bR_insert 61 = .ok (.putfield 19, 3) := by decide +kernel
theorem dR_insert_64 : decode bR_insert 64 = .ok (.return_, 1) := by decide +kernel
theorem dP_altitudeOf_0 : decode bP_altitudeOf 0 = .ok (.iconst 0, 1) := by decide +kernel
theorem dP_altitudeOf_1 : decode bP_altitudeOf 1 = .ok (.istore_n 2, 1) := by decide +kernel
theorem dP_altitudeOf_2 : decode bP_altitudeOf 2 = .ok (.iconst 0, 1) := by decide +kernel
theorem dP_altitudeOf_3 : decode bP_altitudeOf 3 = .ok (.istore_n 3, 1) := by decide +kernel
theorem dP_altitudeOf_4 : decode bP_altitudeOf 4 = .ok (.iload_n 3, 1) := by decide +kernel
theorem dP_altitudeOf_5 : decode bP_altitudeOf 5 = .ok (.aload_n 0, 1) := by decide +kernel
theorem dP_altitudeOf_6 : decode bP_altitudeOf 6 = .ok (.getfield 29, 3) := by decide +kernel
theorem dP_altitudeOf_9 : decode bP_altitudeOf 9 = .ok (.invokevirtual 54, 3) := by decide +kernel
theorem dP_altitudeOf_12 : decode bP_altitudeOf 12 = .ok (.if_icmp .ge 42, 3) := by decide +kernel
theorem dP_altitudeOf_15 : decode bP_altitudeOf 15 = .ok (.iconst 0, 1) := by decide +kernel
theorem dP_altitudeOf_16 : decode bP_altitudeOf 16 = .ok (.sipush 1000, 3) := by decide +kernel
theorem dP_altitudeOf_19 : decode bP_altitudeOf 19 = .ok (.iload_n 1, 1) := by decide +kernel
theorem dP_altitudeOf_20 : decode bP_altitudeOf 20 = .ok (.sipush 1000, 3) := by decide +kernel
theorem dP_altitudeOf_23 : decode bP_altitudeOf 23 = .ok (.iload_n 3, 1) := by decide +kernel
theorem dP_altitudeOf_24 : decode bP_altitudeOf 24 = .ok (.imul, 1) := by decide +kernel
theorem dP_altitudeOf_25 : decode bP_altitudeOf 25 = .ok (.isub, 1) := by decide +kernel
theorem dP_altitudeOf_26 : decode bP_altitudeOf 26 = .ok (.invokestatic 62, 3) := by decide +kernel
theorem dP_altitudeOf_29 : decode bP_altitudeOf 29 = .ok (.invokestatic 48, 3) := by decide +kernel
theorem dP_altitudeOf_32 : decode bP_altitudeOf 32 = .ok (.istore 4, 2) := by decide +kernel
theorem dP_altitudeOf_34 : decode bP_altitudeOf 34 = .ok (.iload_n 2, 1) := by decide +kernel
theorem dP_altitudeOf_35 : decode bP_altitudeOf 35 = .ok (.iload 4, 2) := by decide +kernel
theorem dP_altitudeOf_37 : decode bP_altitudeOf 37 = .ok (.aload_n 0, 1) := by decide +kernel
theorem dP_altitudeOf_38 : decode bP_altitudeOf 38 = .ok (.getfield 29, 3) := by decide +kernel
theorem dP_altitudeOf_41 : decode bP_altitudeOf 41 = .ok (.iload_n 3, 1) := by decide +kernel
theorem dP_altitudeOf_42 : decode bP_altitudeOf 42 = .ok (.invokevirtual 58, 3) := by decide +kernel
theorem dP_altitudeOf_45 : decode bP_altitudeOf 45 = .ok (.imul, 1) := by decide +kernel
theorem dP_altitudeOf_46 : decode bP_altitudeOf 46 = .ok (.iadd, 1) := by decide +kernel
theorem dP_altitudeOf_47 : decode bP_altitudeOf 47 = .ok (.istore_n 2, 1) := by decide +kernel
theorem dP_altitudeOf_48 : decode bP_altitudeOf 48 = .ok (.iinc 3 1, 3) := by decide +kernel
theorem dP_altitudeOf_51 : decode bP_altitudeOf 51 = .ok (.goto (-47), 3) := by decide +kernel
theorem dP_altitudeOf_54 : decode bP_altitudeOf 54 = .ok (.iload_n 2, 1) := by decide +kernel
theorem dP_altitudeOf_55 : decode bP_altitudeOf 55 = .ok (.ireturn, 1) := by decide +kernel
theorem dP_firstStepAt_0 : decode bP_firstStepAt 0 = .ok (.iconst 0, 1) := by decide +kernel
theorem dP_firstStepAt_1 : decode bP_firstStepAt 1 = .ok (.istore_n 2, 1) := by decide +kernel
theorem dP_firstStepAt_2 : decode bP_firstStepAt 2 = .ok (.iconst 0, 1) := by decide +kernel
theorem dP_firstStepAt_3 : decode bP_firstStepAt 3 = .ok (.istore_n 3, 1) := by decide +kernel
theorem dP_firstStepAt_4 : decode bP_firstStepAt 4 = .ok (.iload_n 3, 1) := by decide +kernel
theorem dP_firstStepAt_5 : decode bP_firstStepAt 5 = .ok (.aload_n 0, 1) := by decide +kernel
theorem dP_firstStepAt_6 : decode bP_firstStepAt 6 = .ok (.getfield 29, 3) := by decide +kernel
theorem dP_firstStepAt_9 : decode bP_firstStepAt 9 = .ok (.invokevirtual 54, 3) := by decide +kernel
theorem dP_firstStepAt_12 : decode bP_firstStepAt 12 = .ok (.if_icmp .ge 60, 3) := by decide +kernel
theorem dP_firstStepAt_15 : decode bP_firstStepAt 15 = .ok (.iload_n 2, 1) := by decide +kernel
theorem dP_firstStepAt_16 : decode bP_firstStepAt 16 = .ok (.iload_n 1, 1) := by decide +kernel
theorem dP_firstStepAt_17 : decode bP_firstStepAt 17 = .ok (.if_icmp .ge 55, 3) := by decide +kernel
theorem dP_firstStepAt_20 : decode bP_firstStepAt 20 = .ok (.iload_n 2, 1) := by decide +kernel
theorem dP_firstStepAt_21 : decode bP_firstStepAt 21 = .ok (.sipush 1000, 3) := by decide +kernel
theorem dP_firstStepAt_24 : decode bP_firstStepAt 24 = .ok (.aload_n 0, 1) := by decide +kernel
theorem dP_firstStepAt_25 : decode bP_firstStepAt 25 = .ok (.getfield 29, 3) := by decide +kernel
theorem dP_firstStepAt_28 : decode bP_firstStepAt 28 = .ok (.iload_n 3, 1) := by decide +kernel
theorem dP_firstStepAt_29 : decode bP_firstStepAt 29 = .ok (.invokevirtual 58, 3) := by decide +kernel
theorem dP_firstStepAt_32 : decode bP_firstStepAt 32 = .ok (.imul, 1) := by decide +kernel
theorem dP_firstStepAt_33 : decode bP_firstStepAt 33 = .ok (.iadd, 1) := by decide +kernel
theorem dP_firstStepAt_34 : decode bP_firstStepAt 34 = .ok (.istore 4, 2) := by decide +kernel
theorem dP_firstStepAt_36 : decode bP_firstStepAt 36 = .ok (.iload_n 1, 1) := by decide +kernel
theorem dP_firstStepAt_37 : decode bP_firstStepAt 37 = .ok (.iload 4, 2) := by decide +kernel
theorem dP_firstStepAt_39 : decode bP_firstStepAt 39 = .ok (.if_icmp .gt 24, 3) := by decide +kernel
theorem dP_firstStepAt_42 : decode bP_firstStepAt 42 = .ok (.sipush 1000, 3) := by decide +kernel
theorem dP_firstStepAt_45 : decode bP_firstStepAt 45 = .ok (.iload_n 3, 1) := by decide +kernel
theorem dP_firstStepAt_46 : decode bP_firstStepAt 46 = .ok (.imul, 1) := by decide +kernel
theorem dP_firstStepAt_47 : decode bP_firstStepAt 47 = .ok (.iload_n 1, 1) := by decide +kernel
theorem dP_firstStepAt_48 : decode bP_firstStepAt 48 = .ok (.iload_n 2, 1) := by decide +kernel
theorem dP_firstStepAt_49 : decode bP_firstStepAt 49 = .ok (.isub, 1) := by decide +kernel
theorem dP_firstStepAt_50 : decode bP_firstStepAt 50 = .ok (.aload_n 0, 1) := by decide +kernel
theorem dP_firstStepAt_51 : decode bP_firstStepAt 51 = .ok (.getfield 29, 3) := by decide +kernel
theorem dP_firstStepAt_54 : decode bP_firstStepAt 54 = .ok (.iload_n 3, 1) := by decide +kernel
theorem dP_firstStepAt_55 : decode bP_firstStepAt 55 = .ok (.invokevirtual 58, 3) := by decide +kernel
theorem dP_firstStepAt_58 : decode bP_firstStepAt 58 = .ok (.invokestatic 65, 3) := by decide +kernel
theorem dP_firstStepAt_61 : decode bP_firstStepAt 61 = .ok (.iadd, 1) := by decide +kernel
theorem dP_firstStepAt_62 : decode bP_firstStepAt 62 = .ok (.ireturn, 1) := by decide +kernel
theorem dP_firstStepAt_63 : decode bP_firstStepAt 63 = .ok (.iload 4, 2) := by decide +kernel
theorem dP_firstStepAt_65 : decode bP_firstStepAt 65 = .ok (.istore_n 2, 1) := by decide +kernel
theorem dP_firstStepAt_66 : decode bP_firstStepAt 66 = .ok (.iinc 3 1, 3) := by decide +kernel
theorem dP_firstStepAt_69 : decode bP_firstStepAt 69 = .ok (.goto (-65), 3) := by decide +kernel
theorem dP_firstStepAt_72 : decode bP_firstStepAt 72 = .ok (.iload_n 1, 1) := by decide +kernel
theorem dP_firstStepAt_73 : decode bP_firstStepAt 73 = .ok (.ifCond .ne 7, 3) := by decide +kernel
theorem dP_firstStepAt_76 : decode bP_firstStepAt 76 = .ok (.iconst 0, 1) := by decide +kernel
theorem dP_firstStepAt_77 : decode bP_firstStepAt 77 = .ok (.goto 5, 3) := by decide +kernel
theorem dP_firstStepAt_80 : decode bP_firstStepAt 80 = .ok (.bipush (-9), 2) := by decide +kernel
theorem dP_firstStepAt_82 : decode bP_firstStepAt 82 = .ok (.ireturn, 1) := by decide +kernel
theorem dP_climbersAbove_0 : decode bP_climbersAbove 0 = .ok (.iconst 0, 1) := by decide +kernel
theorem dP_climbersAbove_1 : decode bP_climbersAbove 1 = .ok (.istore_n 2, 1) := by decide +kernel
theorem dP_climbersAbove_2 : decode bP_climbersAbove 2 = .ok (.iconst 0, 1) := by decide +kernel
theorem dP_climbersAbove_3 : decode bP_climbersAbove 3 = .ok (.istore_n 3, 1) := by decide +kernel
theorem dP_climbersAbove_4 : decode bP_climbersAbove 4 = .ok (.iload_n 3, 1) := by decide +kernel
theorem dP_climbersAbove_5 : decode bP_climbersAbove 5 = .ok (.aload_n 0, 1) := by decide +kernel
theorem dP_climbersAbove_6 : decode bP_climbersAbove 6 = .ok (.getfield 32, 3) := by decide +kernel
theorem dP_climbersAbove_9 : decode bP_climbersAbove 9 = .ok (.invokevirtual 54, 3) := by decide +kernel
theorem dP_climbersAbove_12 : decode bP_climbersAbove 12 = .ok (.if_icmp .ge 24, 3) := by decide +kernel
theorem dP_climbersAbove_15 : decode bP_climbersAbove 15 = .ok (.aload_n 0, 1) := by decide +kernel
theorem dP_climbersAbove_16 : decode bP_climbersAbove 16 = .ok (.getfield 32, 3) := by decide +kernel
theorem dP_climbersAbove_19 : decode bP_climbersAbove 19 = .ok (.iload_n 3, 1) := by decide +kernel
theorem dP_climbersAbove_20 : decode bP_climbersAbove 20 = .ok (.invokevirtual 58, 3) := by decide +kernel
theorem dP_climbersAbove_23 : decode bP_climbersAbove 23 = .ok (.iload_n 1, 1) := by decide +kernel
theorem dP_climbersAbove_24 : decode bP_climbersAbove 24 = .ok (.if_icmp .le 6, 3) := by decide +kernel
theorem dP_climbersAbove_27 : decode bP_climbersAbove 27 = .ok (.iinc 2 1, 3) := by decide +kernel
theorem dP_climbersAbove_30 : decode bP_climbersAbove 30 = .ok (.iinc 3 1, 3) := by decide +kernel
theorem dP_climbersAbove_33 : decode bP_climbersAbove 33 = .ok (.goto (-29), 3) := by decide +kernel
theorem dP_climbersAbove_36 : decode bP_climbersAbove 36 = .ok (.iload_n 2, 1) := by decide +kernel
theorem dP_climbersAbove_37 : decode bP_climbersAbove 37 = .ok (.ireturn, 1) := by decide +kernel
theorem dN_add_0 : decode bN_add 0 = .ok (.aload_n 0, 1) := by decide +kernel
theorem dN_add_1 : decode bN_add 1 = .ok (.getfield 14, 3) := by decide +kernel
theorem dN_add_4 : decode bN_add 4 = .ok (.iload_n 1, 1) := by decide +kernel
theorem dN_add_5 : decode bN_add 5 = .ok (.invokevirtual 29, 3) := by decide +kernel
theorem dN_add_8 : decode bN_add 8 = .ok (.aload_n 0, 1) := by decide +kernel
theorem dN_add_9 : decode bN_add 9 = .ok (.getfield 20, 3) := by decide +kernel
theorem dN_add_12 : decode bN_add 12 = .ok (.iload_n 2, 1) := by decide +kernel
theorem dN_add_13 : decode bN_add 13 = .ok (.invokevirtual 29, 3) := by decide +kernel
theorem dN_add_16 : decode bN_add 16 = .ok (.return_, 1) := by decide +kernel
theorem dN_countWays_0 : decode bN_countWays 0 = .ok (.aload_n 0, 1) := by decide +kernel
theorem dN_countWays_1 : decode bN_countWays 1 = .ok (.getfield 23, 3) := by decide +kernel
theorem dN_countWays_4 : decode bN_countWays 4 = .ok (.invokevirtual 26, 3) := by decide +kernel
theorem dN_countWays_7 : decode bN_countWays 7 = .ok (.aload_n 0, 1) := by decide +kernel
theorem dN_countWays_8 : decode bN_countWays 8 = .ok (.getfield 23, 3) := by decide +kernel
theorem dN_countWays_11 : decode bN_countWays 11 = .ok (.iconst 0, 1) := by decide +kernel
theorem dN_countWays_12 : decode bN_countWays 12 = .ok (.iconst 1, 1) := by decide +kernel
theorem dN_countWays_13 : decode bN_countWays 13 = .ok (.invokevirtual 32, 3) := by decide +kernel
theorem dN_countWays_16 : decode bN_countWays 16 = .ok (.aload_n 0, 1) := by decide +kernel
theorem dN_countWays_17 : decode bN_countWays 17 = .ok (.iconst 0, 1) := by decide +kernel
theorem dN_countWays_18 : decode bN_countWays 18 = .ok (.invokevirtual 36, 3) := by decide +kernel
theorem dN_countWays_21 : decode bN_countWays 21 = .ok (.iconst 0, 1) := by decide +kernel
theorem dN_countWays_22 : decode bN_countWays 22 = .ok (.istore 4, 2) := by decide +kernel
theorem dN_countWays_24 : decode bN_countWays 24 = .ok (.iload 4, 2) := by decide +kernel
theorem dN_countWays_26 : decode bN_countWays 26 = .ok (.iload_n 1, 1) := by decide +kernel
theorem dN_countWays_27 : decode bN_countWays 27 = .ok (.if_icmp .ge 55, 3) := by decide +kernel
theorem dN_countWays_30 : decode bN_countWays 30 = .ok (.iload 4, 2) := by decide +kernel
theorem dN_countWays_32 : decode bN_countWays 32 = .ok (.iload_n 2, 1) := by decide +kernel
theorem dN_countWays_33 : decode bN_countWays 33 = .ok (.if_icmp .ne 7, 3) := by decide +kernel
theorem dN_countWays_36 : decode bN_countWays 36 = .ok (.iconst 1, 1) := by decide +kernel
theorem dN_countWays_37 : decode bN_countWays 37 = .ok (.goto 4, 3) := by decide +kernel
theorem dN_countWays_40 : decode bN_countWays 40 = .ok (.iconst 0, 1) := by decide +kernel
theorem dN_countWays_41 : decode bN_countWays 41 = .ok (.istore 5, 2) := by decide +kernel
theorem dN_countWays_43 : decode bN_countWays 43 = .ok (.aload_n 0, 1) := by decide +kernel
theorem dN_countWays_44 : decode bN_countWays 44 = .ok (.iload 5, 2) := by decide +kernel
theorem dN_countWays_46 : decode bN_countWays 46 = .ok (.ifCond .eq 7, 3) := by decide +kernel
theorem dN_countWays_49 : decode bN_countWays 49 = .ok (.iload_n 3, 1) := by decide +kernel
theorem dN_countWays_50 : decode bN_countWays 50 = .ok (.goto 4, 3) := by decide +kernel
theorem dN_countWays_53 : decode bN_countWays 53 = .ok (.iconst 0, 1) := by decide +kernel
theorem dN_countWays_54 : decode bN_countWays 54 = .ok (.iload 5, 2) := by decide +kernel
theorem dN_countWays_56 : decode bN_countWays 56 = .ok (.ifCond .eq 7, 3) := by decide +kernel
theorem dN_countWays_59 : decode bN_countWays 59 = .ok (.iload_n 3, 1) := by decide +kernel
theorem dN_countWays_60 : decode bN_countWays 60 = .ok (.goto 5, 3) := by decide +kernel
theorem dN_countWays_63 : decode bN_countWays 63 = .ok (.bipush 9, 2) := by decide +kernel
theorem dN_countWays_65 : decode bN_countWays 65 = .ok (.invokevirtual 39, 3) := by decide +kernel
theorem dN_countWays_68 : decode bN_countWays 68 = .ok (.aload_n 0, 1) := by decide +kernel
theorem dN_countWays_69 : decode bN_countWays 69 = .ok (.iload 4, 2) := by decide +kernel
theorem dN_countWays_71 : decode bN_countWays 71 = .ok (.iconst 1, 1) := by decide +kernel
theorem dN_countWays_72 : decode bN_countWays 72 = .ok (.iadd, 1) := by decide +kernel
theorem dN_countWays_73 : decode bN_countWays 73 = .ok (.invokevirtual 36, 3) := by decide +kernel
theorem dN_countWays_76 : decode bN_countWays 76 = .ok (.iinc 4 1, 3) := by decide +kernel
theorem dN_countWays_79 : decode bN_countWays 79 = .ok (.goto (-55), 3) := by decide +kernel
theorem dN_countWays_82 : decode bN_countWays 82 = .ok (.aload_n 0, 1) := by decide +kernel
theorem dN_countWays_83 : decode bN_countWays 83 = .ok (.getfield 23, 3) := by decide +kernel
theorem dN_countWays_86 : decode bN_countWays 86 = .ok (.invokevirtual 42, 3) := by decide +kernel
theorem dN_countWays_89 : decode bN_countWays 89 = .ok (.ireturn, 1) := by decide +kernel
theorem dN_dropUnlikeSeen_0 : decode bN_dropUnlikeSeen 0 = .ok (.iconst 0, 1) := by decide +kernel
theorem dN_dropUnlikeSeen_1 : decode bN_dropUnlikeSeen 1 = .ok (.istore_n 2, 1) := by decide +kernel
theorem dN_dropUnlikeSeen_2 : decode bN_dropUnlikeSeen 2 = .ok (.iload_n 2, 1) := by decide +kernel
theorem dN_dropUnlikeSeen_3 : decode bN_dropUnlikeSeen 3 = .ok (.aload_n 0, 1) := by decide +kernel
theorem dN_dropUnlikeSeen_4 : decode bN_dropUnlikeSeen 4 = .ok (.getfield 20, 3) := by decide +kernel
theorem dN_dropUnlikeSeen_7 : decode bN_dropUnlikeSeen 7 = .ok (.invokevirtual 54, 3) := by decide +kernel
theorem dN_dropUnlikeSeen_10 : decode bN_dropUnlikeSeen 10 = .ok (.if_icmp .ge 33, 3) := by decide +kernel
theorem dN_dropUnlikeSeen_13 : decode bN_dropUnlikeSeen 13 = .ok (.aload_n 0, 1) := by decide +kernel
theorem dN_dropUnlikeSeen_14 : decode bN_dropUnlikeSeen 14 = .ok (.getfield 14, 3) := by decide +kernel
theorem dN_dropUnlikeSeen_17 : decode bN_dropUnlikeSeen 17 = .ok (.iload_n 2, 1) := by decide +kernel
theorem dN_dropUnlikeSeen_18 : decode bN_dropUnlikeSeen 18 = .ok (.invokevirtual 50, 3) := by decide +kernel
theorem dN_dropUnlikeSeen_21 : decode bN_dropUnlikeSeen 21 = .ok (.iload_n 1, 1) := by decide +kernel
theorem dN_dropUnlikeSeen_22 : decode bN_dropUnlikeSeen 22 = .ok (.if_icmp .ne 15, 3) := by decide +kernel
theorem dN_dropUnlikeSeen_25 : decode bN_dropUnlikeSeen 25 = .ok (.aload_n 0, 1) := by decide +kernel
theorem dN_dropUnlikeSeen_26 : decode bN_dropUnlikeSeen 26 = .ok (.aload_n 0, 1) := by decide +kernel
theorem dN_dropUnlikeSeen_27 : decode bN_dropUnlikeSeen 27 = .ok (.getfield 20, 3) := by decide +kernel
theorem dN_dropUnlikeSeen_30 : decode bN_dropUnlikeSeen 30 = .ok (.iload_n 2, 1) := by decide +kernel
theorem dN_dropUnlikeSeen_31 : decode bN_dropUnlikeSeen 31 = .ok (.invokevirtual 50, 3) := by decide +kernel
theorem dN_dropUnlikeSeen_34 : decode bN_dropUnlikeSeen 34 = .ok (.invokevirtual 57, 3) := by decide +kernel
theorem dN_dropUnlikeSeen_37 : decode bN_dropUnlikeSeen 37 = .ok (.iinc 2 1, 3) := by decide +kernel
theorem dN_dropUnlikeSeen_40 : decode bN_dropUnlikeSeen 40 = .ok (.goto (-38), 3) := by decide +kernel
theorem dN_dropUnlikeSeen_43 : decode bN_dropUnlikeSeen 43 = .ok (.return_, 1) := by decide +kernel
theorem dN_keepOnly_0 : decode bN_keepOnly 0 = .ok (.aload_n 0, 1) := by decide +kernel
theorem dN_keepOnly_1 : decode bN_keepOnly 1 = .ok (.getfield 23, 3) := by decide +kernel
theorem dN_keepOnly_4 : decode bN_keepOnly 4 = .ok (.iload_n 1, 1) := by decide +kernel
theorem dN_keepOnly_5 : decode bN_keepOnly 5 = .ok (.invokevirtual 50, 3) := by decide +kernel
theorem dN_keepOnly_8 : decode bN_keepOnly 8 = .ok (.istore_n 2, 1) := by decide +kernel
theorem dN_keepOnly_9 : decode bN_keepOnly 9 = .ok (.aload_n 0, 1) := by decide +kernel
theorem dN_keepOnly_10 : decode bN_keepOnly 10 = .ok (.getfield 23, 3) := by decide +kernel
theorem dN_keepOnly_13 : decode bN_keepOnly 13 = .ok (.invokevirtual 26, 3) := by decide +kernel
theorem dN_keepOnly_16 : decode bN_keepOnly 16 = .ok (.aload_n 0, 1) := by decide +kernel
theorem dN_keepOnly_17 : decode bN_keepOnly 17 = .ok (.getfield 23, 3) := by decide +kernel
theorem dN_keepOnly_20 : decode bN_keepOnly 20 = .ok (.iload_n 1, 1) := by decide +kernel
theorem dN_keepOnly_21 : decode bN_keepOnly 21 = .ok (.iload_n 2, 1) := by decide +kernel
theorem dN_keepOnly_22 : decode bN_keepOnly 22 = .ok (.invokevirtual 32, 3) := by decide +kernel
theorem dN_keepOnly_25 : decode bN_keepOnly 25 = .ok (.return_, 1) := by decide +kernel
theorem dN_addGoings_0 : decode bN_addGoings 0 = .ok (.bipush 40, 2) := by decide +kernel
theorem dN_addGoings_2 : decode bN_addGoings 2 = .ok (.istore_n 3, 1) := by decide +kernel
theorem dN_addGoings_3 : decode bN_addGoings 3 = .ok (.iload_n 3, 1) := by decide +kernel
theorem dN_addGoings_4 : decode bN_addGoings 4 = .ok (.ifCond .lt 53, 3) := by decide +kernel
theorem dN_addGoings_7 : decode bN_addGoings 7 = .ok (.iconst 0, 1) := by decide +kernel
theorem dN_addGoings_8 : decode bN_addGoings 8 = .ok (.istore 4, 2) := by decide +kernel
theorem dN_addGoings_10 : decode bN_addGoings 10 = .ok (.iload_n 1, 1) := by decide +kernel
theorem dN_addGoings_11 : decode bN_addGoings 11 = .ok (.istore 5, 2) := by decide +kernel
theorem dN_addGoings_13 : decode bN_addGoings 13 = .ok (.iload 5, 2) := by decide +kernel
theorem dN_addGoings_15 : decode bN_addGoings 15 = .ok (.iload_n 2, 1) := by decide +kernel
theorem dN_addGoings_16 : decode bN_addGoings 16 = .ok (.if_icmp .gt 25, 3) := by decide +kernel
theorem dN_addGoings_19 : decode bN_addGoings 19 = .ok (.iload 4, 2) := by decide +kernel
theorem dN_addGoings_21 : decode bN_addGoings 21 = .ok (.aload_n 0, 1) := by decide +kernel
theorem dN_addGoings_22 : decode bN_addGoings 22 = .ok (.getfield 23, 3) := by decide +kernel
theorem dN_addGoings_25 : decode bN_addGoings 25 = .ok (.iload_n 3, 1) := by decide +kernel
theorem dN_addGoings_26 : decode bN_addGoings 26 = .ok (.iload 5, 2) := by decide +kernel
theorem dN_addGoings_28 : decode bN_addGoings 28 = .ok (.isub, 1) := by decide +kernel
theorem dN_addGoings_29 : decode bN_addGoings 29 = .ok (.invokevirtual 50, 3) := by decide +kernel
theorem dN_addGoings_32 : decode bN_addGoings 32 = .ok (.iadd, 1) := by decide +kernel
theorem dN_addGoings_33 : decode bN_addGoings 33 = .ok (.istore 4, 2) := by decide +kernel
theorem dN_addGoings_35 : decode bN_addGoings 35 = .ok (.iinc 5 1, 3) := by decide +kernel
theorem dN_addGoings_38 : decode bN_addGoings 38 = .ok (.goto (-25), 3) := by decide +kernel
theorem dN_addGoings_41 : decode bN_addGoings 41 = .ok (.aload_n 0, 1) := by decide +kernel
theorem dN_addGoings_42 : decode bN_addGoings 42 = .ok (.getfield 23, 3) := by decide +kernel
theorem dN_addGoings_45 : decode bN_addGoings 45 = .ok (.iload_n 3, 1) := by decide +kernel
theorem dN_addGoings_46 : decode bN_addGoings 46 = .ok (.iload 4, 2) := by decide +kernel
theorem dN_addGoings_48 : decode bN_addGoings 48 = .ok (.invokevirtual 32, 3) := by decide +kernel
theorem dN_addGoings_51 : decode bN_addGoings 51 = .ok (.iinc 3 (-1), 3) := by decide +kernel
theorem dN_addGoings_54 : decode bN_addGoings 54 = .ok (.goto (-51), 3) := by decide +kernel
theorem dN_addGoings_57 : decode bN_addGoings 57 = .ok (.return_, 1) := by decide +kernel
theorem dN_fewestGoings_0 : decode bN_fewestGoings 0 = .ok (.aload_n 0, 1) := by decide +kernel
theorem dN_fewestGoings_1 : decode bN_fewestGoings 1 = .ok (.iload_n 1, 1) := by decide +kernel
theorem dN_fewestGoings_2 : decode bN_fewestGoings 2 = .ok (.iconst (-1), 1) := by decide +kernel
theorem dN_fewestGoings_3 : decode bN_fewestGoings 3 = .ok (.iconst 0, 1) := by decide +kernel
theorem dN_fewestGoings_4 : decode bN_fewestGoings 4 = .ok (.invokevirtual 46, 3) := by decide +kernel
theorem dN_fewestGoings_7 : decode bN_fewestGoings 7 = .ok (.pop, 1) := by decide +kernel
theorem dN_fewestGoings_8 : decode bN_fewestGoings 8 = .ok (.iconst 0, 1) := by decide +kernel
theorem dN_fewestGoings_9 : decode bN_fewestGoings 9 = .ok (.istore_n 2, 1) := by decide +kernel
theorem dN_fewestGoings_10 : decode bN_fewestGoings 10 = .ok (.iload_n 2, 1) := by decide +kernel
theorem dN_fewestGoings_11 : decode bN_fewestGoings 11 = .ok (.bipush 40, 2) := by decide +kernel
theorem dN_fewestGoings_13 : decode bN_fewestGoings 13 = .ok (.if_icmp .gt 22, 3) := by decide +kernel
theorem dN_fewestGoings_16 : decode bN_fewestGoings 16 = .ok (.aload_n 0, 1) := by decide +kernel
theorem dN_fewestGoings_17 : decode bN_fewestGoings 17 = .ok (.getfield 23, 3) := by decide +kernel
theorem dN_fewestGoings_20 : decode bN_fewestGoings 20 = .ok (.iload_n 2, 1) := by decide +kernel
theorem dN_fewestGoings_21 : decode bN_fewestGoings 21 = .ok (.invokevirtual 50, 3) := by decide +kernel
theorem dN_fewestGoings_24 : decode bN_fewestGoings 24 = .ok (.ifCond .le 5, 3) := by decide +kernel
theorem dN_fewestGoings_27 : decode bN_fewestGoings 27 = .ok (.iload_n 2, 1) := by decide +kernel
theorem dN_fewestGoings_28 : decode bN_fewestGoings 28 = .ok (.ireturn, 1) := by decide +kernel
theorem dN_fewestGoings_29 : decode bN_fewestGoings 29 = .ok (.iinc 2 1, 3) := by decide +kernel
theorem dN_fewestGoings_32 : decode bN_fewestGoings 32 = .ok (.goto (-22), 3) := by decide +kernel
theorem dN_fewestGoings_35 : decode bN_fewestGoings 35 = .ok (.bipush (-9), 2) := by decide +kernel
theorem dN_fewestGoings_37 : decode bN_fewestGoings 37 = .ok (.ireturn, 1) := by decide +kernel
theorem dP_rankOf_0 : decode bP_rankOf 0 = .ok (.iconst 0, 1) := by decide +kernel
theorem dP_rankOf_1 : decode bP_rankOf 1 = .ok (.istore_n 2, 1) := by decide +kernel
theorem dP_rankOf_2 : decode bP_rankOf 2 = .ok (.iconst 0, 1) := by decide +kernel
theorem dP_rankOf_3 : decode bP_rankOf 3 = .ok (.istore_n 3, 1) := by decide +kernel
theorem dP_rankOf_4 : decode bP_rankOf 4 = .ok (.iload_n 3, 1) := by decide +kernel
theorem dP_rankOf_5 : decode bP_rankOf 5 = .ok (.aload_n 0, 1) := by decide +kernel
theorem dP_rankOf_6 : decode bP_rankOf 6 = .ok (.getfield 32, 3) := by decide +kernel
theorem dP_rankOf_9 : decode bP_rankOf 9 = .ok (.invokevirtual 54, 3) := by decide +kernel
theorem dP_rankOf_12 : decode bP_rankOf 12 = .ok (.if_icmp .ge 55, 3) := by decide +kernel
theorem dP_rankOf_15 : decode bP_rankOf 15 = .ok (.aload_n 0, 1) := by decide +kernel
theorem dP_rankOf_16 : decode bP_rankOf 16 = .ok (.getfield 32, 3) := by decide +kernel
theorem dP_rankOf_19 : decode bP_rankOf 19 = .ok (.iload_n 3, 1) := by decide +kernel
theorem dP_rankOf_20 : decode bP_rankOf 20 = .ok (.invokevirtual 58, 3) := by decide +kernel
theorem dP_rankOf_23 : decode bP_rankOf 23 = .ok (.aload_n 0, 1) := by decide +kernel
theorem dP_rankOf_24 : decode bP_rankOf 24 = .ok (.getfield 32, 3) := by decide +kernel
theorem dP_rankOf_27 : decode bP_rankOf 27 = .ok (.iload_n 1, 1) := by decide +kernel
theorem dP_rankOf_28 : decode bP_rankOf 28 = .ok (.invokevirtual 58, 3) := by decide +kernel
theorem dP_rankOf_31 : decode bP_rankOf 31 = .ok (.if_icmp .gt 27, 3) := by decide +kernel
theorem dP_rankOf_34 : decode bP_rankOf 34 = .ok (.aload_n 0, 1) := by decide +kernel
theorem dP_rankOf_35 : decode bP_rankOf 35 = .ok (.getfield 32, 3) := by decide +kernel
theorem dP_rankOf_38 : decode bP_rankOf 38 = .ok (.iload_n 3, 1) := by decide +kernel
theorem dP_rankOf_39 : decode bP_rankOf 39 = .ok (.invokevirtual 58, 3) := by decide +kernel
theorem dP_rankOf_42 : decode bP_rankOf 42 = .ok (.aload_n 0, 1) := by decide +kernel
theorem dP_rankOf_43 : decode bP_rankOf 43 = .ok (.getfield 32, 3) := by decide +kernel
theorem dP_rankOf_46 : decode bP_rankOf 46 = .ok (.iload_n 1, 1) := by decide +kernel
theorem dP_rankOf_47 : decode bP_rankOf 47 = .ok (.invokevirtual 58, 3) := by decide +kernel
theorem dP_rankOf_50 : decode bP_rankOf 50 = .ok (.if_icmp .ne 11, 3) := by decide +kernel
theorem dP_rankOf_53 : decode bP_rankOf 53 = .ok (.iload_n 3, 1) := by decide +kernel
theorem dP_rankOf_54 : decode bP_rankOf 54 = .ok (.iload_n 1, 1) := by decide +kernel
theorem dP_rankOf_55 : decode bP_rankOf 55 = .ok (.if_icmp .ge 6, 3) := by decide +kernel
theorem dP_rankOf_58 : decode bP_rankOf 58 = .ok (.iinc 2 1, 3) := by decide +kernel
theorem dP_rankOf_61 : decode bP_rankOf 61 = .ok (.iinc 3 1, 3) := by decide +kernel
theorem dP_rankOf_64 : decode bP_rankOf 64 = .ok (.goto (-60), 3) := by decide +kernel
theorem dP_rankOf_67 : decode bP_rankOf 67 = .ok (.iload_n 2, 1) := by decide +kernel
theorem dP_rankOf_68 : decode bP_rankOf 68 = .ok (.ireturn, 1) := by decide +kernel
theorem dN_timesInAll_0 : decode bN_timesInAll 0 = .ok (.aload_n 0, 1) := by decide +kernel
theorem dN_timesInAll_1 : decode bN_timesInAll 1 = .ok (.iload_n 1, 1) := by decide +kernel
theorem dN_timesInAll_2 : decode bN_timesInAll 2 = .ok (.iconst (-1), 1) := by decide +kernel
theorem dN_timesInAll_3 : decode bN_timesInAll 3 = .ok (.iconst 0, 1) := by decide +kernel
theorem dN_timesInAll_4 : decode bN_timesInAll 4 = .ok (.invokevirtual 46, 3) := by decide +kernel
theorem dN_timesInAll_7 : decode bN_timesInAll 7 = .ok (.istore_n 3, 1) := by decide +kernel
theorem dN_timesInAll_8 : decode bN_timesInAll 8 = .ok (.iconst 0, 1) := by decide +kernel
theorem dN_timesInAll_9 : decode bN_timesInAll 9 = .ok (.istore 4, 2) := by decide +kernel
theorem dN_timesInAll_11 : decode bN_timesInAll 11 = .ok (.iload 4, 2) := by decide +kernel
theorem dN_timesInAll_13 : decode bN_timesInAll 13 = .ok (.bipush 9, 2) := by decide +kernel
theorem dN_timesInAll_15 : decode bN_timesInAll 15 = .ok (.if_icmp .gt 28, 3) := by decide +kernel
theorem dN_timesInAll_18 : decode bN_timesInAll 18 = .ok (.iload_n 3, 1) := by decide +kernel
theorem dN_timesInAll_19 : decode bN_timesInAll 19 = .ok (.ifCond .le 24, 3) := by decide +kernel
theorem dN_timesInAll_22 : decode bN_timesInAll 22 = .ok (.aload_n 0, 1) := by decide +kernel
theorem dN_timesInAll_23 : decode bN_timesInAll 23 = .ok (.iload_n 1, 1) := by decide +kernel
theorem dN_timesInAll_24 : decode bN_timesInAll 24 = .ok (.iload_n 2, 1) := by decide +kernel
theorem dN_timesInAll_25 : decode bN_timesInAll 25 = .ok (.iload 4, 2) := by decide +kernel
theorem dN_timesInAll_27 : decode bN_timesInAll 27 = .ok (.invokevirtual 46, 3) := by decide +kernel
theorem dN_timesInAll_30 : decode bN_timesInAll 30 = .ok (.iload_n 3, 1) := by decide +kernel
theorem dN_timesInAll_31 : decode bN_timesInAll 31 = .ok (.if_icmp .ne 6, 3) := by decide +kernel
theorem dN_timesInAll_34 : decode bN_timesInAll 34 = .ok (.iload 4, 2) := by decide +kernel
theorem dN_timesInAll_36 : decode bN_timesInAll 36 = .ok (.ireturn, 1) := by decide +kernel
theorem dN_timesInAll_37 : decode bN_timesInAll 37 = .ok (.iinc 4 1, 3) := by decide +kernel
theorem dN_timesInAll_40 : decode bN_timesInAll 40 = .ok (.goto (-29), 3) := by decide +kernel
theorem dN_timesInAll_43 : decode bN_timesInAll 43 = .ok (.bipush (-9), 2) := by decide +kernel
theorem dN_timesInAll_45 : decode bN_timesInAll 45 = .ok (.ireturn, 1) := by decide +kernel
theorem dP_hasLanding_0 : decode bP_hasLanding 0 = .ok (.iload_n 1, 1) := by decide +kernel
theorem dP_hasLanding_1 : decode bP_hasLanding 1 = .ok (.ifCond .lt 18, 3) := by decide +kernel
theorem dP_hasLanding_4 : decode bP_hasLanding 4 = .ok (.iload_n 1, 1) := by decide +kernel
theorem dP_hasLanding_5 : decode bP_hasLanding 5 = .ok (.aload_n 0, 1) := by decide +kernel
theorem dP_hasLanding_6 : decode bP_hasLanding 6 = .ok (.getfield 14, 3) := by decide +kernel
theorem dP_hasLanding_9 : decode bP_hasLanding 9 = .ok (.invokevirtual 54, 3) := by decide +kernel
theorem dP_hasLanding_12 : decode bP_hasLanding 12 = .ok (.if_icmp .gt 7, 3) := by decide +kernel
theorem dP_hasLanding_15 : decode bP_hasLanding 15 = .ok (.iconst 1, 1) := by decide +kernel
theorem dP_hasLanding_16 : decode bP_hasLanding 16 = .ok (.goto 4, 3) := by decide +kernel
theorem dP_hasLanding_19 : decode bP_hasLanding 19 = .ok (.iconst 0, 1) := by decide +kernel
theorem dP_hasLanding_20 : decode bP_hasLanding 20 = .ok (.ireturn, 1) := by decide +kernel
theorem dM_add_0 : decode bM_add 0 = .ok (.aload_n 0, 1) := by decide +kernel
theorem dM_add_1 : decode bM_add 1 = .ok (.getfield 14, 3) := by decide +kernel
theorem dM_add_4 : decode bM_add 4 = .ok (.iload_n 1, 1) := by decide +kernel
theorem dM_add_5 : decode bM_add 5 = .ok (.invokevirtual 32, 3) := by decide +kernel
theorem dM_add_8 : decode bM_add 8 = .ok (.aload_n 0, 1) := by decide +kernel
theorem dM_add_9 : decode bM_add 9 = .ok (.getfield 20, 3) := by decide +kernel
theorem dM_add_12 : decode bM_add 12 = .ok (.iload_n 2, 1) := by decide +kernel
theorem dM_add_13 : decode bM_add 13 = .ok (.invokevirtual 32, 3) := by decide +kernel
theorem dM_add_16 : decode bM_add 16 = .ok (.aload_n 0, 1) := by decide +kernel
theorem dM_add_17 : decode bM_add 17 = .ok (.getfield 23, 3) := by decide +kernel
theorem dM_add_20 : decode bM_add 20 = .ok (.iload_n 3, 1) := by decide +kernel
theorem dM_add_21 : decode bM_add 21 = .ok (.invokevirtual 32, 3) := by decide +kernel
theorem dM_add_24 : decode bM_add 24 = .ok (.return_, 1) := by decide +kernel
theorem dM_leastChange_0 : decode bM_leastChange 0 = .ok (.iconst 0, 1) := by decide +kernel
theorem dM_leastChange_1 : decode bM_leastChange 1 = .ok (.istore_n 1, 1) := by decide +kernel
theorem dM_leastChange_2 : decode bM_leastChange 2 = .ok (.iconst 3, 1) := by decide +kernel
theorem dM_leastChange_3 : decode bM_leastChange 3 = .ok (.aload_n 0, 1) := by decide +kernel
theorem dM_leastChange_4 : decode bM_leastChange 4 = .ok (.getfield 23, 3) := by decide +kernel
theorem dM_leastChange_7 : decode bM_leastChange 7 = .ok (.invokevirtual 35, 3) := by decide +kernel
theorem dM_leastChange_10 : decode bM_leastChange 10 = .ok (.invokestatic 56, 3) := by decide +kernel
theorem dM_leastChange_13 : decode bM_leastChange 13 = .ok (.istore_n 2, 1) := by decide +kernel
theorem dM_leastChange_14 : decode bM_leastChange 14 = .ok (.iconst 0, 1) := by decide +kernel
theorem dM_leastChange_15 : decode bM_leastChange 15 = .ok (.istore_n 3, 1) := by decide +kernel
theorem dM_leastChange_16 : decode bM_leastChange 16 = .ok (.iload_n 3, 1) := by decide +kernel
theorem dM_leastChange_17 : decode bM_leastChange 17 = .ok (.iload_n 2, 1) := by decide +kernel
theorem dM_leastChange_18 : decode bM_leastChange 18 = .ok (.if_icmp .ge 19, 3) := by decide +kernel
theorem dM_leastChange_21 : decode bM_leastChange 21 = .ok (.iload_n 1, 1) := by decide +kernel
theorem dM_leastChange_22 : decode bM_leastChange 22 = .ok (.aload_n 0, 1) := by decide +kernel
theorem dM_leastChange_23 : decode bM_leastChange 23 = .ok (.iload_n 3, 1) := by decide +kernel
theorem dM_leastChange_24 : decode bM_leastChange 24 = .ok (.invokevirtual 60, 3) := by decide +kernel
theorem dM_leastChange_27 : decode bM_leastChange 27 = .ok (.invokestatic 63, 3) := by decide +kernel
theorem dM_leastChange_30 : decode bM_leastChange 30 = .ok (.istore_n 1, 1) := by decide +kernel
theorem dM_leastChange_31 : decode bM_leastChange 31 = .ok (.iinc 3 1, 3) := by decide +kernel
theorem dM_leastChange_34 : decode bM_leastChange 34 = .ok (.goto (-18), 3) := by decide +kernel
theorem dM_leastChange_37 : decode bM_leastChange 37 = .ok (.iload_n 1, 1) := by decide +kernel
theorem dM_leastChange_38 : decode bM_leastChange 38 = .ok (.ireturn, 1) := by decide +kernel
theorem dM_gapOf_0 : decode bM_gapOf 0 = .ok (.aload_n 0, 1) := by decide +kernel
theorem dM_gapOf_1 : decode bM_gapOf 1 = .ok (.getfield 26, 3) := by decide +kernel
theorem dM_gapOf_4 : decode bM_gapOf 4 = .ok (.invokevirtual 29, 3) := by decide +kernel
theorem dM_gapOf_7 : decode bM_gapOf 7 = .ok (.iconst 0, 1) := by decide +kernel
theorem dM_gapOf_8 : decode bM_gapOf 8 = .ok (.istore_n 2, 1) := by decide +kernel
theorem dM_gapOf_9 : decode bM_gapOf 9 = .ok (.iload_n 1, 1) := by decide +kernel
theorem dM_gapOf_10 : decode bM_gapOf 10 = .ok (.istore_n 3, 1) := by decide +kernel
theorem dM_gapOf_11 : decode bM_gapOf 11 = .ok (.iconst 0, 1) := by decide +kernel
theorem dM_gapOf_12 : decode bM_gapOf 12 = .ok (.istore 4, 2) := by decide +kernel
theorem dM_gapOf_14 : decode bM_gapOf 14 = .ok (.iload 4, 2) := by decide +kernel
theorem dM_gapOf_16 : decode bM_gapOf 16 = .ok (.aload_n 0, 1) := by decide +kernel
theorem dM_gapOf_17 : decode bM_gapOf 17 = .ok (.getfield 23, 3) := by decide +kernel
theorem dM_gapOf_20 : decode bM_gapOf 20 = .ok (.invokevirtual 35, 3) := by decide +kernel
theorem dM_gapOf_23 : decode bM_gapOf 23 = .ok (.if_icmp .ge 105, 3) := by decide +kernel
theorem dM_gapOf_26 : decode bM_gapOf 26 = .ok (.iload_n 3, 1) := by decide +kernel
theorem dM_gapOf_27 : decode bM_gapOf 27 = .ok (.iconst 3, 1) := by decide +kernel
theorem dM_gapOf_28 : decode bM_gapOf 28 = .ok (.irem, 1) := by decide +kernel
theorem dM_gapOf_29 : decode bM_gapOf 29 = .ok (.iconst 1, 1) := by decide +kernel
theorem dM_gapOf_30 : decode bM_gapOf 30 = .ok (.isub, 1) := by decide +kernel
theorem dM_gapOf_31 : decode bM_gapOf 31 = .ok (.istore 5, 2) := by decide +kernel
theorem dM_gapOf_33 : decode bM_gapOf 33 = .ok (.iload_n 3, 1) := by decide +kernel
theorem dM_gapOf_34 : decode bM_gapOf 34 = .ok (.iconst 3, 1) := by decide +kernel
theorem dM_gapOf_35 : decode bM_gapOf 35 = .ok (.idiv, 1) := by decide +kernel
theorem dM_gapOf_36 : decode bM_gapOf 36 = .ok (.istore_n 3, 1) := by decide +kernel
theorem dM_gapOf_37 : decode bM_gapOf 37 = .ok (.iload_n 2, 1) := by decide +kernel
theorem dM_gapOf_38 : decode bM_gapOf 38 = .ok (.iload 5, 2) := by decide +kernel
theorem dM_gapOf_40 : decode bM_gapOf 40 = .ok (.aload_n 0, 1) := by decide +kernel
theorem dM_gapOf_41 : decode bM_gapOf 41 = .ok (.getfield 23, 3) := by decide +kernel
theorem dM_gapOf_44 : decode bM_gapOf 44 = .ok (.iload 4, 2) := by decide +kernel
theorem dM_gapOf_46 : decode bM_gapOf 46 = .ok (.invokevirtual 39, 3) := by decide +kernel
theorem dM_gapOf_49 : decode bM_gapOf 49 = .ok (.imul, 1) := by decide +kernel
theorem dM_gapOf_50 : decode bM_gapOf 50 = .ok (.iadd, 1) := by decide +kernel
theorem dM_gapOf_51 : decode bM_gapOf 51 = .ok (.istore_n 2, 1) := by decide +kernel
theorem dM_gapOf_52 : decode bM_gapOf 52 = .ok (.aload_n 0, 1) := by decide +kernel
theorem dM_gapOf_53 : decode bM_gapOf 53 = .ok (.getfield 26, 3) := by decide +kernel
theorem dM_gapOf_56 : decode bM_gapOf 56 = .ok (.aload_n 0, 1) := by decide +kernel
theorem dM_gapOf_57 : decode bM_gapOf 57 = .ok (.getfield 14, 3) := by decide +kernel
theorem dM_gapOf_60 : decode bM_gapOf 60 = .ok (.iload 4, 2) := by decide +kernel
theorem dM_gapOf_62 : decode bM_gapOf 62 = .ok (.invokevirtual 39, 3) := by decide +kernel
theorem dM_gapOf_65 : decode bM_gapOf 65 = .ok (.aload_n 0, 1) := by decide +kernel
theorem dM_gapOf_66 : decode bM_gapOf 66 = .ok (.getfield 26, 3) := by decide +kernel
theorem dM_gapOf_69 : decode bM_gapOf 69 = .ok (.aload_n 0, 1) := by decide +kernel
theorem dM_gapOf_70 : decode bM_gapOf 70 = .ok (.getfield 14, 3) := by decide +kernel
theorem dM_gapOf_73 : decode bM_gapOf 73 = .ok (.iload 4, 2) := by decide +kernel
theorem dM_gapOf_75 : decode bM_gapOf 75 = .ok (.invokevirtual 39, 3) := by decide +kernel
theorem dM_gapOf_78 : decode bM_gapOf 78 = .ok (.invokevirtual 39, 3) := by decide +kernel
theorem dM_gapOf_81 : decode bM_gapOf 81 = .ok (.iload 5, 2) := by decide +kernel
theorem dM_gapOf_83 : decode bM_gapOf 83 = .ok (.isub, 1) := by decide +kernel
theorem dM_gapOf_84 : decode bM_gapOf 84 = .ok (.invokevirtual 66, 3) := by decide +kernel
theorem dM_gapOf_87 : decode bM_gapOf 87 = .ok (.aload_n 0, 1) := by decide +kernel
theorem dM_gapOf_88 : decode bM_gapOf 88 = .ok (.getfield 26, 3) := by decide +kernel
theorem dM_gapOf_91 : decode bM_gapOf 91 = .ok (.aload_n 0, 1) := by decide +kernel
theorem dM_gapOf_92 : decode bM_gapOf 92 = .ok (.getfield 20, 3) := by decide +kernel
theorem dM_gapOf_95 : decode bM_gapOf 95 = .ok (.iload 4, 2) := by decide +kernel
theorem dM_gapOf_97 : decode bM_gapOf 97 = .ok (.invokevirtual 39, 3) := by decide +kernel
theorem dM_gapOf_100 : decode bM_gapOf 100 = .ok (.aload_n 0, 1) := by decide +kernel
theorem dM_gapOf_101 : decode bM_gapOf 101 = .ok (.getfield 26, 3) := by decide +kernel
theorem dM_gapOf_104 : decode bM_gapOf 104 = .ok (.aload_n 0, 1) := by decide +kernel
theorem dM_gapOf_105 : decode bM_gapOf 105 = .ok (.getfield 20, 3) := by decide +kernel
theorem dM_gapOf_108 : decode bM_gapOf 108 = .ok (.iload 4, 2) := by decide +kernel
theorem dM_gapOf_110 : decode bM_gapOf 110 = .ok (.invokevirtual 39, 3) := by decide +kernel
theorem dM_gapOf_113 : decode bM_gapOf 113 = .ok (.invokevirtual 39, 3) := by decide +kernel
theorem dM_gapOf_116 : decode bM_gapOf 116 = .ok (.iload 5, 2) := by decide +kernel
theorem dM_gapOf_118 : decode bM_gapOf 118 = .ok (.iadd, 1) := by decide +kernel
theorem dM_gapOf_119 : decode bM_gapOf 119 = .ok (.invokevirtual 66, 3) := by decide +kernel
theorem dM_gapOf_122 : decode bM_gapOf 122 = .ok (.iinc 4 1, 3) := by decide +kernel
theorem dM_gapOf_125 : decode bM_gapOf 125 = .ok (.goto (-111), 3) := by decide +kernel
theorem dM_gapOf_128 : decode bM_gapOf 128 = .ok (.iconst 0, 1) := by decide +kernel
theorem dM_gapOf_129 : decode bM_gapOf 129 = .ok (.istore 4, 2) := by decide +kernel
theorem dM_gapOf_131 : decode bM_gapOf 131 = .ok (.iload 4, 2) := by decide +kernel
theorem dM_gapOf_133 : decode bM_gapOf 133 = .ok (.iconst 5, 1) := by decide +kernel
theorem dM_gapOf_134 : decode bM_gapOf 134 = .ok (.if_icmp .gt 23, 3) := by decide +kernel
theorem dM_gapOf_137 : decode bM_gapOf 137 = .ok (.aload_n 0, 1) := by decide +kernel
theorem dM_gapOf_138 : decode bM_gapOf 138 = .ok (.getfield 26, 3) := by decide +kernel
theorem dM_gapOf_141 : decode bM_gapOf 141 = .ok (.iload 4, 2) := by decide +kernel
theorem dM_gapOf_143 : decode bM_gapOf 143 = .ok (.invokevirtual 39, 3) := by decide +kernel
theorem dM_gapOf_146 : decode bM_gapOf 146 = .ok (.ifCond .eq 5, 3) := by decide +kernel
theorem dM_gapOf_149 : decode bM_gapOf 149 = .ok (.iconst 0, 1) := by decide +kernel
theorem dM_gapOf_150 : decode bM_gapOf 150 = .ok (.ireturn, 1) := by decide +kernel
theorem dM_gapOf_151 : decode bM_gapOf 151 = .ok (.iinc 4 1, 3) := by decide +kernel
theorem dM_gapOf_154 : decode bM_gapOf 154 = .ok (.goto (-23), 3) := by decide +kernel
theorem dM_gapOf_157 : decode bM_gapOf 157 = .ok (.iload_n 2, 1) := by decide +kernel
theorem dM_gapOf_158 : decode bM_gapOf 158 = .ok (.ireturn, 1) := by decide +kernel
theorem dM_offBy_0 : decode bM_offBy 0 = .ok (.iconst 0, 1) := by decide +kernel
theorem dM_offBy_1 : decode bM_offBy 1 = .ok (.istore_n 2, 1) := by decide +kernel
theorem dM_offBy_2 : decode bM_offBy 2 = .ok (.iconst 0, 1) := by decide +kernel
theorem dM_offBy_3 : decode bM_offBy 3 = .ok (.istore_n 3, 1) := by decide +kernel
theorem dM_offBy_4 : decode bM_offBy 4 = .ok (.iload_n 3, 1) := by decide +kernel
theorem dM_offBy_5 : decode bM_offBy 5 = .ok (.aload_n 0, 1) := by decide +kernel
theorem dM_offBy_6 : decode bM_offBy 6 = .ok (.getfield 23, 3) := by decide +kernel
theorem dM_offBy_9 : decode bM_offBy 9 = .ok (.invokevirtual 35, 3) := by decide +kernel
theorem dM_offBy_12 : decode bM_offBy 12 = .ok (.if_icmp .ge 73, 3) := by decide +kernel
theorem dM_offBy_15 : decode bM_offBy 15 = .ok (.aload_n 1, 1) := by decide +kernel
theorem dM_offBy_16 : decode bM_offBy 16 = .ok (.sipush 1000, 3) := by decide +kernel
theorem dM_offBy_19 : decode bM_offBy 19 = .ok (.aload_n 1, 1) := by decide +kernel
theorem dM_offBy_20 : decode bM_offBy 20 = .ok (.aload_n 0, 1) := by decide +kernel
theorem dM_offBy_21 : decode bM_offBy 21 = .ok (.getfield 14, 3) := by decide +kernel
theorem dM_offBy_24 : decode bM_offBy 24 = .ok (.iload_n 3, 1) := by decide +kernel
theorem dM_offBy_25 : decode bM_offBy 25 = .ok (.invokevirtual 39, 3) := by decide +kernel
theorem dM_offBy_28 : decode bM_offBy 28 = .ok (.invokevirtual 43, 3) := by decide +kernel
theorem dM_offBy_31 : decode bM_offBy 31 = .ok (.imul, 1) := by decide +kernel
theorem dM_offBy_32 : decode bM_offBy 32 = .ok (.invokevirtual 48, 3) := by decide +kernel
theorem dM_offBy_35 : decode bM_offBy 35 = .ok (.istore 4, 2) := by decide +kernel
theorem dM_offBy_37 : decode bM_offBy 37 = .ok (.aload_n 1, 1) := by decide +kernel
theorem dM_offBy_38 : decode bM_offBy 38 = .ok (.sipush 1000, 3) := by decide +kernel
theorem dM_offBy_41 : decode bM_offBy 41 = .ok (.aload_n 1, 1) := by decide +kernel
theorem dM_offBy_42 : decode bM_offBy 42 = .ok (.aload_n 0, 1) := by decide +kernel
theorem dM_offBy_43 : decode bM_offBy 43 = .ok (.getfield 20, 3) := by decide +kernel
theorem dM_offBy_46 : decode bM_offBy 46 = .ok (.iload_n 3, 1) := by decide +kernel
theorem dM_offBy_47 : decode bM_offBy 47 = .ok (.invokevirtual 39, 3) := by decide +kernel
theorem dM_offBy_50 : decode bM_offBy 50 = .ok (.invokevirtual 43, 3) := by decide +kernel
theorem dM_offBy_53 : decode bM_offBy 53 = .ok (.imul, 1) := by decide +kernel
theorem dM_offBy_54 : decode bM_offBy 54 = .ok (.invokevirtual 48, 3) := by decide +kernel
theorem dM_offBy_57 : decode bM_offBy 57 = .ok (.istore 5, 2) := by decide +kernel
theorem dM_offBy_59 : decode bM_offBy 59 = .ok (.iload_n 2, 1) := by decide +kernel
theorem dM_offBy_60 : decode bM_offBy 60 = .ok (.iload 5, 2) := by decide +kernel
theorem dM_offBy_62 : decode bM_offBy 62 = .ok (.iload 4, 2) := by decide +kernel
theorem dM_offBy_64 : decode bM_offBy 64 = .ok (.isub, 1) := by decide +kernel
theorem dM_offBy_65 : decode bM_offBy 65 = .ok (.aload_n 0, 1) := by decide +kernel
theorem dM_offBy_66 : decode bM_offBy 66 = .ok (.getfield 23, 3) := by decide +kernel
theorem dM_offBy_69 : decode bM_offBy 69 = .ok (.iload_n 3, 1) := by decide +kernel
theorem dM_offBy_70 : decode bM_offBy 70 = .ok (.invokevirtual 39, 3) := by decide +kernel
theorem dM_offBy_73 : decode bM_offBy 73 = .ok (.isub, 1) := by decide +kernel
theorem dM_offBy_74 : decode bM_offBy 74 = .ok (.invokestatic 51, 3) := by decide +kernel
theorem dM_offBy_77 : decode bM_offBy 77 = .ok (.iadd, 1) := by decide +kernel
theorem dM_offBy_78 : decode bM_offBy 78 = .ok (.istore_n 2, 1) := by decide +kernel
theorem dM_offBy_79 : decode bM_offBy 79 = .ok (.iinc 3 1, 3) := by decide +kernel
theorem dM_offBy_82 : decode bM_offBy 82 = .ok (.goto (-78), 3) := by decide +kernel
theorem dM_offBy_85 : decode bM_offBy 85 = .ok (.iload_n 2, 1) := by decide +kernel
theorem dM_offBy_86 : decode bM_offBy 86 = .ok (.ireturn, 1) := by decide +kernel
theorem dJ_bitCount_0 : decode bJ_bitCount 0 = .ok (.iload_n 0, 1) := by decide +kernel
theorem dJ_bitCount_1 : decode bJ_bitCount 1 = .ok (.iload_n 0, 1) := by decide +kernel
theorem dJ_bitCount_2 : decode bJ_bitCount 2 = .ok (.iconst 1, 1) := by decide +kernel
theorem dJ_bitCount_3 : decode bJ_bitCount 3 = .ok (.iushr, 1) := by decide +kernel
theorem dJ_bitCount_4 : decode bJ_bitCount 4 = .ok (.ldc_w 265, 3) := by decide +kernel
theorem dJ_bitCount_7 : decode bJ_bitCount 7 = .ok (.iand, 1) := by decide +kernel
theorem dJ_bitCount_8 : decode bJ_bitCount 8 = .ok (.isub, 1) := by decide +kernel
theorem dJ_bitCount_9 : decode bJ_bitCount 9 = .ok (.istore_n 0, 1) := by decide +kernel
theorem dJ_bitCount_10 : decode bJ_bitCount 10 = .ok (.iload_n 0, 1) := by decide +kernel
theorem dJ_bitCount_11 : decode bJ_bitCount 11 = .ok (.ldc_w 266, 3) := by decide +kernel
theorem dJ_bitCount_14 : decode bJ_bitCount 14 = .ok (.iand, 1) := by decide +kernel
theorem dJ_bitCount_15 : decode bJ_bitCount 15 = .ok (.iload_n 0, 1) := by decide +kernel
theorem dJ_bitCount_16 : decode bJ_bitCount 16 = .ok (.iconst 2, 1) := by decide +kernel
theorem dJ_bitCount_17 : decode bJ_bitCount 17 = .ok (.iushr, 1) := by decide +kernel
theorem dJ_bitCount_18 : decode bJ_bitCount 18 = .ok (.ldc_w 266, 3) := by decide +kernel
theorem dJ_bitCount_21 : decode bJ_bitCount 21 = .ok (.iand, 1) := by decide +kernel
theorem dJ_bitCount_22 : decode bJ_bitCount 22 = .ok (.iadd, 1) := by decide +kernel
theorem dJ_bitCount_23 : decode bJ_bitCount 23 = .ok (.istore_n 0, 1) := by decide +kernel
theorem dJ_bitCount_24 : decode bJ_bitCount 24 = .ok (.iload_n 0, 1) := by decide +kernel
theorem dJ_bitCount_25 : decode bJ_bitCount 25 = .ok (.iload_n 0, 1) := by decide +kernel
theorem dJ_bitCount_26 : decode bJ_bitCount 26 = .ok (.iconst 4, 1) := by decide +kernel
theorem dJ_bitCount_27 : decode bJ_bitCount 27 = .ok (.iushr, 1) := by decide +kernel
theorem dJ_bitCount_28 : decode bJ_bitCount 28 = .ok (.iadd, 1) := by decide +kernel
theorem dJ_bitCount_29 : decode bJ_bitCount 29 = .ok (.ldc_w 267, 3) := by decide +kernel
theorem dJ_bitCount_32 : decode bJ_bitCount 32 = .ok (.iand, 1) := by decide +kernel
theorem dJ_bitCount_33 : decode bJ_bitCount 33 = .ok (.istore_n 0, 1) := by decide +kernel
theorem dJ_bitCount_34 : decode bJ_bitCount 34 = .ok (.iload_n 0, 1) := by decide +kernel
theorem dJ_bitCount_35 : decode bJ_bitCount 35 = .ok (.iload_n 0, 1) := by decide +kernel
theorem dJ_bitCount_36 : decode bJ_bitCount 36 = .ok (.bipush 8, 2) := by decide +kernel
theorem dJ_bitCount_38 : decode bJ_bitCount 38 = .ok (.iushr, 1) := by decide +kernel
theorem dJ_bitCount_39 : decode bJ_bitCount 39 = .ok (.iadd, 1) := by decide +kernel
theorem dJ_bitCount_40 : decode bJ_bitCount 40 = .ok (.istore_n 0, 1) := by decide +kernel
theorem dJ_bitCount_41 : decode bJ_bitCount 41 = .ok (.iload_n 0, 1) := by decide +kernel
theorem dJ_bitCount_42 : decode bJ_bitCount 42 = .ok (.iload_n 0, 1) := by decide +kernel
theorem dJ_bitCount_43 : decode bJ_bitCount 43 = .ok (.bipush 16, 2) := by decide +kernel
theorem dJ_bitCount_45 : decode bJ_bitCount 45 = .ok (.iushr, 1) := by decide +kernel
theorem dJ_bitCount_46 : decode bJ_bitCount 46 = .ok (.iadd, 1) := by decide +kernel
theorem dJ_bitCount_47 : decode bJ_bitCount 47 = .ok (.istore_n 0, 1) := by decide +kernel
theorem dJ_bitCount_48 : decode bJ_bitCount 48 = .ok (.iload_n 0, 1) := by decide +kernel
theorem dJ_bitCount_49 : decode bJ_bitCount 49 = .ok (.bipush 63, 2) := by decide +kernel
theorem dJ_bitCount_51 : decode bJ_bitCount 51 = .ok (.iand, 1) := by decide +kernel
theorem dJ_bitCount_52 : decode bJ_bitCount 52 = .ok (.ireturn, 1) := by decide +kernel
theorem dS_thingsBetween_0 : decode bS_thingsBetween 0 = .ok (.iconst 0, 1) := by decide +kernel
theorem dS_thingsBetween_1 : decode bS_thingsBetween 1 = .ok (.istore_n 3, 1) := by decide +kernel
theorem dS_thingsBetween_2 : decode bS_thingsBetween 2 = .ok (.iconst 0, 1) := by decide +kernel
theorem dS_thingsBetween_3 : decode bS_thingsBetween 3 = .ok (.istore 4, 2) := by decide +kernel
theorem dS_thingsBetween_5 : decode bS_thingsBetween 5 = .ok (.iload 4, 2) := by decide +kernel
theorem dS_thingsBetween_7 : decode bS_thingsBetween 7 = .ok (.aload_n 0, 1) := by decide +kernel
theorem dS_thingsBetween_8 : decode bS_thingsBetween 8 = .ok (.getfield 29, 3) := by decide +kernel
theorem dS_thingsBetween_11 : decode bS_thingsBetween 11 = .ok (.invokevirtual 60, 3) := by decide +kernel
theorem dS_thingsBetween_14 : decode bS_thingsBetween 14 = .ok (.if_icmp .ge 38, 3) := by decide +kernel
theorem dS_thingsBetween_17 : decode bS_thingsBetween 17 = .ok (.aload_n 0, 1) := by decide +kernel
theorem dS_thingsBetween_18 : decode bS_thingsBetween 18 = .ok (.getfield 29, 3) := by decide +kernel
theorem dS_thingsBetween_21 : decode bS_thingsBetween 21 = .ok (.iload 4, 2) := by decide +kernel
theorem dS_thingsBetween_23 : decode bS_thingsBetween 23 = .ok (.invokevirtual 39, 3) := by decide +kernel
theorem dS_thingsBetween_26 : decode bS_thingsBetween 26 = .ok (.iload_n 1, 1) := by decide +kernel
theorem dS_thingsBetween_27 : decode bS_thingsBetween 27 = .ok (.if_icmp .lt 19, 3) := by decide +kernel
theorem dS_thingsBetween_30 : decode bS_thingsBetween 30 = .ok (.aload_n 0, 1) := by decide +kernel
theorem dS_thingsBetween_31 : decode bS_thingsBetween 31 = .ok (.getfield 29, 3) := by decide +kernel
theorem dS_thingsBetween_34 : decode bS_thingsBetween 34 = .ok (.iload 4, 2) := by decide +kernel
theorem dS_thingsBetween_36 : decode bS_thingsBetween 36 = .ok (.invokevirtual 39, 3) := by decide +kernel
theorem dS_thingsBetween_39 : decode bS_thingsBetween 39 = .ok (.iload_n 2, 1) := by decide +kernel
theorem dS_thingsBetween_40 : decode bS_thingsBetween 40 = .ok (.if_icmp .ge 6, 3) := by decide +kernel
theorem dS_thingsBetween_43 : decode bS_thingsBetween 43 = .ok (.iinc 3 1, 3) := by decide +kernel
theorem dS_thingsBetween_46 : decode bS_thingsBetween 46 = .ok (.iinc 4 1, 3) := by decide +kernel
theorem dS_thingsBetween_49 : decode bS_thingsBetween 49 = .ok (.goto (-44), 3) := by decide +kernel
theorem dS_thingsBetween_52 : decode bS_thingsBetween 52 = .ok (.iload_n 3, 1) := by decide +kernel
theorem dS_thingsBetween_53 : decode bS_thingsBetween 53 = .ok (.ireturn, 1) := by decide +kernel
theorem dS_copy_0 : decode bS_copy 0 = .ok (.aload_n 0, 1) := by decide +kernel
theorem dS_copy_1 : decode bS_copy 1 = .ok (.getfield 14, 3) := by decide +kernel
theorem dS_copy_4 : decode bS_copy 4 = .ok (.aload_n 1, 1) := by decide +kernel
theorem dS_copy_5 : decode bS_copy 5 = .ok (.getfield 14, 3) := by decide +kernel
theorem dS_copy_8 : decode bS_copy 8 = .ok (.invokevirtual 35, 3) := by decide +kernel
theorem dS_copy_11 : decode bS_copy 11 = .ok (.aload_n 0, 1) := by decide +kernel
theorem dS_copy_12 : decode bS_copy 12 = .ok (.getfield 20, 3) := by decide +kernel
theorem dS_copy_15 : decode bS_copy 15 = .ok (.aload_n 1, 1) := by decide +kernel
theorem dS_copy_16 : decode bS_copy 16 = .ok (.getfield 20, 3) := by decide +kernel
theorem dS_copy_19 : decode bS_copy 19 = .ok (.invokevirtual 35, 3) := by decide +kernel
theorem dS_copy_22 : decode bS_copy 22 = .ok (.aload_n 0, 1) := by decide +kernel
theorem dS_copy_23 : decode bS_copy 23 = .ok (.getfield 23, 3) := by decide +kernel
theorem dS_copy_26 : decode bS_copy 26 = .ok (.aload_n 1, 1) := by decide +kernel
theorem dS_copy_27 : decode bS_copy 27 = .ok (.getfield 23, 3) := by decide +kernel
theorem dS_copy_30 : decode bS_copy 30 = .ok (.invokevirtual 35, 3) := by decide +kernel
theorem dS_copy_33 : decode bS_copy 33 = .ok (.aload_n 0, 1) := by decide +kernel
theorem dS_copy_34 : decode bS_copy 34 = .ok (.getfield 26, 3) := by decide +kernel
theorem dS_copy_37 : decode bS_copy 37 = .ok (.aload_n 1, 1) := by decide +kernel
theorem dS_copy_38 : decode bS_copy 38 = .ok (.getfield 26, 3) := by decide +kernel
theorem dS_copy_41 : decode bS_copy 41 = .ok (.invokevirtual 35, 3) := by decide +kernel
theorem dS_copy_44 : decode bS_copy 44 = .ok (.aload_n 0, 1) := by decide +kernel
theorem dS_copy_45 : decode bS_copy 45 = .ok (.getfield 29, 3) := by decide +kernel
theorem dS_copy_48 : decode bS_copy 48 = .ok (.aload_n 1, 1) := by decide +kernel
theorem dS_copy_49 : decode bS_copy 49 = .ok (.getfield 29, 3) := by decide +kernel
theorem dS_copy_52 : decode bS_copy 52 = .ok (.invokevirtual 35, 3) := by decide +kernel
theorem dS_copy_55 : decode bS_copy 55 = .ok (.return_, 1) := by decide +kernel
theorem dR_copy_0 : decode bR_copy 0 = .ok (.iconst 0, 1) := by decide +kernel
theorem dR_copy_1 : decode bR_copy 1 = .ok (.istore_n 2, 1) := by decide +kernel
theorem dR_copy_2 : decode bR_copy 2 = .ok (.iload_n 2, 1) := by decide +kernel
theorem dR_copy_3 : decode bR_copy 3 = .ok (.aload_n 0, 1) := by decide +kernel
theorem dR_copy_4 : decode bR_copy 4 = .ok (.getfield 13, 3) := by decide +kernel
theorem dR_copy_7 : decode bR_copy 7 = .ok (.arraylength, 1) := by decide +kernel
theorem dR_copy_8 : decode bR_copy 8 = .ok (.if_icmp .ge 20, 3) := by decide +kernel
theorem dR_copy_11 : decode bR_copy 11 = .ok (.aload_n 0, 1) := by decide +kernel
theorem dR_copy_12 : decode bR_copy 12 = .ok (.getfield 13, 3) := by decide +kernel
theorem dR_copy_15 : decode bR_copy 15 = .ok (.iload_n 2, 1) := by decide +kernel
theorem dR_copy_16 : decode bR_copy 16 = .ok (.aload_n 1, 1) := by decide +kernel
theorem dR_copy_17 : decode bR_copy 17 = .ok (.iload_n 2, 1) := by decide +kernel
theorem dR_copy_18 : decode bR_copy 18 = .ok (.invokevirtual 31, 3) := by decide +kernel
theorem dR_copy_21 : decode bR_copy 21 = .ok (.iastore, 1) := by decide +kernel
theorem dR_copy_22 : decode bR_copy 22 = .ok (.iinc 2 1, 3) := by decide +kernel
theorem dR_copy_25 : decode bR_copy 25 = .ok (.goto (-23), 3) := by decide +kernel
theorem dR_copy_28 : decode bR_copy 28 = .ok (.aload_n 0, 1) := by decide +kernel
theorem dR_copy_29 : decode bR_copy 29 = .ok (.aload_n 0, 1) := by decide +kernel
theorem dR_copy_30 : decode bR_copy 30 = .ok (.getfield 13, 3) := by decide +kernel
theorem dR_copy_33 : decode bR_copy 33 = .ok (.arraylength, 1) := by decide +kernel
theorem dR_copy_34 : decode bR_copy 34 = .ok (.aload_n 1, 1) := by decide +kernel
theorem dR_copy_35 : decode bR_copy 35 = .ok (.getfield 19, 3) := by decide +kernel
theorem dR_copy_38 : decode bR_copy 38 = .ok (.invokestatic 35, 3) := by decide +kernel
theorem dR_copy_41 : decode bR_copy 41 = .ok (.putfield 19, 3) := by decide +kernel
theorem dR_copy_44 : decode bR_copy 44 = .ok (.return_, 1) := by decide +kernel
end
section
theorem dX_init_0 : decode bX_init 0 = .ok (.aload_n 0, 1) := by decide +kernel
theorem dX_init_1 : decode bX_init 1 = .ok (.invokespecial 3, 3) := by decide +kernel
theorem dX_init_4 : decode bX_init 4 = .ok (.aload_n 0, 1) := by decide +kernel
theorem dX_init_5 : decode bX_init 5 = .ok (.new 9, 3) := by decide +kernel
theorem dX_init_8 : decode bX_init 8 = .ok (.dup, 1) := by decide +kernel
theorem dX_init_9 : decode bX_init 9 = .ok (.invokespecial 11, 3) := by decide +kernel
theorem dX_init_12 : decode bX_init 12 = .ok (.putfield 12, 3) := by decide +kernel
theorem dX_init_15 : decode bX_init 15 = .ok (.aload_n 0, 1) := by decide +kernel
theorem dX_init_16 : decode bX_init 16 = .ok (.new 16, 3) := by decide +kernel
theorem dX_init_19 : decode bX_init 19 = .ok (.dup, 1) := by decide +kernel
theorem dX_init_20 : decode bX_init 20 = .ok (.invokespecial 18, 3) := by decide +kernel
theorem dX_init_23 : decode bX_init 23 = .ok (.putfield 19, 3) := by decide +kernel
theorem dX_init_26 : decode bX_init 26 = .ok (.aload_n 0, 1) := by decide +kernel
theorem dX_init_27 : decode bX_init 27 = .ok (.new 16, 3) := by decide +kernel
theorem dX_init_30 : decode bX_init 30 = .ok (.dup, 1) := by decide +kernel
theorem dX_init_31 : decode bX_init 31 = .ok (.invokespecial 18, 3) := by decide +kernel
theorem dX_init_34 : decode bX_init 34 = .ok (.putfield 23, 3) := by decide +kernel
theorem dX_init_37 : decode bX_init 37 = .ok (.aload_n 0, 1) := by decide +kernel
theorem dX_init_38 : decode bX_init 38 = .ok (.new 26, 3) := by decide +kernel
theorem dX_init_41 : decode bX_init 41 = .ok (.dup, 1) := by decide +kernel
theorem dX_init_42 : decode bX_init 42 = .ok (.invokespecial 28, 3) := by decide +kernel
theorem dX_init_45 : decode bX_init 45 = .ok (.putfield 29, 3) := by decide +kernel
theorem dX_init_48 : decode bX_init 48 = .ok (.aload_n 0, 1) := by decide +kernel
theorem dX_init_49 : decode bX_init 49 = .ok (.new 26, 3) := by decide +kernel
theorem dX_init_52 : decode bX_init 52 = .ok (.dup, 1) := by decide +kernel
theorem dX_init_53 : decode bX_init 53 = .ok (.invokespecial 28, 3) := by decide +kernel
theorem dX_init_56 : decode bX_init 56 = .ok (.putfield 33, 3) := by decide +kernel
theorem dX_init_59 : decode bX_init 59 = .ok (.aload_n 0, 1) := by decide +kernel
theorem dX_init_60 : decode bX_init 60 = .ok (.new 26, 3) := by decide +kernel
theorem dX_init_63 : decode bX_init 63 = .ok (.dup, 1) := by decide +kernel
theorem dX_init_64 : decode bX_init 64 = .ok (.invokespecial 28, 3) := by decide +kernel
theorem dX_init_67 : decode bX_init 67 = .ok (.putfield 36, 3) := by decide +kernel
theorem dX_init_70 : decode bX_init 70 = .ok (.aload_n 0, 1) := by decide +kernel
theorem dX_init_71 : decode bX_init 71 = .ok (.new 39, 3) := by decide +kernel
theorem dX_init_74 : decode bX_init 74 = .ok (.dup, 1) := by decide +kernel
theorem dX_init_75 : decode bX_init 75 = .ok (.iconst 2, 1) := by decide +kernel
theorem dX_init_76 : decode bX_init 76 = .ok (.invokespecial 41, 3) := by decide +kernel
theorem dX_init_79 : decode bX_init 79 = .ok (.putfield 44, 3) := by decide +kernel
theorem dX_init_82 : decode bX_init 82 = .ok (.aload_n 0, 1) := by decide +kernel
theorem dX_init_83 : decode bX_init 83 = .ok (.new 48, 3) := by decide +kernel
theorem dX_init_86 : decode bX_init 86 = .ok (.dup, 1) := by decide +kernel
theorem dX_init_87 : decode bX_init 87 = .ok (.invokespecial 50, 3) := by decide +kernel
theorem dX_init_90 : decode bX_init 90 = .ok (.putfield 51, 3) := by decide +kernel
theorem dX_init_93 : decode bX_init 93 = .ok (.aload_n 0, 1) := by decide +kernel
theorem dX_init_94 : decode bX_init 94 = .ok (.new 55, 3) := by decide +kernel
theorem dX_init_97 : decode bX_init 97 = .ok (.dup, 1) := by decide +kernel
theorem dX_init_98 : decode bX_init 98 = .ok (.invokespecial 57, 3) := by decide +kernel
theorem dX_init_101 : decode bX_init 101 = .ok (.putfield 58, 3) := by decide +kernel
theorem dX_init_104 : decode bX_init 104 = .ok (.aload_n 0, 1) := by decide +kernel
theorem dX_init_105 : decode bX_init 105 = .ok (.new 62, 3) := by decide +kernel
theorem dX_init_108 : decode bX_init 108 = .ok (.dup, 1) := by decide +kernel
theorem dX_init_109 : decode bX_init 109 = .ok (.invokespecial 64, 3) := by decide +kernel
theorem dX_init_112 : decode bX_init 112 = .ok (.putfield 65, 3) := by decide +kernel
theorem dX_init_115 : decode bX_init 115 = .ok (.return_, 1) := by decide +kernel
theorem dX_type_0 : decode bX_type 0 = .ok (.iload_n 1, 1) := by decide +kernel
theorem dX_type_1 : decode bX_type 1 = .ok (.ifCond .lt 10, 3) := by decide +kernel
theorem dX_type_4 : decode bX_type 4 = .ok (.iload_n 1, 1) := by decide +kernel
theorem dX_type_5 : decode bX_type 5 = .ok (.sipush 255, 3) := by decide +kernel
theorem dX_type_8 : decode bX_type 8 = .ok (.if_icmp .le 5, 3) := by decide +kernel
theorem dX_type_11 : decode bX_type 11 = .ok (.iconst (-1), 1) := by decide +kernel
theorem dX_type_12 : decode bX_type 12 = .ok (.ireturn, 1) := by decide +kernel
theorem dX_type_13 : decode bX_type 13 = .ok (.aload_n 0, 1) := by decide +kernel
theorem dX_type_14 : decode bX_type 14 = .ok (.getfield 12, 3) := by decide +kernel
theorem dX_type_17 : decode bX_type 17 = .ok (.getfield 69, 3) := by decide +kernel
theorem dX_type_20 : decode bX_type 20 = .ok (.invokevirtual 72, 3) := by decide +kernel
theorem dX_type_23 : decode bX_type 23 = .ok (.ifCond .eq 6, 3) := by decide +kernel
theorem dX_type_26 : decode bX_type 26 = .ok (.bipush (-3), 2) := by decide +kernel
theorem dX_type_28 : decode bX_type 28 = .ok (.ireturn, 1) := by decide +kernel
theorem dX_type_29 : decode bX_type 29 = .ok (.aload_n 0, 1) := by decide +kernel
theorem dX_type_30 : decode bX_type 30 = .ok (.getfield 12, 3) := by decide +kernel
theorem dX_type_33 : decode bX_type 33 = .ok (.getfield 69, 3) := by decide +kernel
theorem dX_type_36 : decode bX_type 36 = .ok (.iload_n 1, 1) := by decide +kernel
theorem dX_type_37 : decode bX_type 37 = .ok (.invokevirtual 76, 3) := by decide +kernel
theorem dX_type_40 : decode bX_type 40 = .ok (.aload_n 0, 1) := by decide +kernel
theorem dX_type_41 : decode bX_type 41 = .ok (.getfield 12, 3) := by decide +kernel
theorem dX_type_44 : decode bX_type 44 = .ok (.getfield 69, 3) := by decide +kernel
theorem dX_type_47 : decode bX_type 47 = .ok (.invokevirtual 79, 3) := by decide +kernel
theorem dX_type_50 : decode bX_type 50 = .ok (.ireturn, 1) := by decide +kernel
theorem dX_clear_0 : decode bX_clear 0 = .ok (.aload_n 0, 1) := by decide +kernel
theorem dX_clear_1 : decode bX_clear 1 = .ok (.getfield 12, 3) := by decide +kernel
theorem dX_clear_4 : decode bX_clear 4 = .ok (.getfield 69, 3) := by decide +kernel
theorem dX_clear_7 : decode bX_clear 7 = .ok (.invokevirtual 79, 3) := by decide +kernel
theorem dX_clear_10 : decode bX_clear 10 = .ok (.istore_n 1, 1) := by decide +kernel
theorem dX_clear_11 : decode bX_clear 11 = .ok (.aload_n 0, 1) := by decide +kernel
theorem dX_clear_12 : decode bX_clear 12 = .ok (.getfield 12, 3) := by decide +kernel
theorem dX_clear_15 : decode bX_clear 15 = .ok (.getfield 69, 3) := by decide +kernel
theorem dX_clear_18 : decode bX_clear 18 = .ok (.invokevirtual 83, 3) := by decide +kernel
theorem dX_clear_21 : decode bX_clear 21 = .ok (.iload_n 1, 1) := by decide +kernel
theorem dX_clear_22 : decode bX_clear 22 = .ok (.ireturn, 1) := by decide +kernel
theorem dX_ladder_0 : decode bX_ladder 0 = .ok (.aload_n 0, 1) := by decide +kernel
theorem dX_ladder_1 : decode bX_ladder 1 = .ok (.getfield 12, 3) := by decide +kernel
theorem dX_ladder_4 : decode bX_ladder 4 = .ok (.aload_n 0, 1) := by decide +kernel
theorem dX_ladder_5 : decode bX_ladder 5 = .ok (.getfield 23, 3) := by decide +kernel
theorem dX_ladder_8 : decode bX_ladder 8 = .ok (.invokevirtual 86, 3) := by decide +kernel
theorem dX_ladder_11 : decode bX_ladder 11 = .ok (.istore_n 1, 1) := by decide +kernel
theorem dX_ladder_12 : decode bX_ladder 12 = .ok (.iload_n 1, 1) := by decide +kernel
theorem dX_ladder_13 : decode bX_ladder 13 = .ok (.ifCond .ge 5, 3) := by decide +kernel
theorem dX_ladder_16 : decode bX_ladder 16 = .ok (.iload_n 1, 1) := by decide +kernel
theorem dX_ladder_17 : decode bX_ladder 17 = .ok (.ireturn, 1) := by decide +kernel
theorem dX_ladder_18 : decode bX_ladder 18 = .ok (.aload_n 0, 1) := by decide +kernel
theorem dX_ladder_19 : decode bX_ladder 19 = .ok (.getfield 23, 3) := by decide +kernel
theorem dX_ladder_22 : decode bX_ladder 22 = .ok (.astore_n 2, 1) := by decide +kernel
theorem dX_ladder_23 : decode bX_ladder 23 = .ok (.aload_n 0, 1) := by decide +kernel
theorem dX_ladder_24 : decode bX_ladder 24 = .ok (.aload_n 0, 1) := by decide +kernel
theorem dX_ladder_25 : decode bX_ladder 25 = .ok (.getfield 19, 3) := by decide +kernel
theorem dX_ladder_28 : decode bX_ladder 28 = .ok (.putfield 23, 3) := by decide +kernel
theorem dX_ladder_31 : decode bX_ladder 31 = .ok (.aload_n 0, 1) := by decide +kernel
theorem dX_ladder_32 : decode bX_ladder 32 = .ok (.aload_n 2, 1) := by decide +kernel
theorem dX_ladder_33 : decode bX_ladder 33 = .ok (.putfield 19, 3) := by decide +kernel
theorem dX_ladder_36 : decode bX_ladder 36 = .ok (.aload_n 0, 1) := by decide +kernel
theorem dX_ladder_37 : decode bX_ladder 37 = .ok (.getfield 12, 3) := by decide +kernel
theorem dX_ladder_40 : decode bX_ladder 40 = .ok (.getfield 69, 3) := by decide +kernel
theorem dX_ladder_43 : decode bX_ladder 43 = .ok (.invokevirtual 83, 3) := by decide +kernel
theorem dX_ladder_46 : decode bX_ladder 46 = .ok (.aload_n 0, 1) := by decide +kernel
theorem dX_ladder_47 : decode bX_ladder 47 = .ok (.getfield 29, 3) := by decide +kernel
theorem dX_ladder_50 : decode bX_ladder 50 = .ok (.invokevirtual 90, 3) := by decide +kernel
theorem dX_ladder_53 : decode bX_ladder 53 = .ok (.aload_n 0, 1) := by decide +kernel
theorem dX_ladder_54 : decode bX_ladder 54 = .ok (.getfield 44, 3) := by decide +kernel
theorem dX_ladder_57 : decode bX_ladder 57 = .ok (.invokevirtual 83, 3) := by decide +kernel
theorem dX_ladder_60 : decode bX_ladder 60 = .ok (.aload_n 0, 1) := by decide +kernel
theorem dX_ladder_61 : decode bX_ladder 61 = .ok (.getfield 51, 3) := by decide +kernel
theorem dX_ladder_64 : decode bX_ladder 64 = .ok (.invokevirtual 93, 3) := by decide +kernel
theorem dX_ladder_67 : decode bX_ladder 67 = .ok (.aload_n 0, 1) := by decide +kernel
theorem dX_ladder_68 : decode bX_ladder 68 = .ok (.getfield 58, 3) := by decide +kernel
theorem dX_ladder_71 : decode bX_ladder 71 = .ok (.invokevirtual 94, 3) := by decide +kernel
theorem dX_ladder_74 : decode bX_ladder 74 = .ok (.aload_n 0, 1) := by decide +kernel
theorem dX_ladder_75 : decode bX_ladder 75 = .ok (.getfield 65, 3) := by decide +kernel
theorem dX_ladder_78 : decode bX_ladder 78 = .ok (.invokevirtual 95, 3) := by decide +kernel
theorem dX_ladder_81 : decode bX_ladder 81 = .ok (.iload_n 1, 1) := by decide +kernel
theorem dX_ladder_82 : decode bX_ladder 82 = .ok (.ireturn, 1) := by decide +kernel
theorem dX_stretch_0 : decode bX_stretch 0 = .ok (.aload_n 0, 1) := by decide +kernel
theorem dX_stretch_1 : decode bX_stretch 1 = .ok (.getfield 19, 3) := by decide +kernel
theorem dX_stretch_4 : decode bX_stretch 4 = .ok (.iload_n 1, 1) := by decide +kernel
theorem dX_stretch_5 : decode bX_stretch 5 = .ok (.invokevirtual 96, 3) := by decide +kernel
theorem dX_stretch_8 : decode bX_stretch 8 = .ok (.ifCond .ne 6, 3) := by decide +kernel
theorem dX_stretch_11 : decode bX_stretch 11 = .ok (.ldc 100, 2) := by decide +kernel
theorem dX_stretch_13 : decode bX_stretch 13 = .ok (.ireturn, 1) := by decide +kernel
theorem dX_stretch_14 : decode bX_stretch 14 = .ok (.iload_n 2, 1) := by decide +kernel
theorem dX_stretch_15 : decode bX_stretch 15 = .ok (.tableswitch 76 0 3 #[29, 41, 53, 65], 29) := by decide +kernel
theorem dX_stretch_44 : decode bX_stretch 44 = .ok (.aload_n 0, 1) := by decide +kernel
theorem dX_stretch_45 : decode bX_stretch 45 = .ok (.getfield 19, 3) := by decide +kernel
theorem dX_stretch_48 : decode bX_stretch 48 = .ok (.getfield 101, 3) := by decide +kernel
theorem dX_stretch_51 : decode bX_stretch 51 = .ok (.iload_n 1, 1) := by decide +kernel
theorem dX_stretch_52 : decode bX_stretch 52 = .ok (.invokevirtual 104, 3) := by decide +kernel
theorem dX_stretch_55 : decode bX_stretch 55 = .ok (.ireturn, 1) := by decide +kernel
theorem dX_stretch_56 : decode bX_stretch 56 = .ok (.aload_n 0, 1) := by decide +kernel
theorem dX_stretch_57 : decode bX_stretch 57 = .ok (.getfield 19, 3) := by decide +kernel
theorem dX_stretch_60 : decode bX_stretch 60 = .ok (.getfield 108, 3) := by decide +kernel
theorem dX_stretch_63 : decode bX_stretch 63 = .ok (.iload_n 1, 1) := by decide +kernel
theorem dX_stretch_64 : decode bX_stretch 64 = .ok (.invokevirtual 104, 3) := by decide +kernel
theorem dX_stretch_67 : decode bX_stretch 67 = .ok (.ireturn, 1) := by decide +kernel
theorem dX_stretch_68 : decode bX_stretch 68 = .ok (.aload_n 0, 1) := by decide +kernel
theorem dX_stretch_69 : decode bX_stretch 69 = .ok (.getfield 19, 3) := by decide +kernel
theorem dX_stretch_72 : decode bX_stretch 72 = .ok (.getfield 111, 3) := by decide +kernel
theorem dX_stretch_75 : decode bX_stretch 75 = .ok (.iload_n 1, 1) := by decide +kernel
theorem dX_stretch_76 : decode bX_stretch 76 = .ok (.invokevirtual 104, 3) := by decide +kernel
theorem dX_stretch_79 : decode bX_stretch 79 = .ok (.ireturn, 1) := by decide +kernel
theorem dX_stretch_80 : decode bX_stretch 80 = .ok (.aload_n 0, 1) := by decide +kernel
theorem dX_stretch_81 : decode bX_stretch 81 = .ok (.getfield 19, 3) := by decide +kernel
theorem dX_stretch_84 : decode bX_stretch 84 = .ok (.iload_n 1, 1) := by decide +kernel
theorem dX_stretch_85 : decode bX_stretch 85 = .ok (.iconst 1, 1) := by decide +kernel
theorem dX_stretch_86 : decode bX_stretch 86 = .ok (.iadd, 1) := by decide +kernel
theorem dX_stretch_87 : decode bX_stretch 87 = .ok (.invokevirtual 114, 3) := by decide +kernel
theorem dX_stretch_90 : decode bX_stretch 90 = .ok (.ireturn, 1) := by decide +kernel
theorem dX_stretch_91 : decode bX_stretch 91 = .ok (.ldc 100, 2) := by decide +kernel
theorem dX_stretch_93 : decode bX_stretch 93 = .ok (.ireturn, 1) := by decide +kernel
theorem dX_traveller_0 : decode bX_traveller 0 = .ok (.aload_n 0, 1) := by decide +kernel
theorem dX_traveller_1 : decode bX_traveller 1 = .ok (.getfield 19, 3) := by decide +kernel
theorem dX_traveller_4 : decode bX_traveller 4 = .ok (.iload_n 1, 1) := by decide +kernel
theorem dX_traveller_5 : decode bX_traveller 5 = .ok (.invokevirtual 117, 3) := by decide +kernel
theorem dX_traveller_8 : decode bX_traveller 8 = .ok (.ifCond .ne 5, 3) := by decide +kernel
theorem dX_traveller_11 : decode bX_traveller 11 = .ok (.iconst (-1), 1) := by decide +kernel
theorem dX_traveller_12 : decode bX_traveller 12 = .ok (.ireturn, 1) := by decide +kernel
theorem dX_traveller_13 : decode bX_traveller 13 = .ok (.iload_n 2, 1) := by decide +kernel
theorem dX_traveller_14 : decode bX_traveller 14 = .ok (.tableswitch 62 0 2 #[26, 38, 50], 26) := by decide +kernel
theorem dX_traveller_40 : decode bX_traveller 40 = .ok (.aload_n 0, 1) := by decide +kernel
theorem dX_traveller_41 : decode bX_traveller 41 = .ok (.getfield 19, 3) := by decide +kernel
theorem dX_traveller_44 : decode bX_traveller 44 = .ok (.getfield 120, 3) := by decide +kernel
theorem dX_traveller_47 : decode bX_traveller 47 = .ok (.iload_n 1, 1) := by decide +kernel
theorem dX_traveller_48 : decode bX_traveller 48 = .ok (.invokevirtual 104, 3) := by decide +kernel
theorem dX_traveller_51 : decode bX_traveller 51 = .ok (.ireturn, 1) := by decide +kernel
theorem dX_traveller_52 : decode bX_traveller 52 = .ok (.aload_n 0, 1) := by decide +kernel
theorem dX_traveller_53 : decode bX_traveller 53 = .ok (.getfield 29, 3) := by decide +kernel
theorem dX_traveller_56 : decode bX_traveller 56 = .ok (.getfield 123, 3) := by decide +kernel
theorem dX_traveller_59 : decode bX_traveller 59 = .ok (.iload_n 1, 1) := by decide +kernel
theorem dX_traveller_60 : decode bX_traveller 60 = .ok (.invokevirtual 104, 3) := by decide +kernel
theorem dX_traveller_63 : decode bX_traveller 63 = .ok (.ireturn, 1) := by decide +kernel
theorem dX_traveller_64 : decode bX_traveller 64 = .ok (.aload_n 0, 1) := by decide +kernel
theorem dX_traveller_65 : decode bX_traveller 65 = .ok (.getfield 29, 3) := by decide +kernel
theorem dX_traveller_68 : decode bX_traveller 68 = .ok (.getfield 126, 3) := by decide +kernel
theorem dX_traveller_71 : decode bX_traveller 71 = .ok (.iload_n 1, 1) := by decide +kernel
theorem dX_traveller_72 : decode bX_traveller 72 = .ok (.invokevirtual 104, 3) := by decide +kernel
theorem dX_traveller_75 : decode bX_traveller 75 = .ok (.ireturn, 1) := by decide +kernel
theorem dX_traveller_76 : decode bX_traveller 76 = .ok (.iconst (-1), 1) := by decide +kernel
theorem dX_traveller_77 : decode bX_traveller 77 = .ok (.ireturn, 1) := by decide +kernel
theorem dX_wear_0 : decode bX_wear 0 = .ok (.iload_n 1, 1) := by decide +kernel
theorem dX_wear_1 : decode bX_wear 1 = .ok (.ifCond .lt 19, 3) := by decide +kernel
theorem dX_wear_4 : decode bX_wear 4 = .ok (.iload_n 1, 1) := by decide +kernel
theorem dX_wear_5 : decode bX_wear 5 = .ok (.iconst 1, 1) := by decide +kernel
theorem dX_wear_6 : decode bX_wear 6 = .ok (.if_icmp .gt 14, 3) := by decide +kernel
theorem dX_wear_9 : decode bX_wear 9 = .ok (.aload_n 0, 1) := by decide +kernel
theorem dX_wear_10 : decode bX_wear 10 = .ok (.getfield 19, 3) := by decide +kernel
theorem dX_wear_13 : decode bX_wear 13 = .ok (.iload_n 2, 1) := by decide +kernel
theorem dX_wear_14 : decode bX_wear 14 = .ok (.invokevirtual 129, 3) := by decide +kernel
theorem dX_wear_17 : decode bX_wear 17 = .ok (.ifCond .ne 5, 3) := by decide +kernel
theorem dX_wear_20 : decode bX_wear 20 = .ok (.iconst (-1), 1) := by decide +kernel
theorem dX_wear_21 : decode bX_wear 21 = .ok (.ireturn, 1) := by decide +kernel
theorem dX_wear_22 : decode bX_wear 22 = .ok (.iload_n 1, 1) := by decide +kernel
theorem dX_wear_23 : decode bX_wear 23 = .ok (.ifCond .ne 17, 3) := by decide +kernel
theorem dX_wear_26 : decode bX_wear 26 = .ok (.aload_n 0, 1) := by decide +kernel
theorem dX_wear_27 : decode bX_wear 27 = .ok (.getfield 29, 3) := by decide +kernel
theorem dX_wear_30 : decode bX_wear 30 = .ok (.getfield 132, 3) := by decide +kernel
theorem dX_wear_33 : decode bX_wear 33 = .ok (.iload_n 2, 1) := by decide +kernel
theorem dX_wear_34 : decode bX_wear 34 = .ok (.invokevirtual 104, 3) := by decide +kernel
theorem dX_wear_37 : decode bX_wear 37 = .ok (.goto 14, 3) := by decide +kernel
theorem dX_wear_40 : decode bX_wear 40 = .ok (.aload_n 0, 1) := by decide +kernel
theorem dX_wear_41 : decode bX_wear 41 = .ok (.getfield 29, 3) := by decide +kernel
theorem dX_wear_44 : decode bX_wear 44 = .ok (.getfield 135, 3) := by decide +kernel
theorem dX_wear_47 : decode bX_wear 47 = .ok (.iload_n 2, 1) := by decide +kernel
theorem dX_wear_48 : decode bX_wear 48 = .ok (.invokevirtual 104, 3) := by decide +kernel
theorem dX_wear_51 : decode bX_wear 51 = .ok (.ireturn, 1) := by decide +kernel
theorem dX_thing_0 : decode bX_thing 0 = .ok (.iload_n 1, 1) := by decide +kernel
theorem dX_thing_1 : decode bX_thing 1 = .ok (.ifCond .lt 9, 3) := by decide +kernel
theorem dX_thing_4 : decode bX_thing 4 = .ok (.iload_n 1, 1) := by decide +kernel
theorem dX_thing_5 : decode bX_thing 5 = .ok (.bipush 6, 2) := by decide +kernel
theorem dX_thing_7 : decode bX_thing 7 = .ok (.if_icmp .lt 5, 3) := by decide +kernel
theorem dX_thing_10 : decode bX_thing 10 = .ok (.iconst (-1), 1) := by decide +kernel
theorem dX_thing_11 : decode bX_thing 11 = .ok (.ireturn, 1) := by decide +kernel
theorem dX_thing_12 : decode bX_thing 12 = .ok (.iload_n 1, 1) := by decide +kernel
theorem dX_thing_13 : decode bX_thing 13 = .ok (.aload_n 0, 1) := by decide +kernel
theorem dX_thing_14 : decode bX_thing 14 = .ok (.getfield 29, 3) := by decide +kernel
theorem dX_thing_17 : decode bX_thing 17 = .ok (.getfield 138, 3) := by decide +kernel
theorem dX_thing_20 : decode bX_thing 20 = .ok (.invokevirtual 79, 3) := by decide +kernel
theorem dX_thing_23 : decode bX_thing 23 = .ok (.if_icmp .ge 17, 3) := by decide +kernel
theorem dX_thing_26 : decode bX_thing 26 = .ok (.aload_n 0, 1) := by decide +kernel
theorem dX_thing_27 : decode bX_thing 27 = .ok (.getfield 29, 3) := by decide +kernel
theorem dX_thing_30 : decode bX_thing 30 = .ok (.getfield 138, 3) := by decide +kernel
theorem dX_thing_33 : decode bX_thing 33 = .ok (.iload_n 1, 1) := by decide +kernel
theorem dX_thing_34 : decode bX_thing 34 = .ok (.invokevirtual 104, 3) := by decide +kernel
theorem dX_thing_37 : decode bX_thing 37 = .ok (.goto 5, 3) := by decide +kernel
theorem dX_thing_40 : decode bX_thing 40 = .ok (.bipush (-9), 2) := by decide +kernel
theorem dX_thing_42 : decode bX_thing 42 = .ok (.ireturn, 1) := by decide +kernel
theorem dX_now_0 : decode bX_now 0 = .ok (.iload_n 1, 1) := by decide +kernel
theorem dX_now_1 : decode bX_now 1 = .ok (.tableswitch 123 0 6 #[43, 51, 62, 70, 92, 100, 115], 43) := by decide +kernel
theorem dX_now_44 : decode bX_now 44 = .ok (.aload_n 0, 1) := by decide +kernel
theorem dX_now_45 : decode bX_now 45 = .ok (.getfield 19, 3) := by decide +kernel
theorem dX_now_48 : decode bX_now 48 = .ok (.invokevirtual 141, 3) := by decide +kernel
theorem dX_now_51 : decode bX_now 51 = .ok (.ireturn, 1) := by decide +kernel
theorem dX_now_52 : decode bX_now 52 = .ok (.aload_n 0, 1) := by decide +kernel
theorem dX_now_53 : decode bX_now 53 = .ok (.getfield 29, 3) := by decide +kernel
theorem dX_now_56 : decode bX_now 56 = .ok (.getfield 138, 3) := by decide +kernel
theorem dX_now_59 : decode bX_now 59 = .ok (.invokevirtual 79, 3) := by decide +kernel
theorem dX_now_62 : decode bX_now 62 = .ok (.ireturn, 1) := by decide +kernel
theorem dX_now_63 : decode bX_now 63 = .ok (.aload_n 0, 1) := by decide +kernel
theorem dX_now_64 : decode bX_now 64 = .ok (.getfield 29, 3) := by decide +kernel
theorem dX_now_67 : decode bX_now 67 = .ok (.invokevirtual 144, 3) := by decide +kernel
theorem dX_now_70 : decode bX_now 70 = .ok (.ireturn, 1) := by decide +kernel
theorem dX_now_71 : decode bX_now 71 = .ok (.aload_n 0, 1) := by decide +kernel
theorem dX_now_72 : decode bX_now 72 = .ok (.getfield 29, 3) := by decide +kernel
theorem dX_now_75 : decode bX_now 75 = .ok (.getfield 132, 3) := by decide +kernel
theorem dX_now_78 : decode bX_now 78 = .ok (.invokevirtual 147, 3) := by decide +kernel
theorem dX_now_81 : decode bX_now 81 = .ok (.aload_n 0, 1) := by decide +kernel
theorem dX_now_82 : decode bX_now 82 = .ok (.getfield 29, 3) := by decide +kernel
theorem dX_now_85 : decode bX_now 85 = .ok (.getfield 135, 3) := by decide +kernel
theorem dX_now_88 : decode bX_now 88 = .ok (.invokevirtual 147, 3) := by decide +kernel
theorem dX_now_91 : decode bX_now 91 = .ok (.iadd, 1) := by decide +kernel
theorem dX_now_92 : decode bX_now 92 = .ok (.ireturn, 1) := by decide +kernel
theorem dX_now_93 : decode bX_now 93 = .ok (.aload_n 0, 1) := by decide +kernel
theorem dX_now_94 : decode bX_now 94 = .ok (.getfield 19, 3) := by decide +kernel
theorem dX_now_97 : decode bX_now 97 = .ok (.invokevirtual 150, 3) := by decide +kernel
theorem dX_now_100 : decode bX_now 100 = .ok (.ireturn, 1) := by decide +kernel
theorem dX_now_101 : decode bX_now 101 = .ok (.aload_n 0, 1) := by decide +kernel
theorem dX_now_102 : decode bX_now 102 = .ok (.getfield 19, 3) := by decide +kernel
theorem dX_now_105 : decode bX_now 105 = .ok (.aload_n 0, 1) := by decide +kernel
theorem dX_now_106 : decode bX_now 106 = .ok (.getfield 19, 3) := by decide +kernel
theorem dX_now_109 : decode bX_now 109 = .ok (.getfield 153, 3) := by decide +kernel
theorem dX_now_112 : decode bX_now 112 = .ok (.invokevirtual 157, 3) := by decide +kernel
theorem dX_now_115 : decode bX_now 115 = .ok (.ireturn, 1) := by decide +kernel
theorem dX_now_116 : decode bX_now 116 = .ok (.aload_n 0, 1) := by decide +kernel
theorem dX_now_117 : decode bX_now 117 = .ok (.getfield 51, 3) := by decide +kernel
theorem dX_now_120 : decode bX_now 120 = .ok (.invokevirtual 160, 3) := by decide +kernel
theorem dX_now_123 : decode bX_now 123 = .ok (.ireturn, 1) := by decide +kernel
theorem dX_now_124 : decode bX_now 124 = .ok (.iconst (-1), 1) := by decide +kernel
theorem dX_now_125 : decode bX_now 125 = .ok (.ireturn, 1) := by decide +kernel
theorem dX_divideUp_0 : decode bX_divideUp 0 = .ok (.iload_n 1, 1) := by decide +kernel
theorem dX_divideUp_1 : decode bX_divideUp 1 = .ok (.iconst 1, 1) := by decide +kernel
theorem dX_divideUp_2 : decode bX_divideUp 2 = .ok (.if_icmp .ge 7, 3) := by decide +kernel
theorem dX_divideUp_5 : decode bX_divideUp 5 = .ok (.iconst 0, 1) := by decide +kernel
theorem dX_divideUp_6 : decode bX_divideUp 6 = .ok (.goto 10, 3) := by decide +kernel
theorem dX_divideUp_9 : decode bX_divideUp 9 = .ok (.iload_n 0, 1) := by decide +kernel
theorem dX_divideUp_10 : decode bX_divideUp 10 = .ok (.iload_n 1, 1) := by decide +kernel
theorem dX_divideUp_11 : decode bX_divideUp 11 = .ok (.iadd, 1) := by decide +kernel
theorem dX_divideUp_12 : decode bX_divideUp 12 = .ok (.iconst 1, 1) := by decide +kernel
theorem dX_divideUp_13 : decode bX_divideUp 13 = .ok (.isub, 1) := by decide +kernel
theorem dX_divideUp_14 : decode bX_divideUp 14 = .ok (.iload_n 1, 1) := by decide +kernel
theorem dX_divideUp_15 : decode bX_divideUp 15 = .ok (.idiv, 1) := by decide +kernel
theorem dX_divideUp_16 : decode bX_divideUp 16 = .ok (.ireturn, 1) := by decide +kernel
theorem dX_goes_0 : decode bX_goes 0 = .ok (.aload_n 0, 1) := by decide +kernel
theorem dX_goes_1 : decode bX_goes 1 = .ok (.getfield 19, 3) := by decide +kernel
theorem dX_goes_4 : decode bX_goes 4 = .ok (.iload_n 1, 1) := by decide +kernel
theorem dX_goes_5 : decode bX_goes 5 = .ok (.invokevirtual 117, 3) := by decide +kernel
theorem dX_goes_8 : decode bX_goes 8 = .ok (.ifCond .eq 18, 3) := by decide +kernel
theorem dX_goes_11 : decode bX_goes 11 = .ok (.iload_n 2, 1) := by decide +kernel
theorem dX_goes_12 : decode bX_goes 12 = .ok (.ifCond .lt 14, 3) := by decide +kernel
theorem dX_goes_15 : decode bX_goes 15 = .ok (.iload_n 2, 1) := by decide +kernel
theorem dX_goes_16 : decode bX_goes 16 = .ok (.aload_n 0, 1) := by decide +kernel
theorem dX_goes_17 : decode bX_goes 17 = .ok (.getfield 19, 3) := by decide +kernel
theorem dX_goes_20 : decode bX_goes 20 = .ok (.invokevirtual 141, 3) := by decide +kernel
theorem dX_goes_23 : decode bX_goes 23 = .ok (.if_icmp .le 5, 3) := by decide +kernel
theorem dX_goes_26 : decode bX_goes 26 = .ok (.iconst (-1), 1) := by decide +kernel
theorem dX_goes_27 : decode bX_goes 27 = .ok (.ireturn, 1) := by decide +kernel
theorem dX_goes_28 : decode bX_goes 28 = .ok (.aload_n 0, 1) := by decide +kernel
theorem dX_goes_29 : decode bX_goes 29 = .ok (.getfield 29, 3) := by decide +kernel
theorem dX_goes_32 : decode bX_goes 32 = .ok (.getfield 123, 3) := by decide +kernel
theorem dX_goes_35 : decode bX_goes 35 = .ok (.iload_n 1, 1) := by decide +kernel
theorem dX_goes_36 : decode bX_goes 36 = .ok (.invokevirtual 104, 3) := by decide +kernel
theorem dX_goes_39 : decode bX_goes 39 = .ok (.istore_n 3, 1) := by decide +kernel
theorem dX_goes_40 : decode bX_goes 40 = .ok (.aload_n 0, 1) := by decide +kernel
theorem dX_goes_41 : decode bX_goes 41 = .ok (.getfield 29, 3) := by decide +kernel
theorem dX_goes_44 : decode bX_goes 44 = .ok (.iload_n 1, 1) := by decide +kernel
theorem dX_goes_45 : decode bX_goes 45 = .ok (.invokevirtual 163, 3) := by decide +kernel
theorem dX_goes_48 : decode bX_goes 48 = .ok (.ifCond .ne 23, 3) := by decide +kernel
theorem dX_goes_51 : decode bX_goes 51 = .ok (.iload_n 2, 1) := by decide +kernel
theorem dX_goes_52 : decode bX_goes 52 = .ok (.iload_n 3, 1) := by decide +kernel
theorem dX_goes_53 : decode bX_goes 53 = .ok (.if_icmp .eq 18, 3) := by decide +kernel
theorem dX_goes_56 : decode bX_goes 56 = .ok (.iload_n 2, 1) := by decide +kernel
theorem dX_goes_57 : decode bX_goes 57 = .ok (.aload_n 0, 1) := by decide +kernel
theorem dX_goes_58 : decode bX_goes 58 = .ok (.getfield 19, 3) := by decide +kernel
theorem dX_goes_61 : decode bX_goes 61 = .ok (.getfield 120, 3) := by decide +kernel
theorem dX_goes_64 : decode bX_goes 64 = .ok (.iload_n 1, 1) := by decide +kernel
theorem dX_goes_65 : decode bX_goes 65 = .ok (.invokevirtual 104, 3) := by decide +kernel
theorem dX_goes_68 : decode bX_goes 68 = .ok (.if_icmp .le 6, 3) := by decide +kernel
theorem dX_goes_71 : decode bX_goes 71 = .ok (.bipush (-2), 2) := by decide +kernel
theorem dX_goes_73 : decode bX_goes 73 = .ok (.ireturn, 1) := by decide +kernel
theorem dX_goes_74 : decode bX_goes 74 = .ok (.aload_n 0, 1) := by decide +kernel
theorem dX_goes_75 : decode bX_goes 75 = .ok (.getfield 29, 3) := by decide +kernel
theorem dX_goes_78 : decode bX_goes 78 = .ok (.iload_n 3, 1) := by decide +kernel
theorem dX_goes_79 : decode bX_goes 79 = .ok (.iload_n 2, 1) := by decide +kernel
theorem dX_goes_80 : decode bX_goes 80 = .ok (.iconst 1, 1) := by decide +kernel
theorem dX_goes_81 : decode bX_goes 81 = .ok (.invokevirtual 166, 3) := by decide +kernel
theorem dX_goes_84 : decode bX_goes 84 = .ok (.aload_n 0, 1) := by decide +kernel
theorem dX_goes_85 : decode bX_goes 85 = .ok (.getfield 29, 3) := by decide +kernel
theorem dX_goes_88 : decode bX_goes 88 = .ok (.getfield 123, 3) := by decide +kernel
theorem dX_goes_91 : decode bX_goes 91 = .ok (.iload_n 1, 1) := by decide +kernel
theorem dX_goes_92 : decode bX_goes 92 = .ok (.iload_n 2, 1) := by decide +kernel
theorem dX_goes_93 : decode bX_goes 93 = .ok (.invokevirtual 170, 3) := by decide +kernel
theorem dX_goes_96 : decode bX_goes 96 = .ok (.aload_n 0, 1) := by decide +kernel
theorem dX_goes_97 : decode bX_goes 97 = .ok (.getfield 51, 3) := by decide +kernel
theorem dX_goes_100 : decode bX_goes 100 = .ok (.iconst 0, 1) := by decide +kernel
theorem dX_goes_101 : decode bX_goes 101 = .ok (.iload_n 1, 1) := by decide +kernel
theorem dX_goes_102 : decode bX_goes 102 = .ok (.iload_n 3, 1) := by decide +kernel
theorem dX_goes_103 : decode bX_goes 103 = .ok (.invokevirtual 174, 3) := by decide +kernel
theorem dX_goes_106 : decode bX_goes 106 = .ok (.iload_n 2, 1) := by decide +kernel
theorem dX_goes_107 : decode bX_goes 107 = .ok (.iload_n 3, 1) := by decide +kernel
theorem dX_goes_108 : decode bX_goes 108 = .ok (.isub, 1) := by decide +kernel
theorem dX_goes_109 : decode bX_goes 109 = .ok (.invokestatic 177, 3) := by decide +kernel
theorem dX_goes_112 : decode bX_goes 112 = .ok (.ireturn, 1) := by decide +kernel
theorem dX_stays_0 : decode bX_stays 0 = .ok (.aload_n 0, 1) := by decide +kernel
theorem dX_stays_1 : decode bX_stays 1 = .ok (.getfield 19, 3) := by decide +kernel
theorem dX_stays_4 : decode bX_stays 4 = .ok (.iload_n 1, 1) := by decide +kernel
theorem dX_stays_5 : decode bX_stays 5 = .ok (.invokevirtual 117, 3) := by decide +kernel
theorem dX_stays_8 : decode bX_stays 8 = .ok (.ifCond .ne 5, 3) := by decide +kernel
theorem dX_stays_11 : decode bX_stays 11 = .ok (.iconst (-1), 1) := by decide +kernel
theorem dX_stays_12 : decode bX_stays 12 = .ok (.ireturn, 1) := by decide +kernel
theorem dX_stays_13 : decode bX_stays 13 = .ok (.aload_n 0, 1) := by decide +kernel
theorem dX_stays_14 : decode bX_stays 14 = .ok (.getfield 29, 3) := by decide +kernel
theorem dX_stays_17 : decode bX_stays 17 = .ok (.iload_n 1, 1) := by decide +kernel
theorem dX_stays_18 : decode bX_stays 18 = .ok (.invokevirtual 163, 3) := by decide +kernel
theorem dX_stays_21 : decode bX_stays 21 = .ok (.ifCond .eq 6, 3) := by decide +kernel
theorem dX_stays_24 : decode bX_stays 24 = .ok (.bipush (-2), 2) := by decide +kernel
theorem dX_stays_26 : decode bX_stays 26 = .ok (.ireturn, 1) := by decide +kernel
theorem dX_stays_27 : decode bX_stays 27 = .ok (.aload_n 0, 1) := by decide +kernel
theorem dX_stays_28 : decode bX_stays 28 = .ok (.getfield 29, 3) := by decide +kernel
theorem dX_stays_31 : decode bX_stays 31 = .ok (.getfield 126, 3) := by decide +kernel
theorem dX_stays_34 : decode bX_stays 34 = .ok (.iload_n 1, 1) := by decide +kernel
theorem dX_stays_35 : decode bX_stays 35 = .ok (.iconst 1, 1) := by decide +kernel
theorem dX_stays_36 : decode bX_stays 36 = .ok (.invokevirtual 170, 3) := by decide +kernel
theorem dX_stays_39 : decode bX_stays 39 = .ok (.aload_n 0, 1) := by decide +kernel
theorem dX_stays_40 : decode bX_stays 40 = .ok (.getfield 51, 3) := by decide +kernel
theorem dX_stays_43 : decode bX_stays 43 = .ok (.iconst 1, 1) := by decide +kernel
theorem dX_stays_44 : decode bX_stays 44 = .ok (.iload_n 1, 1) := by decide +kernel
theorem dX_stays_45 : decode bX_stays 45 = .ok (.iconst 0, 1) := by decide +kernel
theorem dX_stays_46 : decode bX_stays 46 = .ok (.invokevirtual 174, 3) := by decide +kernel
theorem dX_stays_49 : decode bX_stays 49 = .ok (.aload_n 0, 1) := by decide +kernel
theorem dX_stays_50 : decode bX_stays 50 = .ok (.getfield 29, 3) := by decide +kernel
theorem dX_stays_53 : decode bX_stays 53 = .ok (.invokevirtual 144, 3) := by decide +kernel
theorem dX_stays_56 : decode bX_stays 56 = .ok (.ireturn, 1) := by decide +kernel
theorem dX_loses_0 : decode bX_loses 0 = .ok (.aload_n 0, 1) := by decide +kernel
theorem dX_loses_1 : decode bX_loses 1 = .ok (.getfield 19, 3) := by decide +kernel
theorem dX_loses_4 : decode bX_loses 4 = .ok (.iload_n 1, 1) := by decide +kernel
theorem dX_loses_5 : decode bX_loses 5 = .ok (.invokevirtual 117, 3) := by decide +kernel
theorem dX_loses_8 : decode bX_loses 8 = .ok (.ifCond .ne 5, 3) := by decide +kernel
theorem dX_loses_11 : decode bX_loses 11 = .ok (.iconst (-1), 1) := by decide +kernel
theorem dX_loses_12 : decode bX_loses 12 = .ok (.ireturn, 1) := by decide +kernel
theorem dX_loses_13 : decode bX_loses 13 = .ok (.aload_n 0, 1) := by decide +kernel
theorem dX_loses_14 : decode bX_loses 14 = .ok (.getfield 29, 3) := by decide +kernel
theorem dX_loses_17 : decode bX_loses 17 = .ok (.getfield 138, 3) := by decide +kernel
theorem dX_loses_20 : decode bX_loses 20 = .ok (.invokevirtual 72, 3) := by decide +kernel
theorem dX_loses_23 : decode bX_loses 23 = .ok (.ifCond .eq 6, 3) := by decide +kernel
theorem dX_loses_26 : decode bX_loses 26 = .ok (.bipush (-3), 2) := by decide +kernel
theorem dX_loses_28 : decode bX_loses 28 = .ok (.ireturn, 1) := by decide +kernel
theorem dX_loses_29 : decode bX_loses 29 = .ok (.aload_n 0, 1) := by decide +kernel
theorem dX_loses_30 : decode bX_loses 30 = .ok (.getfield 29, 3) := by decide +kernel
theorem dX_loses_33 : decode bX_loses 33 = .ok (.getfield 138, 3) := by decide +kernel
theorem dX_loses_36 : decode bX_loses 36 = .ok (.aload_n 0, 1) := by decide +kernel
theorem dX_loses_37 : decode bX_loses 37 = .ok (.getfield 29, 3) := by decide +kernel
theorem dX_loses_40 : decode bX_loses 40 = .ok (.getfield 123, 3) := by decide +kernel
theorem dX_loses_43 : decode bX_loses 43 = .ok (.iload_n 1, 1) := by decide +kernel
theorem dX_loses_44 : decode bX_loses 44 = .ok (.invokevirtual 104, 3) := by decide +kernel
theorem dX_loses_47 : decode bX_loses 47 = .ok (.invokevirtual 76, 3) := by decide +kernel
theorem dX_loses_50 : decode bX_loses 50 = .ok (.aload_n 0, 1) := by decide +kernel
theorem dX_loses_51 : decode bX_loses 51 = .ok (.getfield 51, 3) := by decide +kernel
theorem dX_loses_54 : decode bX_loses 54 = .ok (.iconst 2, 1) := by decide +kernel
theorem dX_loses_55 : decode bX_loses 55 = .ok (.iload_n 1, 1) := by decide +kernel
theorem dX_loses_56 : decode bX_loses 56 = .ok (.iconst 0, 1) := by decide +kernel
theorem dX_loses_57 : decode bX_loses 57 = .ok (.invokevirtual 174, 3) := by decide +kernel
theorem dX_loses_60 : decode bX_loses 60 = .ok (.aload_n 0, 1) := by decide +kernel
theorem dX_loses_61 : decode bX_loses 61 = .ok (.getfield 29, 3) := by decide +kernel
theorem dX_loses_64 : decode bX_loses 64 = .ok (.getfield 138, 3) := by decide +kernel
theorem dX_loses_67 : decode bX_loses 67 = .ok (.invokevirtual 79, 3) := by decide +kernel
theorem dX_loses_70 : decode bX_loses 70 = .ok (.ireturn, 1) := by decide +kernel
theorem dX_picks_0 : decode bX_picks 0 = .ok (.aload_n 0, 1) := by decide +kernel
theorem dX_picks_1 : decode bX_picks 1 = .ok (.getfield 19, 3) := by decide +kernel
theorem dX_picks_4 : decode bX_picks 4 = .ok (.iload_n 1, 1) := by decide +kernel
theorem dX_picks_5 : decode bX_picks 5 = .ok (.invokevirtual 117, 3) := by decide +kernel
theorem dX_picks_8 : decode bX_picks 8 = .ok (.ifCond .ne 5, 3) := by decide +kernel
theorem dX_picks_11 : decode bX_picks 11 = .ok (.iconst (-1), 1) := by decide +kernel
theorem dX_picks_12 : decode bX_picks 12 = .ok (.ireturn, 1) := by decide +kernel
theorem dX_picks_13 : decode bX_picks 13 = .ok (.aload_n 0, 1) := by decide +kernel
theorem dX_picks_14 : decode bX_picks 14 = .ok (.getfield 29, 3) := by decide +kernel
theorem dX_picks_17 : decode bX_picks 17 = .ok (.aload_n 0, 1) := by decide +kernel
theorem dX_picks_18 : decode bX_picks 18 = .ok (.getfield 29, 3) := by decide +kernel
theorem dX_picks_21 : decode bX_picks 21 = .ok (.getfield 123, 3) := by decide +kernel
theorem dX_picks_24 : decode bX_picks 24 = .ok (.iload_n 1, 1) := by decide +kernel
theorem dX_picks_25 : decode bX_picks 25 = .ok (.invokevirtual 104, 3) := by decide +kernel
theorem dX_picks_28 : decode bX_picks 28 = .ok (.invokevirtual 182, 3) := by decide +kernel
theorem dX_picks_31 : decode bX_picks 31 = .ok (.istore_n 2, 1) := by decide +kernel
theorem dX_picks_32 : decode bX_picks 32 = .ok (.aload_n 0, 1) := by decide +kernel
theorem dX_picks_33 : decode bX_picks 33 = .ok (.getfield 29, 3) := by decide +kernel
theorem dX_picks_36 : decode bX_picks 36 = .ok (.iload_n 1, 1) := by decide +kernel
theorem dX_picks_37 : decode bX_picks 37 = .ok (.invokevirtual 163, 3) := by decide +kernel
theorem dX_picks_40 : decode bX_picks 40 = .ok (.ifCond .ne 7, 3) := by decide +kernel
theorem dX_picks_43 : decode bX_picks 43 = .ok (.iload_n 2, 1) := by decide +kernel
theorem dX_picks_44 : decode bX_picks 44 = .ok (.ifCond .ge 6, 3) := by decide +kernel
theorem dX_picks_47 : decode bX_picks 47 = .ok (.bipush (-2), 2) := by decide +kernel
theorem dX_picks_49 : decode bX_picks 49 = .ok (.ireturn, 1) := by decide +kernel
theorem dX_picks_50 : decode bX_picks 50 = .ok (.aload_n 0, 1) := by decide +kernel
theorem dX_picks_51 : decode bX_picks 51 = .ok (.getfield 29, 3) := by decide +kernel
theorem dX_picks_54 : decode bX_picks 54 = .ok (.getfield 138, 3) := by decide +kernel
theorem dX_picks_57 : decode bX_picks 57 = .ok (.iload_n 2, 1) := by decide +kernel
theorem dX_picks_58 : decode bX_picks 58 = .ok (.invokevirtual 185, 3) := by decide +kernel
theorem dX_picks_61 : decode bX_picks 61 = .ok (.aload_n 0, 1) := by decide +kernel
theorem dX_picks_62 : decode bX_picks 62 = .ok (.getfield 51, 3) := by decide +kernel
theorem dX_picks_65 : decode bX_picks 65 = .ok (.iconst 3, 1) := by decide +kernel
theorem dX_picks_66 : decode bX_picks 66 = .ok (.iload_n 1, 1) := by decide +kernel
theorem dX_picks_67 : decode bX_picks 67 = .ok (.iload_n 2, 1) := by decide +kernel
theorem dX_picks_68 : decode bX_picks 68 = .ok (.invokevirtual 174, 3) := by decide +kernel
theorem dX_picks_71 : decode bX_picks 71 = .ok (.aload_n 0, 1) := by decide +kernel
theorem dX_picks_72 : decode bX_picks 72 = .ok (.getfield 29, 3) := by decide +kernel
theorem dX_picks_75 : decode bX_picks 75 = .ok (.getfield 138, 3) := by decide +kernel
theorem dX_picks_78 : decode bX_picks 78 = .ok (.invokevirtual 79, 3) := by decide +kernel
theorem dX_picks_81 : decode bX_picks 81 = .ok (.ireturn, 1) := by decide +kernel
theorem dX_undo_0 : decode bX_undo 0 = .ok (.aload_n 0, 1) := by decide +kernel
theorem dX_undo_1 : decode bX_undo 1 = .ok (.getfield 51, 3) := by decide +kernel
theorem dX_undo_4 : decode bX_undo 4 = .ok (.invokevirtual 160, 3) := by decide +kernel
theorem dX_undo_7 : decode bX_undo 7 = .ok (.ifCond .ne 6, 3) := by decide +kernel
theorem dX_undo_10 : decode bX_undo 10 = .ok (.bipush (-2), 2) := by decide +kernel
theorem dX_undo_12 : decode bX_undo 12 = .ok (.ireturn, 1) := by decide +kernel
theorem dX_undo_13 : decode bX_undo 13 = .ok (.aload_n 0, 1) := by decide +kernel
theorem dX_undo_14 : decode bX_undo 14 = .ok (.getfield 51, 3) := by decide +kernel
theorem dX_undo_17 : decode bX_undo 17 = .ok (.aload_n 0, 1) := by decide +kernel
theorem dX_undo_18 : decode bX_undo 18 = .ok (.getfield 29, 3) := by decide +kernel
theorem dX_undo_21 : decode bX_undo 21 = .ok (.invokevirtual 188, 3) := by decide +kernel
theorem dX_undo_24 : decode bX_undo 24 = .ok (.aload_n 0, 1) := by decide +kernel
theorem dX_undo_25 : decode bX_undo 25 = .ok (.getfield 51, 3) := by decide +kernel
theorem dX_undo_28 : decode bX_undo 28 = .ok (.invokevirtual 160, 3) := by decide +kernel
theorem dX_undo_31 : decode bX_undo 31 = .ok (.ireturn, 1) := by decide +kernel
theorem dX_altitude_0 : decode bX_altitude 0 = .ok (.iload_n 1, 1) := by decide +kernel
theorem dX_altitude_1 : decode bX_altitude 1 = .ok (.ifCond .lt 18, 3) := by decide +kernel
theorem dX_altitude_4 : decode bX_altitude 4 = .ok (.iload_n 1, 1) := by decide +kernel
theorem dX_altitude_5 : decode bX_altitude 5 = .ok (.sipush 1000, 3) := by decide +kernel
theorem dX_altitude_8 : decode bX_altitude 8 = .ok (.aload_n 0, 1) := by decide +kernel
theorem dX_altitude_9 : decode bX_altitude 9 = .ok (.getfield 19, 3) := by decide +kernel
theorem dX_altitude_12 : decode bX_altitude 12 = .ok (.invokevirtual 141, 3) := by decide +kernel
theorem dX_altitude_15 : decode bX_altitude 15 = .ok (.imul, 1) := by decide +kernel
theorem dX_altitude_16 : decode bX_altitude 16 = .ok (.if_icmp .le 5, 3) := by decide +kernel
theorem dX_altitude_19 : decode bX_altitude 19 = .ok (.iconst (-1), 1) := by decide +kernel
theorem dX_altitude_20 : decode bX_altitude 20 = .ok (.ireturn, 1) := by decide +kernel
theorem dX_altitude_21 : decode bX_altitude 21 = .ok (.aload_n 0, 1) := by decide +kernel
theorem dX_altitude_22 : decode bX_altitude 22 = .ok (.getfield 19, 3) := by decide +kernel
theorem dX_altitude_25 : decode bX_altitude 25 = .ok (.iload_n 1, 1) := by decide +kernel
theorem dX_altitude_26 : decode bX_altitude 26 = .ok (.invokevirtual 192, 3) := by decide +kernel
theorem dX_altitude_29 : decode bX_altitude 29 = .ok (.ireturn, 1) := by decide +kernel
theorem dX_step_0 : decode bX_step 0 = .ok (.iload_n 1, 1) := by decide +kernel
theorem dX_step_1 : decode bX_step 1 = .ok (.ifCond .lt 9, 3) := by decide +kernel
theorem dX_step_4 : decode bX_step 4 = .ok (.iload_n 1, 1) := by decide +kernel
theorem dX_step_5 : decode bX_step 5 = .ok (.ldc 195, 2) := by decide +kernel
theorem dX_step_7 : decode bX_step 7 = .ok (.if_icmp .le 5, 3) := by decide +kernel
theorem dX_step_10 : decode bX_step 10 = .ok (.iconst (-1), 1) := by decide +kernel
theorem dX_step_11 : decode bX_step 11 = .ok (.ireturn, 1) := by decide +kernel
theorem dX_step_12 : decode bX_step 12 = .ok (.aload_n 0, 1) := by decide +kernel
theorem dX_step_13 : decode bX_step 13 = .ok (.getfield 19, 3) := by decide +kernel
theorem dX_step_16 : decode bX_step 16 = .ok (.iload_n 1, 1) := by decide +kernel
theorem dX_step_17 : decode bX_step 17 = .ok (.invokevirtual 196, 3) := by decide +kernel
theorem dX_step_20 : decode bX_step 20 = .ok (.ireturn, 1) := by decide +kernel
theorem dX_hands_0 : decode bX_hands 0 = .ok (.iload_n 1, 1) := by decide +kernel
theorem dX_hands_1 : decode bX_hands 1 = .ok (.iconst 1, 1) := by decide +kernel
theorem dX_hands_2 : decode bX_hands 2 = .ok (.if_icmp .lt 9, 3) := by decide +kernel
theorem dX_hands_5 : decode bX_hands 5 = .ok (.iload_n 1, 1) := by decide +kernel
theorem dX_hands_6 : decode bX_hands 6 = .ok (.bipush 99, 2) := by decide +kernel
theorem dX_hands_8 : decode bX_hands 8 = .ok (.if_icmp .le 5, 3) := by decide +kernel
theorem dX_hands_11 : decode bX_hands 11 = .ok (.iconst (-1), 1) := by decide +kernel
theorem dX_hands_12 : decode bX_hands 12 = .ok (.ireturn, 1) := by decide +kernel
theorem dX_hands_13 : decode bX_hands 13 = .ok (.iconst 2, 1) := by decide +kernel
theorem dX_hands_14 : decode bX_hands 14 = .ok (.istore_n 2, 1) := by decide +kernel
theorem dX_hands_15 : decode bX_hands 15 = .ok (.iload_n 2, 1) := by decide +kernel
theorem dX_hands_16 : decode bX_hands 16 = .ok (.bipush 9, 2) := by decide +kernel
theorem dX_hands_18 : decode bX_hands 18 = .ok (.if_icmp .gt 23, 3) := by decide +kernel
theorem dX_hands_21 : decode bX_hands 21 = .ok (.aload_n 0, 1) := by decide +kernel
theorem dX_hands_22 : decode bX_hands 22 = .ok (.getfield 19, 3) := by decide +kernel
theorem dX_hands_25 : decode bX_hands 25 = .ok (.iload_n 2, 1) := by decide +kernel
theorem dX_hands_26 : decode bX_hands 26 = .ok (.invokevirtual 157, 3) := by decide +kernel
theorem dX_hands_29 : decode bX_hands 29 = .ok (.iload_n 1, 1) := by decide +kernel
theorem dX_hands_30 : decode bX_hands 30 = .ok (.if_icmp .gt 5, 3) := by decide +kernel
theorem dX_hands_33 : decode bX_hands 33 = .ok (.iload_n 2, 1) := by decide +kernel
theorem dX_hands_34 : decode bX_hands 34 = .ok (.ireturn, 1) := by decide +kernel
theorem dX_hands_35 : decode bX_hands 35 = .ok (.iinc 2 1, 3) := by decide +kernel
theorem dX_hands_38 : decode bX_hands 38 = .ok (.goto (-23), 3) := by decide +kernel
theorem dX_hands_41 : decode bX_hands 41 = .ok (.bipush (-9), 2) := by decide +kernel
theorem dX_hands_43 : decode bX_hands 43 = .ok (.ireturn, 1) := by decide +kernel
theorem dX_sees_0 : decode bX_sees 0 = .ok (.aload_n 0, 1) := by decide +kernel
theorem dX_sees_1 : decode bX_sees 1 = .ok (.getfield 19, 3) := by decide +kernel
theorem dX_sees_4 : decode bX_sees 4 = .ok (.iload_n 1, 1) := by decide +kernel
theorem dX_sees_5 : decode bX_sees 5 = .ok (.invokevirtual 129, 3) := by decide +kernel
theorem dX_sees_8 : decode bX_sees 8 = .ok (.ifCond .eq 13, 3) := by decide +kernel
theorem dX_sees_11 : decode bX_sees 11 = .ok (.iload_n 2, 1) := by decide +kernel
theorem dX_sees_12 : decode bX_sees 12 = .ok (.ifCond .lt 9, 3) := by decide +kernel
theorem dX_sees_15 : decode bX_sees 15 = .ok (.iload_n 2, 1) := by decide +kernel
theorem dX_sees_16 : decode bX_sees 16 = .ok (.bipush 40, 2) := by decide +kernel
theorem dX_sees_18 : decode bX_sees 18 = .ok (.if_icmp .le 5, 3) := by decide +kernel
theorem dX_sees_21 : decode bX_sees 21 = .ok (.iconst (-1), 1) := by decide +kernel
theorem dX_sees_22 : decode bX_sees 22 = .ok (.ireturn, 1) := by decide +kernel
theorem dX_sees_23 : decode bX_sees 23 = .ok (.aload_n 0, 1) := by decide +kernel
theorem dX_sees_24 : decode bX_sees 24 = .ok (.getfield 58, 3) := by decide +kernel
theorem dX_sees_27 : decode bX_sees 27 = .ok (.getfield 199, 3) := by decide +kernel
theorem dX_sees_30 : decode bX_sees 30 = .ok (.invokevirtual 72, 3) := by decide +kernel
theorem dX_sees_33 : decode bX_sees 33 = .ok (.ifCond .eq 6, 3) := by decide +kernel
theorem dX_sees_36 : decode bX_sees 36 = .ok (.bipush (-3), 2) := by decide +kernel
theorem dX_sees_38 : decode bX_sees 38 = .ok (.ireturn, 1) := by decide +kernel
theorem dX_sees_39 : decode bX_sees 39 = .ok (.aload_n 0, 1) := by decide +kernel
theorem dX_sees_40 : decode bX_sees 40 = .ok (.getfield 58, 3) := by decide +kernel
theorem dX_sees_43 : decode bX_sees 43 = .ok (.aload_n 0, 1) := by decide +kernel
theorem dX_sees_44 : decode bX_sees 44 = .ok (.getfield 19, 3) := by decide +kernel
theorem dX_sees_47 : decode bX_sees 47 = .ok (.iload_n 1, 1) := by decide +kernel
theorem dX_sees_48 : decode bX_sees 48 = .ok (.invokevirtual 202, 3) := by decide +kernel
theorem dX_sees_51 : decode bX_sees 51 = .ok (.iload_n 2, 1) := by decide +kernel
theorem dX_sees_52 : decode bX_sees 52 = .ok (.invokevirtual 205, 3) := by decide +kernel
theorem dX_sees_55 : decode bX_sees 55 = .ok (.aload_n 0, 1) := by decide +kernel
theorem dX_sees_56 : decode bX_sees 56 = .ok (.getfield 58, 3) := by decide +kernel
theorem dX_sees_59 : decode bX_sees 59 = .ok (.getfield 199, 3) := by decide +kernel
theorem dX_sees_62 : decode bX_sees 62 = .ok (.invokevirtual 79, 3) := by decide +kernel
theorem dX_sees_65 : decode bX_sees 65 = .ok (.ireturn, 1) := by decide +kernel
theorem dX_can_0 : decode bX_can 0 = .ok (.iload_n 1, 1) := by decide +kernel
theorem dX_can_1 : decode bX_can 1 = .ok (.bipush (-2), 2) := by decide +kernel
theorem dX_can_3 : decode bX_can 3 = .ok (.if_icmp .lt 17, 3) := by decide +kernel
theorem dX_can_6 : decode bX_can 6 = .ok (.iload_n 1, 1) := by decide +kernel
theorem dX_can_7 : decode bX_can 7 = .ok (.aload_n 0, 1) := by decide +kernel
theorem dX_can_8 : decode bX_can 8 = .ok (.getfield 19, 3) := by decide +kernel
theorem dX_can_11 : decode bX_can 11 = .ok (.getfield 120, 3) := by decide +kernel
theorem dX_can_14 : decode bX_can 14 = .ok (.invokevirtual 79, 3) := by decide +kernel
theorem dX_can_17 : decode bX_can 17 = .ok (.if_icmp .lt 5, 3) := by decide +kernel
theorem dX_can_20 : decode bX_can 20 = .ok (.iconst (-1), 1) := by decide +kernel
theorem dX_can_21 : decode bX_can 21 = .ok (.ireturn, 1) := by decide +kernel
theorem dX_can_22 : decode bX_can 22 = .ok (.aload_n 0, 1) := by decide +kernel
theorem dX_can_23 : decode bX_can 23 = .ok (.getfield 19, 3) := by decide +kernel
theorem dX_can_26 : decode bX_can 26 = .ok (.getfield 120, 3) := by decide +kernel
theorem dX_can_29 : decode bX_can 29 = .ok (.invokevirtual 79, 3) := by decide +kernel
theorem dX_can_32 : decode bX_can 32 = .ok (.istore_n 2, 1) := by decide +kernel
theorem dX_can_33 : decode bX_can 33 = .ok (.iload_n 1, 1) := by decide +kernel
theorem dX_can_34 : decode bX_can 34 = .ok (.iconst (-1), 1) := by decide +kernel
theorem dX_can_35 : decode bX_can 35 = .ok (.if_icmp .ne 14, 3) := by decide +kernel
theorem dX_can_38 : decode bX_can 38 = .ok (.aload_n 0, 1) := by decide +kernel
theorem dX_can_39 : decode bX_can 39 = .ok (.getfield 58, 3) := by decide +kernel
theorem dX_can_42 : decode bX_can 42 = .ok (.iload_n 2, 1) := by decide +kernel
theorem dX_can_43 : decode bX_can 43 = .ok (.iconst (-1), 1) := by decide +kernel
theorem dX_can_44 : decode bX_can 44 = .ok (.iconst 0, 1) := by decide +kernel
theorem dX_can_45 : decode bX_can 45 = .ok (.invokevirtual 207, 3) := by decide +kernel
theorem dX_can_48 : decode bX_can 48 = .ok (.ireturn, 1) := by decide +kernel
theorem dX_can_49 : decode bX_can 49 = .ok (.iload_n 1, 1) := by decide +kernel
theorem dX_can_50 : decode bX_can 50 = .ok (.bipush (-2), 2) := by decide +kernel
theorem dX_can_52 : decode bX_can 52 = .ok (.if_icmp .ne 12, 3) := by decide +kernel
theorem dX_can_55 : decode bX_can 55 = .ok (.aload_n 0, 1) := by decide +kernel
theorem dX_can_56 : decode bX_can 56 = .ok (.getfield 58, 3) := by decide +kernel
theorem dX_can_59 : decode bX_can 59 = .ok (.iload_n 2, 1) := by decide +kernel
theorem dX_can_60 : decode bX_can 60 = .ok (.invokevirtual 211, 3) := by decide +kernel
theorem dX_can_63 : decode bX_can 63 = .ok (.ireturn, 1) := by decide +kernel
theorem dX_can_64 : decode bX_can 64 = .ok (.aload_n 0, 1) := by decide +kernel
theorem dX_can_65 : decode bX_can 65 = .ok (.getfield 58, 3) := by decide +kernel
theorem dX_can_68 : decode bX_can 68 = .ok (.iload_n 2, 1) := by decide +kernel
theorem dX_can_69 : decode bX_can 69 = .ok (.aload_n 0, 1) := by decide +kernel
theorem dX_can_70 : decode bX_can 70 = .ok (.getfield 19, 3) := by decide +kernel
theorem dX_can_73 : decode bX_can 73 = .ok (.iload_n 1, 1) := by decide +kernel
theorem dX_can_74 : decode bX_can 74 = .ok (.invokevirtual 214, 3) := by decide +kernel
theorem dX_can_77 : decode bX_can 77 = .ok (.invokevirtual 217, 3) := by decide +kernel
theorem dX_can_80 : decode bX_can 80 = .ok (.ireturn, 1) := by decide +kernel
theorem dX_measures_0 : decode bX_measures 0 = .ok (.aload_n 0, 1) := by decide +kernel
theorem dX_measures_1 : decode bX_measures 1 = .ok (.getfield 19, 3) := by decide +kernel
theorem dX_measures_4 : decode bX_measures 4 = .ok (.iload_n 1, 1) := by decide +kernel
theorem dX_measures_5 : decode bX_measures 5 = .ok (.invokevirtual 221, 3) := by decide +kernel
theorem dX_measures_8 : decode bX_measures 8 = .ok (.ifCond .eq 19, 3) := by decide +kernel
theorem dX_measures_11 : decode bX_measures 11 = .ok (.aload_n 0, 1) := by decide +kernel
theorem dX_measures_12 : decode bX_measures 12 = .ok (.getfield 19, 3) := by decide +kernel
theorem dX_measures_15 : decode bX_measures 15 = .ok (.iload_n 2, 1) := by decide +kernel
theorem dX_measures_16 : decode bX_measures 16 = .ok (.invokevirtual 221, 3) := by decide +kernel
theorem dX_measures_19 : decode bX_measures 19 = .ok (.ifCond .eq 8, 3) := by decide +kernel
theorem dX_measures_22 : decode bX_measures 22 = .ok (.iload_n 2, 1) := by decide +kernel
theorem dX_measures_23 : decode bX_measures 23 = .ok (.iload_n 1, 1) := by decide +kernel
theorem dX_measures_24 : decode bX_measures 24 = .ok (.if_icmp .gt 5, 3) := by decide +kernel
theorem dX_measures_27 : decode bX_measures 27 = .ok (.iconst (-1), 1) := by decide +kernel
theorem dX_measures_28 : decode bX_measures 28 = .ok (.ireturn, 1) := by decide +kernel
theorem dX_measures_29 : decode bX_measures 29 = .ok (.iload_n 3, 1) := by decide +kernel
theorem dX_measures_30 : decode bX_measures 30 = .ok (.ifCond .lt 9, 3) := by decide +kernel
theorem dX_measures_33 : decode bX_measures 33 = .ok (.iload_n 3, 1) := by decide +kernel
theorem dX_measures_34 : decode bX_measures 34 = .ok (.ldc 224, 2) := by decide +kernel
theorem dX_measures_36 : decode bX_measures 36 = .ok (.if_icmp .le 5, 3) := by decide +kernel
theorem dX_measures_39 : decode bX_measures 39 = .ok (.iconst (-1), 1) := by decide +kernel
theorem dX_measures_40 : decode bX_measures 40 = .ok (.ireturn, 1) := by decide +kernel
theorem dX_measures_41 : decode bX_measures 41 = .ok (.aload_n 0, 1) := by decide +kernel
theorem dX_measures_42 : decode bX_measures 42 = .ok (.getfield 65, 3) := by decide +kernel
theorem dX_measures_45 : decode bX_measures 45 = .ok (.getfield 225, 3) := by decide +kernel
theorem dX_measures_48 : decode bX_measures 48 = .ok (.invokevirtual 72, 3) := by decide +kernel
theorem dX_measures_51 : decode bX_measures 51 = .ok (.ifCond .eq 6, 3) := by decide +kernel
theorem dX_measures_54 : decode bX_measures 54 = .ok (.bipush (-3), 2) := by decide +kernel
theorem dX_measures_56 : decode bX_measures 56 = .ok (.ireturn, 1) := by decide +kernel
theorem dX_measures_57 : decode bX_measures 57 = .ok (.aload_n 0, 1) := by decide +kernel
theorem dX_measures_58 : decode bX_measures 58 = .ok (.getfield 65, 3) := by decide +kernel
theorem dX_measures_61 : decode bX_measures 61 = .ok (.iload_n 1, 1) := by decide +kernel
theorem dX_measures_62 : decode bX_measures 62 = .ok (.iload_n 2, 1) := by decide +kernel
theorem dX_measures_63 : decode bX_measures 63 = .ok (.iload_n 3, 1) := by decide +kernel
theorem dX_measures_64 : decode bX_measures 64 = .ok (.invokevirtual 228, 3) := by decide +kernel
theorem dX_measures_67 : decode bX_measures 67 = .ok (.aload_n 0, 1) := by decide +kernel
theorem dX_measures_68 : decode bX_measures 68 = .ok (.getfield 65, 3) := by decide +kernel
theorem dX_measures_71 : decode bX_measures 71 = .ok (.getfield 225, 3) := by decide +kernel
theorem dX_measures_74 : decode bX_measures 74 = .ok (.invokevirtual 79, 3) := by decide +kernel
theorem dX_measures_77 : decode bX_measures 77 = .ok (.ireturn, 1) := by decide +kernel
theorem dX_agree_0 : decode bX_agree 0 = .ok (.iload_n 1, 1) := by decide +kernel
theorem dX_agree_1 : decode bX_agree 1 = .ok (.lookupswitch 47 #[(0, 27), (1, 35)], 27) := by decide +kernel
theorem dX_agree_28 : decode bX_agree 28 = .ok (.aload_n 0, 1) := by decide +kernel
theorem dX_agree_29 : decode bX_agree 29 = .ok (.getfield 65, 3) := by decide +kernel
theorem dX_agree_32 : decode bX_agree 32 = .ok (.invokevirtual 229, 3) := by decide +kernel
theorem dX_agree_35 : decode bX_agree 35 = .ok (.ireturn, 1) := by decide +kernel
theorem dX_agree_36 : decode bX_agree 36 = .ok (.aload_n 0, 1) := by decide +kernel
theorem dX_agree_37 : decode bX_agree 37 = .ok (.getfield 65, 3) := by decide +kernel
theorem dX_agree_40 : decode bX_agree 40 = .ok (.aload_n 0, 1) := by decide +kernel
theorem dX_agree_41 : decode bX_agree 41 = .ok (.getfield 19, 3) := by decide +kernel
theorem dX_agree_44 : decode bX_agree 44 = .ok (.invokevirtual 232, 3) := by decide +kernel
theorem dX_agree_47 : decode bX_agree 47 = .ok (.ireturn, 1) := by decide +kernel
theorem dX_agree_48 : decode bX_agree 48 = .ok (.iconst (-1), 1) := by decide +kernel
theorem dX_agree_49 : decode bX_agree 49 = .ok (.ireturn, 1) := by decide +kernel
theorem dX_power_0 : decode bX_power 0 = .ok (.iconst 1, 1) := by decide +kernel
theorem dX_power_1 : decode bX_power 1 = .ok (.istore_n 2, 1) := by decide +kernel
theorem dX_power_2 : decode bX_power 2 = .ok (.iconst 0, 1) := by decide +kernel
theorem dX_power_3 : decode bX_power 3 = .ok (.istore_n 3, 1) := by decide +kernel
theorem dX_power_4 : decode bX_power 4 = .ok (.iload_n 3, 1) := by decide +kernel
theorem dX_power_5 : decode bX_power 5 = .ok (.iload_n 1, 1) := by decide +kernel
theorem dX_power_6 : decode bX_power 6 = .ok (.if_icmp .ge 13, 3) := by decide +kernel
theorem dX_power_9 : decode bX_power 9 = .ok (.iload_n 2, 1) := by decide +kernel
theorem dX_power_10 : decode bX_power 10 = .ok (.iload_n 0, 1) := by decide +kernel
theorem dX_power_11 : decode bX_power 11 = .ok (.imul, 1) := by decide +kernel
theorem dX_power_12 : decode bX_power 12 = .ok (.istore_n 2, 1) := by decide +kernel
theorem dX_power_13 : decode bX_power 13 = .ok (.iinc 3 1, 3) := by decide +kernel
theorem dX_power_16 : decode bX_power 16 = .ok (.goto (-12), 3) := by decide +kernel
theorem dX_power_19 : decode bX_power 19 = .ok (.iload_n 2, 1) := by decide +kernel
theorem dX_power_20 : decode bX_power 20 = .ok (.ireturn, 1) := by decide +kernel
theorem dX_forget_0 : decode bX_forget 0 = .ok (.aload_n 0, 1) := by decide +kernel
theorem dX_forget_1 : decode bX_forget 1 = .ok (.getfield 58, 3) := by decide +kernel
theorem dX_forget_4 : decode bX_forget 4 = .ok (.getfield 199, 3) := by decide +kernel
theorem dX_forget_7 : decode bX_forget 7 = .ok (.invokevirtual 79, 3) := by decide +kernel
theorem dX_forget_10 : decode bX_forget 10 = .ok (.aload_n 0, 1) := by decide +kernel
theorem dX_forget_11 : decode bX_forget 11 = .ok (.getfield 65, 3) := by decide +kernel
theorem dX_forget_14 : decode bX_forget 14 = .ok (.getfield 225, 3) := by decide +kernel
theorem dX_forget_17 : decode bX_forget 17 = .ok (.invokevirtual 79, 3) := by decide +kernel
theorem dX_forget_20 : decode bX_forget 20 = .ok (.iadd, 1) := by decide +kernel
theorem dX_forget_21 : decode bX_forget 21 = .ok (.istore_n 1, 1) := by decide +kernel
theorem dX_forget_22 : decode bX_forget 22 = .ok (.aload_n 0, 1) := by decide +kernel
theorem dX_forget_23 : decode bX_forget 23 = .ok (.getfield 58, 3) := by decide +kernel
theorem dX_forget_26 : decode bX_forget 26 = .ok (.invokevirtual 94, 3) := by decide +kernel
theorem dX_forget_29 : decode bX_forget 29 = .ok (.aload_n 0, 1) := by decide +kernel
theorem dX_forget_30 : decode bX_forget 30 = .ok (.getfield 65, 3) := by decide +kernel
theorem dX_forget_33 : decode bX_forget 33 = .ok (.invokevirtual 95, 3) := by decide +kernel
theorem dX_forget_36 : decode bX_forget 36 = .ok (.iload_n 1, 1) := by decide +kernel
theorem dX_forget_37 : decode bX_forget 37 = .ok (.ireturn, 1) := by decide +kernel
theorem dX_whose_0 : decode bX_whose 0 = .ok (.iload_n 1, 1) := by decide +kernel
theorem dX_whose_1 : decode bX_whose 1 = .ok (.iconst (-1), 1) := by decide +kernel
theorem dX_whose_2 : decode bX_whose 2 = .ok (.if_icmp .lt 17, 3) := by decide +kernel
theorem dX_whose_5 : decode bX_whose 5 = .ok (.iload_n 1, 1) := by decide +kernel
theorem dX_whose_6 : decode bX_whose 6 = .ok (.aload_n 0, 1) := by decide +kernel
theorem dX_whose_7 : decode bX_whose 7 = .ok (.getfield 29, 3) := by decide +kernel
theorem dX_whose_10 : decode bX_whose 10 = .ok (.getfield 138, 3) := by decide +kernel
theorem dX_whose_13 : decode bX_whose 13 = .ok (.invokevirtual 79, 3) := by decide +kernel
theorem dX_whose_16 : decode bX_whose 16 = .ok (.if_icmp .lt 5, 3) := by decide +kernel
theorem dX_whose_19 : decode bX_whose 19 = .ok (.iconst (-1), 1) := by decide +kernel
theorem dX_whose_20 : decode bX_whose 20 = .ok (.ireturn, 1) := by decide +kernel
theorem dX_whose_21 : decode bX_whose 21 = .ok (.aload_n 0, 1) := by decide +kernel
theorem dX_whose_22 : decode bX_whose 22 = .ok (.getfield 29, 3) := by decide +kernel
theorem dX_whose_25 : decode bX_whose 25 = .ok (.getfield 138, 3) := by decide +kernel
theorem dX_whose_28 : decode bX_whose 28 = .ok (.aload_n 0, 1) := by decide +kernel
theorem dX_whose_29 : decode bX_whose 29 = .ok (.getfield 19, 3) := by decide +kernel
theorem dX_whose_32 : decode bX_whose 32 = .ok (.getfield 120, 3) := by decide +kernel
theorem dX_whose_35 : decode bX_whose 35 = .ok (.iconst 0, 1) := by decide +kernel
theorem dX_whose_36 : decode bX_whose 36 = .ok (.iconst 0, 1) := by decide +kernel
theorem dX_whose_37 : decode bX_whose 37 = .ok (.iconst (-1), 1) := by decide +kernel
theorem dX_whose_38 : decode bX_whose 38 = .ok (.iconst 0, 1) := by decide +kernel
theorem dX_whose_39 : decode bX_whose 39 = .ok (.invokestatic 235, 3) := by decide +kernel
theorem dX_whose_42 : decode bX_whose 42 = .ok (.istore_n 2, 1) := by decide +kernel
theorem dX_whose_43 : decode bX_whose 43 = .ok (.iload_n 1, 1) := by decide +kernel
theorem dX_whose_44 : decode bX_whose 44 = .ok (.iconst (-1), 1) := by decide +kernel
theorem dX_whose_45 : decode bX_whose 45 = .ok (.if_icmp .ne 5, 3) := by decide +kernel
theorem dX_whose_48 : decode bX_whose 48 = .ok (.iload_n 2, 1) := by decide +kernel
theorem dX_whose_49 : decode bX_whose 49 = .ok (.ireturn, 1) := by decide +kernel
theorem dX_whose_50 : decode bX_whose 50 = .ok (.iconst 0, 1) := by decide +kernel
theorem dX_whose_51 : decode bX_whose 51 = .ok (.istore_n 3, 1) := by decide +kernel
theorem dX_whose_52 : decode bX_whose 52 = .ok (.iload_n 3, 1) := by decide +kernel
theorem dX_whose_53 : decode bX_whose 53 = .ok (.aload_n 0, 1) := by decide +kernel
theorem dX_whose_54 : decode bX_whose 54 = .ok (.getfield 19, 3) := by decide +kernel
theorem dX_whose_57 : decode bX_whose 57 = .ok (.getfield 120, 3) := by decide +kernel
theorem dX_whose_60 : decode bX_whose 60 = .ok (.invokevirtual 79, 3) := by decide +kernel
theorem dX_whose_63 : decode bX_whose 63 = .ok (.if_icmp .ge 40, 3) := by decide +kernel
theorem dX_whose_66 : decode bX_whose 66 = .ok (.iload_n 2, 1) := by decide +kernel
theorem dX_whose_67 : decode bX_whose 67 = .ok (.ifCond .le 36, 3) := by decide +kernel
theorem dX_whose_70 : decode bX_whose 70 = .ok (.aload_n 0, 1) := by decide +kernel
theorem dX_whose_71 : decode bX_whose 71 = .ok (.getfield 29, 3) := by decide +kernel
theorem dX_whose_74 : decode bX_whose 74 = .ok (.getfield 138, 3) := by decide +kernel
theorem dX_whose_77 : decode bX_whose 77 = .ok (.aload_n 0, 1) := by decide +kernel
theorem dX_whose_78 : decode bX_whose 78 = .ok (.getfield 19, 3) := by decide +kernel
theorem dX_whose_81 : decode bX_whose 81 = .ok (.getfield 120, 3) := by decide +kernel
theorem dX_whose_84 : decode bX_whose 84 = .ok (.iconst 0, 1) := by decide +kernel
theorem dX_whose_85 : decode bX_whose 85 = .ok (.iconst 0, 1) := by decide +kernel
theorem dX_whose_86 : decode bX_whose 86 = .ok (.iload_n 1, 1) := by decide +kernel
theorem dX_whose_87 : decode bX_whose 87 = .ok (.iload_n 3, 1) := by decide +kernel
theorem dX_whose_88 : decode bX_whose 88 = .ok (.invokestatic 235, 3) := by decide +kernel
theorem dX_whose_91 : decode bX_whose 91 = .ok (.iload_n 2, 1) := by decide +kernel
theorem dX_whose_92 : decode bX_whose 92 = .ok (.if_icmp .ne 5, 3) := by decide +kernel
theorem dX_whose_95 : decode bX_whose 95 = .ok (.iload_n 3, 1) := by decide +kernel
theorem dX_whose_96 : decode bX_whose 96 = .ok (.ireturn, 1) := by decide +kernel
theorem dX_whose_97 : decode bX_whose 97 = .ok (.iinc 3 1, 3) := by decide +kernel
theorem dX_whose_100 : decode bX_whose 100 = .ok (.goto (-48), 3) := by decide +kernel
theorem dX_whose_103 : decode bX_whose 103 = .ok (.bipush (-9), 2) := by decide +kernel
theorem dX_whose_105 : decode bX_whose 105 = .ok (.ireturn, 1) := by decide +kernel
theorem dX_countOwners_0 : decode bX_countOwners 0 = .ok (.iload_n 2, 1) := by decide +kernel
theorem dX_countOwners_1 : decode bX_countOwners 1 = .ok (.aload_n 0, 1) := by decide +kernel
theorem dX_countOwners_2 : decode bX_countOwners 2 = .ok (.invokevirtual 79, 3) := by decide +kernel
theorem dX_countOwners_5 : decode bX_countOwners 5 = .ok (.if_icmp .lt 5, 3) := by decide +kernel
theorem dX_countOwners_8 : decode bX_countOwners 8 = .ok (.iconst 1, 1) := by decide +kernel
theorem dX_countOwners_9 : decode bX_countOwners 9 = .ok (.ireturn, 1) := by decide +kernel
theorem dX_countOwners_10 : decode bX_countOwners 10 = .ok (.iconst 0, 1) := by decide +kernel
theorem dX_countOwners_11 : decode bX_countOwners 11 = .ok (.istore 6, 2) := by decide +kernel
theorem dX_countOwners_13 : decode bX_countOwners 13 = .ok (.iconst 0, 1) := by decide +kernel
theorem dX_countOwners_14 : decode bX_countOwners 14 = .ok (.istore 7, 2) := by decide +kernel
theorem dX_countOwners_16 : decode bX_countOwners 16 = .ok (.iload 7, 2) := by decide +kernel
theorem dX_countOwners_18 : decode bX_countOwners 18 = .ok (.aload_n 1, 1) := by decide +kernel
theorem dX_countOwners_19 : decode bX_countOwners 19 = .ok (.invokevirtual 79, 3) := by decide +kernel
theorem dX_countOwners_22 : decode bX_countOwners 22 = .ok (.if_icmp .ge 92, 3) := by decide +kernel
theorem dX_countOwners_25 : decode bX_countOwners 25 = .ok (.iload_n 3, 1) := by decide +kernel
theorem dX_countOwners_26 : decode bX_countOwners 26 = .ok (.iconst 1, 1) := by decide +kernel
theorem dX_countOwners_27 : decode bX_countOwners 27 = .ok (.iload 7, 2) := by decide +kernel
theorem dX_countOwners_29 : decode bX_countOwners 29 = .ok (.ishl, 1) := by decide +kernel
theorem dX_countOwners_30 : decode bX_countOwners 30 = .ok (.iand, 1) := by decide +kernel
theorem dX_countOwners_31 : decode bX_countOwners 31 = .ok (.ifCond .ne 7, 3) := by decide +kernel
theorem dX_countOwners_34 : decode bX_countOwners 34 = .ok (.iconst 1, 1) := by decide +kernel
theorem dX_countOwners_35 : decode bX_countOwners 35 = .ok (.goto 4, 3) := by decide +kernel
theorem dX_countOwners_38 : decode bX_countOwners 38 = .ok (.iconst 0, 1) := by decide +kernel
theorem dX_countOwners_39 : decode bX_countOwners 39 = .ok (.istore 8, 2) := by decide +kernel
theorem dX_countOwners_41 : decode bX_countOwners 41 = .ok (.iload_n 2, 1) := by decide +kernel
theorem dX_countOwners_42 : decode bX_countOwners 42 = .ok (.iload 4, 2) := by decide +kernel
theorem dX_countOwners_44 : decode bX_countOwners 44 = .ok (.if_icmp .ne 10, 3) := by decide +kernel
theorem dX_countOwners_47 : decode bX_countOwners 47 = .ok (.iload 7, 2) := by decide +kernel
theorem dX_countOwners_49 : decode bX_countOwners 49 = .ok (.iload 5, 2) := by decide +kernel
theorem dX_countOwners_51 : decode bX_countOwners 51 = .ok (.if_icmp .ne 7, 3) := by decide +kernel
theorem dX_countOwners_54 : decode bX_countOwners 54 = .ok (.iconst 1, 1) := by decide +kernel
theorem dX_countOwners_55 : decode bX_countOwners 55 = .ok (.goto 4, 3) := by decide +kernel
theorem dX_countOwners_58 : decode bX_countOwners 58 = .ok (.iconst 0, 1) := by decide +kernel
theorem dX_countOwners_59 : decode bX_countOwners 59 = .ok (.istore 9, 2) := by decide +kernel
theorem dX_countOwners_61 : decode bX_countOwners 61 = .ok (.iload 8, 2) := by decide +kernel
theorem dX_countOwners_63 : decode bX_countOwners 63 = .ok (.ifCond .eq 45, 3) := by decide +kernel
theorem dX_countOwners_66 : decode bX_countOwners 66 = .ok (.iload 9, 2) := by decide +kernel
theorem dX_countOwners_68 : decode bX_countOwners 68 = .ok (.ifCond .eq 40, 3) := by decide +kernel
theorem dX_countOwners_71 : decode bX_countOwners 71 = .ok (.aload_n 1, 1) := by decide +kernel
theorem dX_countOwners_72 : decode bX_countOwners 72 = .ok (.iload 7, 2) := by decide +kernel
theorem dX_countOwners_74 : decode bX_countOwners 74 = .ok (.invokevirtual 104, 3) := by decide +kernel
theorem dX_countOwners_77 : decode bX_countOwners 77 = .ok (.aload_n 0, 1) := by decide +kernel
theorem dX_countOwners_78 : decode bX_countOwners 78 = .ok (.iload_n 2, 1) := by decide +kernel
theorem dX_countOwners_79 : decode bX_countOwners 79 = .ok (.invokevirtual 104, 3) := by decide +kernel
theorem dX_countOwners_82 : decode bX_countOwners 82 = .ok (.if_icmp .lt 26, 3) := by decide +kernel
theorem dX_countOwners_85 : decode bX_countOwners 85 = .ok (.iload 6, 2) := by decide +kernel
theorem dX_countOwners_87 : decode bX_countOwners 87 = .ok (.aload_n 0, 1) := by decide +kernel
theorem dX_countOwners_88 : decode bX_countOwners 88 = .ok (.aload_n 1, 1) := by decide +kernel
theorem dX_countOwners_89 : decode bX_countOwners 89 = .ok (.iload_n 2, 1) := by decide +kernel
theorem dX_countOwners_90 : decode bX_countOwners 90 = .ok (.iconst 1, 1) := by decide +kernel
theorem dX_countOwners_91 : decode bX_countOwners 91 = .ok (.iadd, 1) := by decide +kernel
theorem dX_countOwners_92 : decode bX_countOwners 92 = .ok (.iload_n 3, 1) := by decide +kernel
theorem dX_countOwners_93 : decode bX_countOwners 93 = .ok (.iconst 1, 1) := by decide +kernel
theorem dX_countOwners_94 : decode bX_countOwners 94 = .ok (.iload 7, 2) := by decide +kernel
theorem dX_countOwners_96 : decode bX_countOwners 96 = .ok (.ishl, 1) := by decide +kernel
theorem dX_countOwners_97 : decode bX_countOwners 97 = .ok (.ior, 1) := by decide +kernel
theorem dX_countOwners_98 : decode bX_countOwners 98 = .ok (.iload 4, 2) := by decide +kernel
theorem dX_countOwners_100 : decode bX_countOwners 100 = .ok (.iload 5, 2) := by decide +kernel
theorem dX_countOwners_102 : decode bX_countOwners 102 = .ok (.invokestatic 235, 3) := by decide +kernel
theorem dX_countOwners_105 : decode bX_countOwners 105 = .ok (.iadd, 1) := by decide +kernel
theorem dX_countOwners_106 : decode bX_countOwners 106 = .ok (.istore 6, 2) := by decide +kernel
theorem dX_countOwners_108 : decode bX_countOwners 108 = .ok (.iinc 7 1, 3) := by decide +kernel
theorem dX_countOwners_111 : decode bX_countOwners 111 = .ok (.goto (-95), 3) := by decide +kernel
theorem dX_countOwners_114 : decode bX_countOwners 114 = .ok (.iload 6, 2) := by decide +kernel
theorem dX_countOwners_116 : decode bX_countOwners 116 = .ok (.ireturn, 1) := by decide +kernel
theorem dX_odds_0 : decode bX_odds 0 = .ok (.iload_n 1, 1) := by decide +kernel
theorem dX_odds_1 : decode bX_odds 1 = .ok (.ifCond .lt 27, 3) := by decide +kernel
theorem dX_odds_4 : decode bX_odds 4 = .ok (.iload_n 1, 1) := by decide +kernel
theorem dX_odds_5 : decode bX_odds 5 = .ok (.bipush 10, 2) := by decide +kernel
theorem dX_odds_7 : decode bX_odds 7 = .ok (.if_icmp .gt 21, 3) := by decide +kernel
theorem dX_odds_10 : decode bX_odds 10 = .ok (.iload_n 2, 1) := by decide +kernel
theorem dX_odds_11 : decode bX_odds 11 = .ok (.ifCond .lt 17, 3) := by decide +kernel
theorem dX_odds_14 : decode bX_odds 14 = .ok (.iload_n 2, 1) := by decide +kernel
theorem dX_odds_15 : decode bX_odds 15 = .ok (.iconst 4, 1) := by decide +kernel
theorem dX_odds_16 : decode bX_odds 16 = .ok (.if_icmp .gt 12, 3) := by decide +kernel
theorem dX_odds_19 : decode bX_odds 19 = .ok (.iload_n 3, 1) := by decide +kernel
theorem dX_odds_20 : decode bX_odds 20 = .ok (.ifCond .lt 8, 3) := by decide +kernel
theorem dX_odds_23 : decode bX_odds 23 = .ok (.iload_n 3, 1) := by decide +kernel
theorem dX_odds_24 : decode bX_odds 24 = .ok (.iconst 1, 1) := by decide +kernel
theorem dX_odds_25 : decode bX_odds 25 = .ok (.if_icmp .le 5, 3) := by decide +kernel
theorem dX_odds_28 : decode bX_odds 28 = .ok (.iconst (-1), 1) := by decide +kernel
theorem dX_odds_29 : decode bX_odds 29 = .ok (.ireturn, 1) := by decide +kernel
theorem dX_odds_30 : decode bX_odds 30 = .ok (.aload_n 0, 1) := by decide +kernel
theorem dX_odds_31 : decode bX_odds 31 = .ok (.getfield 19, 3) := by decide +kernel
theorem dX_odds_34 : decode bX_odds 34 = .ok (.getfield 120, 3) := by decide +kernel
theorem dX_odds_37 : decode bX_odds 37 = .ok (.invokevirtual 79, 3) := by decide +kernel
theorem dX_odds_40 : decode bX_odds 40 = .ok (.aload_n 0, 1) := by decide +kernel
theorem dX_odds_41 : decode bX_odds 41 = .ok (.getfield 29, 3) := by decide +kernel
theorem dX_odds_44 : decode bX_odds 44 = .ok (.invokevirtual 144, 3) := by decide +kernel
theorem dX_odds_47 : decode bX_odds 47 = .ok (.isub, 1) := by decide +kernel
theorem dX_odds_48 : decode bX_odds 48 = .ok (.istore 4, 2) := by decide +kernel
theorem dX_odds_50 : decode bX_odds 50 = .ok (.iload_n 1, 1) := by decide +kernel
theorem dX_odds_51 : decode bX_odds 51 = .ok (.iload_n 2, 1) := by decide +kernel
theorem dX_odds_52 : decode bX_odds 52 = .ok (.iload 4, 2) := by decide +kernel
theorem dX_odds_54 : decode bX_odds 54 = .ok (.invokestatic 239, 3) := by decide +kernel
theorem dX_odds_57 : decode bX_odds 57 = .ok (.istore 5, 2) := by decide +kernel
theorem dX_odds_59 : decode bX_odds 59 = .ok (.bipush 10, 2) := by decide +kernel
theorem dX_odds_61 : decode bX_odds 61 = .ok (.iload 4, 2) := by decide +kernel
theorem dX_odds_63 : decode bX_odds 63 = .ok (.invokestatic 242, 3) := by decide +kernel
theorem dX_odds_66 : decode bX_odds 66 = .ok (.istore 6, 2) := by decide +kernel
theorem dX_odds_68 : decode bX_odds 68 = .ok (.iload 5, 2) := by decide +kernel
theorem dX_odds_70 : decode bX_odds 70 = .ok (.iload 6, 2) := by decide +kernel
theorem dX_odds_72 : decode bX_odds 72 = .ok (.invokestatic 245, 3) := by decide +kernel
theorem dX_odds_75 : decode bX_odds 75 = .ok (.istore 7, 2) := by decide +kernel
theorem dX_odds_77 : decode bX_odds 77 = .ok (.iload 7, 2) := by decide +kernel
theorem dX_odds_79 : decode bX_odds 79 = .ok (.iconst 1, 1) := by decide +kernel
theorem dX_odds_80 : decode bX_odds 80 = .ok (.if_icmp .ge 5, 3) := by decide +kernel
theorem dX_odds_83 : decode bX_odds 83 = .ok (.iconst (-1), 1) := by decide +kernel
theorem dX_odds_84 : decode bX_odds 84 = .ok (.ireturn, 1) := by decide +kernel
theorem dX_odds_85 : decode bX_odds 85 = .ok (.iload_n 3, 1) := by decide +kernel
theorem dX_odds_86 : decode bX_odds 86 = .ok (.ifCond .ne 11, 3) := by decide +kernel
theorem dX_odds_89 : decode bX_odds 89 = .ok (.iload 5, 2) := by decide +kernel
theorem dX_odds_91 : decode bX_odds 91 = .ok (.iload 7, 2) := by decide +kernel
theorem dX_odds_93 : decode bX_odds 93 = .ok (.idiv, 1) := by decide +kernel
theorem dX_odds_94 : decode bX_odds 94 = .ok (.goto 8, 3) := by decide +kernel
theorem dX_odds_97 : decode bX_odds 97 = .ok (.iload 6, 2) := by decide +kernel
theorem dX_odds_99 : decode bX_odds 99 = .ok (.iload 7, 2) := by decide +kernel
theorem dX_odds_101 : decode bX_odds 101 = .ok (.idiv, 1) := by decide +kernel
theorem dX_odds_102 : decode bX_odds 102 = .ok (.ireturn, 1) := by decide +kernel
theorem dX_countAway_0 : decode bX_countAway 0 = .ok (.iconst 0, 1) := by decide +kernel
theorem dX_countAway_1 : decode bX_countAway 1 = .ok (.istore_n 3, 1) := by decide +kernel
theorem dX_countAway_2 : decode bX_countAway 2 = .ok (.iconst 0, 1) := by decide +kernel
theorem dX_countAway_3 : decode bX_countAway 3 = .ok (.istore 4, 2) := by decide +kernel
theorem dX_countAway_5 : decode bX_countAway 5 = .ok (.iload 4, 2) := by decide +kernel
theorem dX_countAway_7 : decode bX_countAway 7 = .ok (.iconst 1, 1) := by decide +kernel
theorem dX_countAway_8 : decode bX_countAway 8 = .ok (.iload_n 2, 1) := by decide +kernel
theorem dX_countAway_9 : decode bX_countAway 9 = .ok (.ishl, 1) := by decide +kernel
theorem dX_countAway_10 : decode bX_countAway 10 = .ok (.if_icmp .ge 43, 3) := by decide +kernel
theorem dX_countAway_13 : decode bX_countAway 13 = .ok (.iload 4, 2) := by decide +kernel
theorem dX_countAway_15 : decode bX_countAway 15 = .ok (.invokestatic 293, 3) := by decide +kernel
theorem dX_countAway_18 : decode bX_countAway 18 = .ok (.istore 5, 2) := by decide +kernel
theorem dX_countAway_20 : decode bX_countAway 20 = .ok (.iload 5, 2) := by decide +kernel
theorem dX_countAway_22 : decode bX_countAway 22 = .ok (.iload_n 1, 1) := by decide +kernel
theorem dX_countAway_23 : decode bX_countAway 23 = .ok (.if_icmp .gt 24, 3) := by decide +kernel
theorem dX_countAway_26 : decode bX_countAway 26 = .ok (.iload_n 3, 1) := by decide +kernel
theorem dX_countAway_27 : decode bX_countAway 27 = .ok (.iload_n 0, 1) := by decide +kernel
theorem dX_countAway_28 : decode bX_countAway 28 = .ok (.iload 5, 2) := by decide +kernel
theorem dX_countAway_30 : decode bX_countAway 30 = .ok (.invokestatic 242, 3) := by decide +kernel
theorem dX_countAway_33 : decode bX_countAway 33 = .ok (.bipush 10, 2) := by decide +kernel
theorem dX_countAway_35 : decode bX_countAway 35 = .ok (.iload_n 0, 1) := by decide +kernel
theorem dX_countAway_36 : decode bX_countAway 36 = .ok (.isub, 1) := by decide +kernel
theorem dX_countAway_37 : decode bX_countAway 37 = .ok (.iload_n 2, 1) := by decide +kernel
theorem dX_countAway_38 : decode bX_countAway 38 = .ok (.iload 5, 2) := by decide +kernel
theorem dX_countAway_40 : decode bX_countAway 40 = .ok (.isub, 1) := by decide +kernel
theorem dX_countAway_41 : decode bX_countAway 41 = .ok (.invokestatic 242, 3) := by decide +kernel
theorem dX_countAway_44 : decode bX_countAway 44 = .ok (.imul, 1) := by decide +kernel
theorem dX_countAway_45 : decode bX_countAway 45 = .ok (.iadd, 1) := by decide +kernel
theorem dX_countAway_46 : decode bX_countAway 46 = .ok (.istore_n 3, 1) := by decide +kernel
theorem dX_countAway_47 : decode bX_countAway 47 = .ok (.iinc 4 1, 3) := by decide +kernel
theorem dX_countAway_50 : decode bX_countAway 50 = .ok (.goto (-45), 3) := by decide +kernel
theorem dX_countAway_53 : decode bX_countAway 53 = .ok (.iload_n 3, 1) := by decide +kernel
theorem dX_countAway_54 : decode bX_countAway 54 = .ok (.ireturn, 1) := by decide +kernel
theorem dX_commonFactor_0 : decode bX_commonFactor 0 = .ok (.iload_n 0, 1) := by decide +kernel
theorem dX_commonFactor_1 : decode bX_commonFactor 1 = .ok (.istore_n 2, 1) := by decide +kernel
theorem dX_commonFactor_2 : decode bX_commonFactor 2 = .ok (.iload_n 1, 1) := by decide +kernel
theorem dX_commonFactor_3 : decode bX_commonFactor 3 = .ok (.istore_n 3, 1) := by decide +kernel
theorem dX_commonFactor_4 : decode bX_commonFactor 4 = .ok (.iconst 0, 1) := by decide +kernel
theorem dX_commonFactor_5 : decode bX_commonFactor 5 = .ok (.istore 4, 2) := by decide +kernel
theorem dX_commonFactor_7 : decode bX_commonFactor 7 = .ok (.iload 4, 2) := by decide +kernel
theorem dX_commonFactor_9 : decode bX_commonFactor 9 = .ok (.bipush 64, 2) := by decide +kernel
theorem dX_commonFactor_11 : decode bX_commonFactor 11 = .ok (.if_icmp .ge 23, 3) := by decide +kernel
theorem dX_commonFactor_14 : decode bX_commonFactor 14 = .ok (.iload_n 3, 1) := by decide +kernel
theorem dX_commonFactor_15 : decode bX_commonFactor 15 = .ok (.ifCond .eq 19, 3) := by decide +kernel
theorem dX_commonFactor_18 : decode bX_commonFactor 18 = .ok (.iload_n 2, 1) := by decide +kernel
theorem dX_commonFactor_19 : decode bX_commonFactor 19 = .ok (.iload_n 3, 1) := by decide +kernel
theorem dX_commonFactor_20 : decode bX_commonFactor 20 = .ok (.irem, 1) := by decide +kernel
theorem dX_commonFactor_21 : decode bX_commonFactor 21 = .ok (.istore 5, 2) := by decide +kernel
theorem dX_commonFactor_23 : decode bX_commonFactor 23 = .ok (.iload_n 3, 1) := by decide +kernel
theorem dX_commonFactor_24 : decode bX_commonFactor 24 = .ok (.istore_n 2, 1) := by decide +kernel
theorem dX_commonFactor_25 : decode bX_commonFactor 25 = .ok (.iload 5, 2) := by decide +kernel
theorem dX_commonFactor_27 : decode bX_commonFactor 27 = .ok (.istore_n 3, 1) := by decide +kernel
theorem dX_commonFactor_28 : decode bX_commonFactor 28 = .ok (.iinc 4 1, 3) := by decide +kernel
theorem dX_commonFactor_31 : decode bX_commonFactor 31 = .ok (.goto (-24), 3) := by decide +kernel
theorem dX_commonFactor_34 : decode bX_commonFactor 34 = .ok (.iload_n 2, 1) := by decide +kernel
theorem dX_commonFactor_35 : decode bX_commonFactor 35 = .ok (.ireturn, 1) := by decide +kernel
theorem dX_rate_0 : decode bX_rate 0 = .ok (.aload_n 0, 1) := by decide +kernel
theorem dX_rate_1 : decode bX_rate 1 = .ok (.getfield 19, 3) := by decide +kernel
theorem dX_rate_4 : decode bX_rate 4 = .ok (.iload_n 2, 1) := by decide +kernel
theorem dX_rate_5 : decode bX_rate 5 = .ok (.invokevirtual 96, 3) := by decide +kernel
theorem dX_rate_8 : decode bX_rate 8 = .ok (.ifCond .ne 6, 3) := by decide +kernel
theorem dX_rate_11 : decode bX_rate 11 = .ok (.ldc 100, 2) := by decide +kernel
theorem dX_rate_13 : decode bX_rate 13 = .ok (.ireturn, 1) := by decide +kernel
theorem dX_rate_14 : decode bX_rate 14 = .ok (.iload_n 1, 1) := by decide +kernel
theorem dX_rate_15 : decode bX_rate 15 = .ok (.tableswitch 73 0 5 #[37, 43, 49, 55, 61, 67], 37) := by decide +kernel
theorem dX_rate_52 : decode bX_rate 52 = .ok (.aload_n 0, 1) := by decide +kernel
theorem dX_rate_53 : decode bX_rate 53 = .ok (.iload_n 2, 1) := by decide +kernel
theorem dX_rate_54 : decode bX_rate 54 = .ok (.invokevirtual 248, 3) := by decide +kernel
theorem dX_rate_57 : decode bX_rate 57 = .ok (.ireturn, 1) := by decide +kernel
theorem dX_rate_58 : decode bX_rate 58 = .ok (.aload_n 0, 1) := by decide +kernel
theorem dX_rate_59 : decode bX_rate 59 = .ok (.iload_n 2, 1) := by decide +kernel
theorem dX_rate_60 : decode bX_rate 60 = .ok (.invokevirtual 251, 3) := by decide +kernel
theorem dX_rate_63 : decode bX_rate 63 = .ok (.ireturn, 1) := by decide +kernel
theorem dX_rate_64 : decode bX_rate 64 = .ok (.aload_n 0, 1) := by decide +kernel
theorem dX_rate_65 : decode bX_rate 65 = .ok (.iload_n 2, 1) := by decide +kernel
theorem dX_rate_66 : decode bX_rate 66 = .ok (.invokevirtual 254, 3) := by decide +kernel
theorem dX_rate_69 : decode bX_rate 69 = .ok (.ireturn, 1) := by decide +kernel
theorem dX_rate_70 : decode bX_rate 70 = .ok (.aload_n 0, 1) := by decide +kernel
theorem dX_rate_71 : decode bX_rate 71 = .ok (.iload_n 2, 1) := by decide +kernel
theorem dX_rate_72 : decode bX_rate 72 = .ok (.invokevirtual 257, 3) := by decide +kernel
theorem dX_rate_75 : decode bX_rate 75 = .ok (.ireturn, 1) := by decide +kernel
theorem dX_rate_76 : decode bX_rate 76 = .ok (.aload_n 0, 1) := by decide +kernel
theorem dX_rate_77 : decode bX_rate 77 = .ok (.iload_n 2, 1) := by decide +kernel
theorem dX_rate_78 : decode bX_rate 78 = .ok (.invokevirtual 260, 3) := by decide +kernel
theorem dX_rate_81 : decode bX_rate 81 = .ok (.ireturn, 1) := by decide +kernel
theorem dX_rate_82 : decode bX_rate 82 = .ok (.aload_n 0, 1) := by decide +kernel
theorem dX_rate_83 : decode bX_rate 83 = .ok (.iload_n 2, 1) := by decide +kernel
theorem dX_rate_84 : decode bX_rate 84 = .ok (.invokevirtual 263, 3) := by decide +kernel
theorem dX_rate_87 : decode bX_rate 87 = .ok (.ireturn, 1) := by decide +kernel
theorem dX_rate_88 : decode bX_rate 88 = .ok (.ldc 100, 2) := by decide +kernel
theorem dX_rate_90 : decode bX_rate 90 = .ok (.ireturn, 1) := by decide +kernel
theorem dX_rateStretch_0 : decode bX_rateStretch 0 = .ok (.aload_n 0, 1) := by decide +kernel
theorem dX_rateStretch_1 : decode bX_rateStretch 1 = .ok (.dup, 1) := by decide +kernel
theorem dX_rateStretch_2 : decode bX_rateStretch 2 = .ok (.getfield 276, 3) := by decide +kernel
theorem dX_rateStretch_5 : decode bX_rateStretch 5 = .ok (.lconst 1, 1) := by decide +kernel
theorem dX_rateStretch_6 : decode bX_rateStretch 6 = .ok (.ladd, 1) := by decide +kernel
theorem dX_rateStretch_7 : decode bX_rateStretch 7 = .ok (.putfield 276, 3) := by decide +kernel
theorem dX_rateStretch_10 : decode bX_rateStretch 10 = .ok (.aload_n 0, 1) := by decide +kernel
theorem dX_rateStretch_11 : decode bX_rateStretch 11 = .ok (.getfield 19, 3) := by decide +kernel
theorem dX_rateStretch_14 : decode bX_rateStretch 14 = .ok (.getfield 108, 3) := by decide +kernel
theorem dX_rateStretch_17 : decode bX_rateStretch 17 = .ok (.iload_n 1, 1) := by decide +kernel
theorem dX_rateStretch_18 : decode bX_rateStretch 18 = .ok (.invokevirtual 104, 3) := by decide +kernel
theorem dX_rateStretch_21 : decode bX_rateStretch 21 = .ok (.ireturn, 1) := by decide +kernel
theorem dX_rateFeather_0 : decode bX_rateFeather 0 = .ok (.aload_n 0, 1) := by decide +kernel
theorem dX_rateFeather_1 : decode bX_rateFeather 1 = .ok (.dup, 1) := by decide +kernel
theorem dX_rateFeather_2 : decode bX_rateFeather 2 = .ok (.getfield 276, 3) := by decide +kernel
theorem dX_rateFeather_5 : decode bX_rateFeather 5 = .ok (.ldc2_w 280, 3) := by decide +kernel
theorem dX_rateFeather_8 : decode bX_rateFeather 8 = .ok (.ladd, 1) := by decide +kernel
theorem dX_rateFeather_9 : decode bX_rateFeather 9 = .ok (.putfield 276, 3) := by decide +kernel
theorem dX_rateFeather_12 : decode bX_rateFeather 12 = .ok (.aload_n 0, 1) := by decide +kernel
theorem dX_rateFeather_13 : decode bX_rateFeather 13 = .ok (.iload_n 1, 1) := by decide +kernel
theorem dX_rateFeather_14 : decode bX_rateFeather 14 = .ok (.invokevirtual 248, 3) := by decide +kernel
theorem dX_rateFeather_17 : decode bX_rateFeather 17 = .ok (.aload_n 0, 1) := by decide +kernel
theorem dX_rateFeather_18 : decode bX_rateFeather 18 = .ok (.getfield 29, 3) := by decide +kernel
theorem dX_rateFeather_21 : decode bX_rateFeather 21 = .ok (.aload_n 0, 1) := by decide +kernel
theorem dX_rateFeather_22 : decode bX_rateFeather 22 = .ok (.getfield 19, 3) := by decide +kernel
theorem dX_rateFeather_25 : decode bX_rateFeather 25 = .ok (.iload_n 1, 1) := by decide +kernel
theorem dX_rateFeather_26 : decode bX_rateFeather 26 = .ok (.invokevirtual 114, 3) := by decide +kernel
theorem dX_rateFeather_29 : decode bX_rateFeather 29 = .ok (.aload_n 0, 1) := by decide +kernel
theorem dX_rateFeather_30 : decode bX_rateFeather 30 = .ok (.getfield 19, 3) := by decide +kernel
theorem dX_rateFeather_33 : decode bX_rateFeather 33 = .ok (.iload_n 1, 1) := by decide +kernel
theorem dX_rateFeather_34 : decode bX_rateFeather 34 = .ok (.iconst 1, 1) := by decide +kernel
theorem dX_rateFeather_35 : decode bX_rateFeather 35 = .ok (.iadd, 1) := by decide +kernel
theorem dX_rateFeather_36 : decode bX_rateFeather 36 = .ok (.invokevirtual 114, 3) := by decide +kernel
theorem dX_rateFeather_39 : decode bX_rateFeather 39 = .ok (.invokevirtual 282, 3) := by decide +kernel
theorem dX_rateFeather_42 : decode bX_rateFeather 42 = .ok (.iadd, 1) := by decide +kernel
theorem dX_rateFeather_43 : decode bX_rateFeather 43 = .ok (.ireturn, 1) := by decide +kernel
theorem dX_rateBench_0 : decode bX_rateBench 0 = .ok (.aload_n 0, 1) := by decide +kernel
theorem dX_rateBench_1 : decode bX_rateBench 1 = .ok (.dup, 1) := by decide +kernel
theorem dX_rateBench_2 : decode bX_rateBench 2 = .ok (.getfield 276, 3) := by decide +kernel
theorem dX_rateBench_5 : decode bX_rateBench 5 = .ok (.ldc2_w 285, 3) := by decide +kernel
theorem dX_rateBench_8 : decode bX_rateBench 8 = .ok (.ladd, 1) := by decide +kernel
theorem dX_rateBench_9 : decode bX_rateBench 9 = .ok (.putfield 276, 3) := by decide +kernel
theorem dX_rateBench_12 : decode bX_rateBench 12 = .ok (.aload_n 0, 1) := by decide +kernel
theorem dX_rateBench_13 : decode bX_rateBench 13 = .ok (.iload_n 1, 1) := by decide +kernel
theorem dX_rateBench_14 : decode bX_rateBench 14 = .ok (.invokevirtual 248, 3) := by decide +kernel
theorem dX_rateBench_17 : decode bX_rateBench 17 = .ok (.aload_n 0, 1) := by decide +kernel
theorem dX_rateBench_18 : decode bX_rateBench 18 = .ok (.getfield 19, 3) := by decide +kernel
theorem dX_rateBench_21 : decode bX_rateBench 21 = .ok (.getfield 101, 3) := by decide +kernel
theorem dX_rateBench_24 : decode bX_rateBench 24 = .ok (.iload_n 1, 1) := by decide +kernel
theorem dX_rateBench_25 : decode bX_rateBench 25 = .ok (.invokevirtual 104, 3) := by decide +kernel
theorem dX_rateBench_28 : decode bX_rateBench 28 = .ok (.isub, 1) := by decide +kernel
theorem dX_rateBench_29 : decode bX_rateBench 29 = .ok (.ireturn, 1) := by decide +kernel
theorem dX_rateWing_0 : decode bX_rateWing 0 = .ok (.aload_n 0, 1) := by decide +kernel
theorem dX_rateWing_1 : decode bX_rateWing 1 = .ok (.dup, 1) := by decide +kernel
theorem dX_rateWing_2 : decode bX_rateWing 2 = .ok (.getfield 276, 3) := by decide +kernel
theorem dX_rateWing_5 : decode bX_rateWing 5 = .ok (.ldc2_w 287, 3) := by decide +kernel
theorem dX_rateWing_8 : decode bX_rateWing 8 = .ok (.ladd, 1) := by decide +kernel
theorem dX_rateWing_9 : decode bX_rateWing 9 = .ok (.putfield 276, 3) := by decide +kernel
theorem dX_rateWing_12 : decode bX_rateWing 12 = .ok (.iconst 2, 1) := by decide +kernel
theorem dX_rateWing_13 : decode bX_rateWing 13 = .ok (.aload_n 0, 1) := by decide +kernel
theorem dX_rateWing_14 : decode bX_rateWing 14 = .ok (.iload_n 1, 1) := by decide +kernel
theorem dX_rateWing_15 : decode bX_rateWing 15 = .ok (.invokevirtual 251, 3) := by decide +kernel
theorem dX_rateWing_18 : decode bX_rateWing 18 = .ok (.imul, 1) := by decide +kernel
theorem dX_rateWing_19 : decode bX_rateWing 19 = .ok (.ireturn, 1) := by decide +kernel
theorem dX_rateName_0 : decode bX_rateName 0 = .ok (.aload_n 0, 1) := by decide +kernel
theorem dX_rateName_1 : decode bX_rateName 1 = .ok (.dup, 1) := by decide +kernel
theorem dX_rateName_2 : decode bX_rateName 2 = .ok (.getfield 276, 3) := by decide +kernel
theorem dX_rateName_5 : decode bX_rateName 5 = .ok (.ldc2_w 289, 3) := by decide +kernel
theorem dX_rateName_8 : decode bX_rateName 8 = .ok (.ladd, 1) := by decide +kernel
theorem dX_rateName_9 : decode bX_rateName 9 = .ok (.putfield 276, 3) := by decide +kernel
theorem dX_rateName_12 : decode bX_rateName 12 = .ok (.aload_n 0, 1) := by decide +kernel
theorem dX_rateName_13 : decode bX_rateName 13 = .ok (.iload_n 1, 1) := by decide +kernel
theorem dX_rateName_14 : decode bX_rateName 14 = .ok (.invokevirtual 254, 3) := by decide +kernel
theorem dX_rateName_17 : decode bX_rateName 17 = .ok (.iload_n 1, 1) := by decide +kernel
theorem dX_rateName_18 : decode bX_rateName 18 = .ok (.iadd, 1) := by decide +kernel
theorem dX_rateName_19 : decode bX_rateName 19 = .ok (.ireturn, 1) := by decide +kernel
theorem dX_rateCloud_0 : decode bX_rateCloud 0 = .ok (.aload_n 0, 1) := by decide +kernel
theorem dX_rateCloud_1 : decode bX_rateCloud 1 = .ok (.dup, 1) := by decide +kernel
theorem dX_rateCloud_2 : decode bX_rateCloud 2 = .ok (.getfield 276, 3) := by decide +kernel
theorem dX_rateCloud_5 : decode bX_rateCloud 5 = .ok (.ldc2_w 291, 3) := by decide +kernel
theorem dX_rateCloud_8 : decode bX_rateCloud 8 = .ok (.ladd, 1) := by decide +kernel
theorem dX_rateCloud_9 : decode bX_rateCloud 9 = .ok (.putfield 276, 3) := by decide +kernel
theorem dX_rateCloud_12 : decode bX_rateCloud 12 = .ok (.aload_n 0, 1) := by decide +kernel
theorem dX_rateCloud_13 : decode bX_rateCloud 13 = .ok (.iload_n 1, 1) := by decide +kernel
theorem dX_rateCloud_14 : decode bX_rateCloud 14 = .ok (.invokevirtual 248, 3) := by decide +kernel
theorem dX_rateCloud_17 : decode bX_rateCloud 17 = .ok (.aload_n 0, 1) := by decide +kernel
theorem dX_rateCloud_18 : decode bX_rateCloud 18 = .ok (.getfield 29, 3) := by decide +kernel
theorem dX_rateCloud_21 : decode bX_rateCloud 21 = .ok (.invokevirtual 144, 3) := by decide +kernel
theorem dX_rateCloud_24 : decode bX_rateCloud 24 = .ok (.iadd, 1) := by decide +kernel
theorem dX_rateCloud_25 : decode bX_rateCloud 25 = .ok (.ireturn, 1) := by decide +kernel
theorem dX_keep_0 : decode bX_keep 0 = .ok (.iload_n 1, 1) := by decide +kernel
theorem dX_keep_1 : decode bX_keep 1 = .ok (.ifCond .lt 8, 3) := by decide +kernel
theorem dX_keep_4 : decode bX_keep 4 = .ok (.iload_n 1, 1) := by decide +kernel
theorem dX_keep_5 : decode bX_keep 5 = .ok (.iconst 1, 1) := by decide +kernel
theorem dX_keep_6 : decode bX_keep 6 = .ok (.if_icmp .le 5, 3) := by decide +kernel
theorem dX_keep_9 : decode bX_keep 9 = .ok (.iconst (-1), 1) := by decide +kernel
theorem dX_keep_10 : decode bX_keep 10 = .ok (.ireturn, 1) := by decide +kernel
theorem dX_keep_11 : decode bX_keep 11 = .ok (.aload_n 0, 1) := by decide +kernel
theorem dX_keep_12 : decode bX_keep 12 = .ok (.iload_n 1, 1) := by decide +kernel
theorem dX_keep_13 : decode bX_keep 13 = .ok (.invokevirtual 266, 3) := by decide +kernel
theorem dX_keep_16 : decode bX_keep 16 = .ok (.aload_n 0, 1) := by decide +kernel
theorem dX_keep_17 : decode bX_keep 17 = .ok (.getfield 29, 3) := by decide +kernel
theorem dX_keep_20 : decode bX_keep 20 = .ok (.invokevirtual 270, 3) := by decide +kernel
theorem dX_keep_23 : decode bX_keep 23 = .ok (.aload_n 0, 1) := by decide +kernel
theorem dX_keep_24 : decode bX_keep 24 = .ok (.getfield 44, 3) := by decide +kernel
theorem dX_keep_27 : decode bX_keep 27 = .ok (.iload_n 1, 1) := by decide +kernel
theorem dX_keep_28 : decode bX_keep 28 = .ok (.iconst 1, 1) := by decide +kernel
theorem dX_keep_29 : decode bX_keep 29 = .ok (.invokevirtual 170, 3) := by decide +kernel
theorem dX_keep_32 : decode bX_keep 32 = .ok (.aload_n 0, 1) := by decide +kernel
theorem dX_keep_33 : decode bX_keep 33 = .ok (.getfield 29, 3) := by decide +kernel
theorem dX_keep_36 : decode bX_keep 36 = .ok (.invokevirtual 144, 3) := by decide +kernel
theorem dX_keep_39 : decode bX_keep 39 = .ok (.ireturn, 1) := by decide +kernel
theorem dX_imageOf_0 : decode bX_imageOf 0 = .ok (.iload_n 1, 1) := by decide +kernel
theorem dX_imageOf_1 : decode bX_imageOf 1 = .ok (.ifCond .ne 10, 3) := by decide +kernel
theorem dX_imageOf_4 : decode bX_imageOf 4 = .ok (.aload_n 0, 1) := by decide +kernel
theorem dX_imageOf_5 : decode bX_imageOf 5 = .ok (.getfield 33, 3) := by decide +kernel
theorem dX_imageOf_8 : decode bX_imageOf 8 = .ok (.goto 7, 3) := by decide +kernel
theorem dX_imageOf_11 : decode bX_imageOf 11 = .ok (.aload_n 0, 1) := by decide +kernel
theorem dX_imageOf_12 : decode bX_imageOf 12 = .ok (.getfield 36, 3) := by decide +kernel
theorem dX_imageOf_15 : decode bX_imageOf 15 = .ok (.areturn, 1) := by decide +kernel
theorem dX_back_0 : decode bX_back 0 = .ok (.iload_n 1, 1) := by decide +kernel
theorem dX_back_1 : decode bX_back 1 = .ok (.ifCond .lt 8, 3) := by decide +kernel
theorem dX_back_4 : decode bX_back 4 = .ok (.iload_n 1, 1) := by decide +kernel
theorem dX_back_5 : decode bX_back 5 = .ok (.iconst 1, 1) := by decide +kernel
theorem dX_back_6 : decode bX_back 6 = .ok (.if_icmp .le 5, 3) := by decide +kernel
theorem dX_back_9 : decode bX_back 9 = .ok (.iconst (-1), 1) := by decide +kernel
theorem dX_back_10 : decode bX_back 10 = .ok (.ireturn, 1) := by decide +kernel
theorem dX_back_11 : decode bX_back 11 = .ok (.aload_n 0, 1) := by decide +kernel
theorem dX_back_12 : decode bX_back 12 = .ok (.getfield 44, 3) := by decide +kernel
theorem dX_back_15 : decode bX_back 15 = .ok (.iload_n 1, 1) := by decide +kernel
theorem dX_back_16 : decode bX_back 16 = .ok (.invokevirtual 104, 3) := by decide +kernel
theorem dX_back_19 : decode bX_back 19 = .ok (.ifCond .ne 6, 3) := by decide +kernel
theorem dX_back_22 : decode bX_back 22 = .ok (.bipush (-2), 2) := by decide +kernel
theorem dX_back_24 : decode bX_back 24 = .ok (.ireturn, 1) := by decide +kernel
theorem dX_back_25 : decode bX_back 25 = .ok (.aload_n 0, 1) := by decide +kernel
theorem dX_back_26 : decode bX_back 26 = .ok (.getfield 29, 3) := by decide +kernel
theorem dX_back_29 : decode bX_back 29 = .ok (.aload_n 0, 1) := by decide +kernel
theorem dX_back_30 : decode bX_back 30 = .ok (.iload_n 1, 1) := by decide +kernel
theorem dX_back_31 : decode bX_back 31 = .ok (.invokevirtual 266, 3) := by decide +kernel
theorem dX_back_34 : decode bX_back 34 = .ok (.invokevirtual 270, 3) := by decide +kernel
theorem dX_back_37 : decode bX_back 37 = .ok (.aload_n 0, 1) := by decide +kernel
theorem dX_back_38 : decode bX_back 38 = .ok (.getfield 51, 3) := by decide +kernel
theorem dX_back_41 : decode bX_back 41 = .ok (.invokevirtual 93, 3) := by decide +kernel
theorem dX_back_44 : decode bX_back 44 = .ok (.aload_n 0, 1) := by decide +kernel
theorem dX_back_45 : decode bX_back 45 = .ok (.getfield 29, 3) := by decide +kernel
theorem dX_back_48 : decode bX_back 48 = .ok (.invokevirtual 144, 3) := by decide +kernel
theorem dX_back_51 : decode bX_back 51 = .ok (.ireturn, 1) := by decide +kernel
theorem dX_count_0 : decode bX_count 0 = .ok (.iload_n 1, 1) := by decide +kernel
theorem dX_count_1 : decode bX_count 1 = .ok (.tableswitch 114 0 6 #[43, 54, 65, 73, 81, 92, 103], 43) := by decide +kernel
theorem dX_count_44 : decode bX_count 44 = .ok (.aload_n 0, 1) := by decide +kernel
theorem dX_count_45 : decode bX_count 45 = .ok (.getfield 19, 3) := by decide +kernel
theorem dX_count_48 : decode bX_count 48 = .ok (.getfield 101, 3) := by decide +kernel
theorem dX_count_51 : decode bX_count 51 = .ok (.invokevirtual 79, 3) := by decide +kernel
theorem dX_count_54 : decode bX_count 54 = .ok (.ireturn, 1) := by decide +kernel
theorem dX_count_55 : decode bX_count 55 = .ok (.aload_n 0, 1) := by decide +kernel
theorem dX_count_56 : decode bX_count 56 = .ok (.getfield 19, 3) := by decide +kernel
theorem dX_count_59 : decode bX_count 59 = .ok (.getfield 120, 3) := by decide +kernel
theorem dX_count_62 : decode bX_count 62 = .ok (.invokevirtual 79, 3) := by decide +kernel
theorem dX_count_65 : decode bX_count 65 = .ok (.ireturn, 1) := by decide +kernel
theorem dX_count_66 : decode bX_count 66 = .ok (.aload_n 0, 1) := by decide +kernel
theorem dX_count_67 : decode bX_count 67 = .ok (.getfield 19, 3) := by decide +kernel
theorem dX_count_70 : decode bX_count 70 = .ok (.getfield 273, 3) := by decide +kernel
theorem dX_count_73 : decode bX_count 73 = .ok (.ireturn, 1) := by decide +kernel
theorem dX_count_74 : decode bX_count 74 = .ok (.aload_n 0, 1) := by decide +kernel
theorem dX_count_75 : decode bX_count 75 = .ok (.getfield 19, 3) := by decide +kernel
theorem dX_count_78 : decode bX_count 78 = .ok (.getfield 153, 3) := by decide +kernel
theorem dX_count_81 : decode bX_count 81 = .ok (.ireturn, 1) := by decide +kernel
theorem dX_count_82 : decode bX_count 82 = .ok (.aload_n 0, 1) := by decide +kernel
theorem dX_count_83 : decode bX_count 83 = .ok (.getfield 58, 3) := by decide +kernel
theorem dX_count_86 : decode bX_count 86 = .ok (.getfield 199, 3) := by decide +kernel
theorem dX_count_89 : decode bX_count 89 = .ok (.invokevirtual 79, 3) := by decide +kernel
theorem dX_count_92 : decode bX_count 92 = .ok (.ireturn, 1) := by decide +kernel
theorem dX_count_93 : decode bX_count 93 = .ok (.aload_n 0, 1) := by decide +kernel
theorem dX_count_94 : decode bX_count 94 = .ok (.getfield 65, 3) := by decide +kernel
theorem dX_count_97 : decode bX_count 97 = .ok (.getfield 225, 3) := by decide +kernel
theorem dX_count_100 : decode bX_count 100 = .ok (.invokevirtual 79, 3) := by decide +kernel
theorem dX_count_103 : decode bX_count 103 = .ok (.ireturn, 1) := by decide +kernel
theorem dX_count_104 : decode bX_count 104 = .ok (.aload_n 0, 1) := by decide +kernel
theorem dX_count_105 : decode bX_count 105 = .ok (.getfield 12, 3) := by decide +kernel
theorem dX_count_108 : decode bX_count 108 = .ok (.getfield 69, 3) := by decide +kernel
theorem dX_count_111 : decode bX_count 111 = .ok (.invokevirtual 79, 3) := by decide +kernel
theorem dX_count_114 : decode bX_count 114 = .ok (.ireturn, 1) := by decide +kernel
theorem dX_count_115 : decode bX_count 115 = .ok (.iconst (-1), 1) := by decide +kernel
theorem dX_count_116 : decode bX_count 116 = .ok (.ireturn, 1) := by decide +kernel
theorem dX_trace_0 : decode bX_trace 0 = .ok (.aload_n 0, 1) := by decide +kernel
theorem dX_trace_1 : decode bX_trace 1 = .ok (.getfield 276, 3) := by decide +kernel
theorem dX_trace_4 : decode bX_trace 4 = .ok (.lreturn, 1) := by decide +kernel
end
section
theorem dZ_init_0 : decode bZ_init 0 = .ok (.aload_n 0, 1) := by decide +kernel
theorem dZ_init_1 : decode bZ_init 1 = .ok (.invokespecial 1, 3) := by decide +kernel
theorem dZ_init_4 : decode bZ_init 4 = .ok (.aload_n 0, 1) := by decide +kernel
theorem dZ_init_5 : decode bZ_init 5 = .ok (.bipush 120, 2) := by decide +kernel
theorem dZ_init_7 : decode bZ_init 7 = .ok (.newarray .int, 2) := by decide +kernel
theorem dZ_init_9 : decode bZ_init 9 = .ok (.putfield 7, 3) := by decide +kernel
theorem dZ_init_12 : decode bZ_init 12 = .ok (.aload_n 0, 1) := by decide +kernel
theorem dZ_init_13 : decode bZ_init 13 = .ok (.bipush 8, 2) := by decide +kernel
theorem dZ_init_15 : decode bZ_init 15 = .ok (.newarray .int, 2) := by decide +kernel
theorem dZ_init_17 : decode bZ_init 17 = .ok (.putfield 13, 3) := by decide +kernel
theorem dZ_init_20 : decode bZ_init 20 = .ok (.aload_n 0, 1) := by decide +kernel
theorem dZ_init_21 : decode bZ_init 21 = .ok (.bipush 10, 2) := by decide +kernel
theorem dZ_init_23 : decode bZ_init 23 = .ok (.newarray .int, 2) := by decide +kernel
theorem dZ_init_25 : decode bZ_init 25 = .ok (.putfield 16, 3) := by decide +kernel
theorem dZ_init_28 : decode bZ_init 28 = .ok (.aload_n 0, 1) := by decide +kernel
theorem dZ_init_29 : decode bZ_init 29 = .ok (.bipush 10, 2) := by decide +kernel
theorem dZ_init_31 : decode bZ_init 31 = .ok (.newarray .int, 2) := by decide +kernel
theorem dZ_init_33 : decode bZ_init 33 = .ok (.putfield 19, 3) := by decide +kernel
theorem dZ_init_36 : decode bZ_init 36 = .ok (.aload_n 0, 1) := by decide +kernel
theorem dZ_init_37 : decode bZ_init 37 = .ok (.bipush 10, 2) := by decide +kernel
theorem dZ_init_39 : decode bZ_init 39 = .ok (.newarray .int, 2) := by decide +kernel
theorem dZ_init_41 : decode bZ_init 41 = .ok (.putfield 22, 3) := by decide +kernel
theorem dZ_init_44 : decode bZ_init 44 = .ok (.aload_n 0, 1) := by decide +kernel
theorem dZ_init_45 : decode bZ_init 45 = .ok (.bipush 8, 2) := by decide +kernel
theorem dZ_init_47 : decode bZ_init 47 = .ok (.newarray .int, 2) := by decide +kernel
theorem dZ_init_49 : decode bZ_init 49 = .ok (.putfield 25, 3) := by decide +kernel
theorem dZ_init_52 : decode bZ_init 52 = .ok (.aload_n 0, 1) := by decide +kernel
theorem dZ_init_53 : decode bZ_init 53 = .ok (.sipush 212, 3) := by decide +kernel
theorem dZ_init_56 : decode bZ_init 56 = .ok (.newarray .int, 2) := by decide +kernel
theorem dZ_init_58 : decode bZ_init 58 = .ok (.putfield 28, 3) := by decide +kernel
theorem dZ_init_61 : decode bZ_init 61 = .ok (.aload_n 0, 1) := by decide +kernel
theorem dZ_init_62 : decode bZ_init 62 = .ok (.sipush 424, 3) := by decide +kernel
theorem dZ_init_65 : decode bZ_init 65 = .ok (.newarray .int, 2) := by decide +kernel
theorem dZ_init_67 : decode bZ_init 67 = .ok (.putfield 31, 3) := by decide +kernel
theorem dZ_init_70 : decode bZ_init 70 = .ok (.aload_n 0, 1) := by decide +kernel
theorem dZ_init_71 : decode bZ_init 71 = .ok (.iconst 2, 1) := by decide +kernel
theorem dZ_init_72 : decode bZ_init 72 = .ok (.newarray .boolean, 2) := by decide +kernel
theorem dZ_init_74 : decode bZ_init 74 = .ok (.putfield 34, 3) := by decide +kernel
theorem dZ_init_77 : decode bZ_init 77 = .ok (.aload_n 0, 1) := by decide +kernel
theorem dZ_init_78 : decode bZ_init 78 = .ok (.sipush 2120, 3) := by decide +kernel
theorem dZ_init_81 : decode bZ_init 81 = .ok (.newarray .int, 2) := by decide +kernel
theorem dZ_init_83 : decode bZ_init 83 = .ok (.putfield 38, 3) := by decide +kernel
theorem dZ_init_86 : decode bZ_init 86 = .ok (.aload_n 0, 1) := by decide +kernel
theorem dZ_init_87 : decode bZ_init 87 = .ok (.bipush 6, 2) := by decide +kernel
theorem dZ_init_89 : decode bZ_init 89 = .ok (.newarray .int, 2) := by decide +kernel
theorem dZ_init_91 : decode bZ_init 91 = .ok (.putfield 41, 3) := by decide +kernel
theorem dZ_init_94 : decode bZ_init 94 = .ok (.aload_n 0, 1) := by decide +kernel
theorem dZ_init_95 : decode bZ_init 95 = .ok (.bipush 6, 2) := by decide +kernel
theorem dZ_init_97 : decode bZ_init 97 = .ok (.newarray .int, 2) := by decide +kernel
theorem dZ_init_99 : decode bZ_init 99 = .ok (.putfield 44, 3) := by decide +kernel
theorem dZ_init_102 : decode bZ_init 102 = .ok (.aload_n 0, 1) := by decide +kernel
theorem dZ_init_103 : decode bZ_init 103 = .ok (.bipush 6, 2) := by decide +kernel
theorem dZ_init_105 : decode bZ_init 105 = .ok (.newarray .int, 2) := by decide +kernel
theorem dZ_init_107 : decode bZ_init 107 = .ok (.putfield 47, 3) := by decide +kernel
theorem dZ_init_110 : decode bZ_init 110 = .ok (.aload_n 0, 1) := by decide +kernel
theorem dZ_init_111 : decode bZ_init 111 = .ok (.bipush 6, 2) := by decide +kernel
theorem dZ_init_113 : decode bZ_init 113 = .ok (.newarray .int, 2) := by decide +kernel
theorem dZ_init_115 : decode bZ_init 115 = .ok (.putfield 50, 3) := by decide +kernel
theorem dZ_init_118 : decode bZ_init 118 = .ok (.aload_n 0, 1) := by decide +kernel
theorem dZ_init_119 : decode bZ_init 119 = .ok (.bipush 6, 2) := by decide +kernel
theorem dZ_init_121 : decode bZ_init 121 = .ok (.newarray .int, 2) := by decide +kernel
theorem dZ_init_123 : decode bZ_init 123 = .ok (.putfield 53, 3) := by decide +kernel
theorem dZ_init_126 : decode bZ_init 126 = .ok (.aload_n 0, 1) := by decide +kernel
theorem dZ_init_127 : decode bZ_init 127 = .ok (.bipush 6, 2) := by decide +kernel
theorem dZ_init_129 : decode bZ_init 129 = .ok (.newarray .int, 2) := by decide +kernel
theorem dZ_init_131 : decode bZ_init 131 = .ok (.putfield 56, 3) := by decide +kernel
theorem dZ_init_134 : decode bZ_init 134 = .ok (.aload_n 0, 1) := by decide +kernel
theorem dZ_init_135 : decode bZ_init 135 = .ok (.bipush 6, 2) := by decide +kernel
theorem dZ_init_137 : decode bZ_init 137 = .ok (.newarray .int, 2) := by decide +kernel
theorem dZ_init_139 : decode bZ_init 139 = .ok (.putfield 59, 3) := by decide +kernel
theorem dZ_init_142 : decode bZ_init 142 = .ok (.aload_n 0, 1) := by decide +kernel
theorem dZ_init_143 : decode bZ_init 143 = .ok (.invokevirtual 62, 3) := by decide +kernel
theorem dZ_init_146 : decode bZ_init 146 = .ok (.aload_n 0, 1) := by decide +kernel
theorem dZ_init_147 : decode bZ_init 147 = .ok (.invokevirtual 65, 3) := by decide +kernel
theorem dZ_init_150 : decode bZ_init 150 = .ok (.return_, 1) := by decide +kernel
theorem dZ_begins_0 : decode bZ_begins 0 = .ok (.aload_n 0, 1) := by decide +kernel
theorem dZ_begins_1 : decode bZ_begins 1 = .ok (.iconst 0, 1) := by decide +kernel
theorem dZ_begins_2 : decode bZ_begins 2 = .ok (.putfield 113, 3) := by decide +kernel
theorem dZ_begins_5 : decode bZ_begins 5 = .ok (.aload_n 0, 1) := by decide +kernel
theorem dZ_begins_6 : decode bZ_begins 6 = .ok (.getfield 13, 3) := by decide +kernel
theorem dZ_begins_9 : decode bZ_begins 9 = .ok (.iconst 4, 1) := by decide +kernel
theorem dZ_begins_10 : decode bZ_begins 10 = .ok (.iconst 0, 1) := by decide +kernel
theorem dZ_begins_11 : decode bZ_begins 11 = .ok (.iastore, 1) := by decide +kernel
theorem dZ_begins_12 : decode bZ_begins 12 = .ok (.aload_n 0, 1) := by decide +kernel
theorem dZ_begins_13 : decode bZ_begins 13 = .ok (.getfield 13, 3) := by decide +kernel
theorem dZ_begins_16 : decode bZ_begins 16 = .ok (.iconst 5, 1) := by decide +kernel
theorem dZ_begins_17 : decode bZ_begins 17 = .ok (.iconst 0, 1) := by decide +kernel
theorem dZ_begins_18 : decode bZ_begins 18 = .ok (.iastore, 1) := by decide +kernel
theorem dZ_begins_19 : decode bZ_begins 19 = .ok (.aload_n 0, 1) := by decide +kernel
theorem dZ_begins_20 : decode bZ_begins 20 = .ok (.getfield 13, 3) := by decide +kernel
theorem dZ_begins_23 : decode bZ_begins 23 = .ok (.bipush 6, 2) := by decide +kernel
theorem dZ_begins_25 : decode bZ_begins 25 = .ok (.iconst 3, 1) := by decide +kernel
theorem dZ_begins_26 : decode bZ_begins 26 = .ok (.iastore, 1) := by decide +kernel
theorem dZ_begins_27 : decode bZ_begins 27 = .ok (.aload_n 0, 1) := by decide +kernel
theorem dZ_begins_28 : decode bZ_begins 28 = .ok (.getfield 13, 3) := by decide +kernel
theorem dZ_begins_31 : decode bZ_begins 31 = .ok (.bipush 7, 2) := by decide +kernel
theorem dZ_begins_33 : decode bZ_begins 33 = .ok (.iconst 3, 1) := by decide +kernel
theorem dZ_begins_34 : decode bZ_begins 34 = .ok (.iastore, 1) := by decide +kernel
theorem dZ_begins_35 : decode bZ_begins 35 = .ok (.return_, 1) := by decide +kernel
theorem dZ_settles_0 : decode bZ_settles 0 = .ok (.iconst 0, 1) := by decide +kernel
theorem dZ_settles_1 : decode bZ_settles 1 = .ok (.istore_n 1, 1) := by decide +kernel
theorem dZ_settles_2 : decode bZ_settles 2 = .ok (.iload_n 1, 1) := by decide +kernel
theorem dZ_settles_3 : decode bZ_settles 3 = .ok (.iconst 4, 1) := by decide +kernel
theorem dZ_settles_4 : decode bZ_settles 4 = .ok (.if_icmp .ge 23, 3) := by decide +kernel
theorem dZ_settles_7 : decode bZ_settles 7 = .ok (.aload_n 0, 1) := by decide +kernel
theorem dZ_settles_8 : decode bZ_settles 8 = .ok (.getfield 13, 3) := by decide +kernel
theorem dZ_settles_11 : decode bZ_settles 11 = .ok (.iload_n 1, 1) := by decide +kernel
theorem dZ_settles_12 : decode bZ_settles 12 = .ok (.aload_n 0, 1) := by decide +kernel
theorem dZ_settles_13 : decode bZ_settles 13 = .ok (.getfield 13, 3) := by decide +kernel
theorem dZ_settles_16 : decode bZ_settles 16 = .ok (.iconst 4, 1) := by decide +kernel
theorem dZ_settles_17 : decode bZ_settles 17 = .ok (.iload_n 1, 1) := by decide +kernel
theorem dZ_settles_18 : decode bZ_settles 18 = .ok (.iadd, 1) := by decide +kernel
theorem dZ_settles_19 : decode bZ_settles 19 = .ok (.iaload, 1) := by decide +kernel
theorem dZ_settles_20 : decode bZ_settles 20 = .ok (.iastore, 1) := by decide +kernel
theorem dZ_settles_21 : decode bZ_settles 21 = .ok (.iinc 1 1, 3) := by decide +kernel
theorem dZ_settles_24 : decode bZ_settles 24 = .ok (.goto (-22), 3) := by decide +kernel
theorem dZ_settles_27 : decode bZ_settles 27 = .ok (.iconst 0, 1) := by decide +kernel
theorem dZ_settles_28 : decode bZ_settles 28 = .ok (.istore_n 1, 1) := by decide +kernel
theorem dZ_settles_29 : decode bZ_settles 29 = .ok (.iload_n 1, 1) := by decide +kernel
theorem dZ_settles_30 : decode bZ_settles 30 = .ok (.iconst 5, 1) := by decide +kernel
theorem dZ_settles_31 : decode bZ_settles 31 = .ok (.if_icmp .ge 51, 3) := by decide +kernel
theorem dZ_settles_34 : decode bZ_settles 34 = .ok (.aload_n 0, 1) := by decide +kernel
theorem dZ_settles_35 : decode bZ_settles 35 = .ok (.getfield 16, 3) := by decide +kernel
theorem dZ_settles_38 : decode bZ_settles 38 = .ok (.iload_n 1, 1) := by decide +kernel
theorem dZ_settles_39 : decode bZ_settles 39 = .ok (.aload_n 0, 1) := by decide +kernel
theorem dZ_settles_40 : decode bZ_settles 40 = .ok (.getfield 16, 3) := by decide +kernel
theorem dZ_settles_43 : decode bZ_settles 43 = .ok (.iconst 5, 1) := by decide +kernel
theorem dZ_settles_44 : decode bZ_settles 44 = .ok (.iload_n 1, 1) := by decide +kernel
theorem dZ_settles_45 : decode bZ_settles 45 = .ok (.iadd, 1) := by decide +kernel
theorem dZ_settles_46 : decode bZ_settles 46 = .ok (.iaload, 1) := by decide +kernel
theorem dZ_settles_47 : decode bZ_settles 47 = .ok (.iastore, 1) := by decide +kernel
theorem dZ_settles_48 : decode bZ_settles 48 = .ok (.aload_n 0, 1) := by decide +kernel
theorem dZ_settles_49 : decode bZ_settles 49 = .ok (.getfield 19, 3) := by decide +kernel
theorem dZ_settles_52 : decode bZ_settles 52 = .ok (.iload_n 1, 1) := by decide +kernel
theorem dZ_settles_53 : decode bZ_settles 53 = .ok (.aload_n 0, 1) := by decide +kernel
theorem dZ_settles_54 : decode bZ_settles 54 = .ok (.getfield 19, 3) := by decide +kernel
theorem dZ_settles_57 : decode bZ_settles 57 = .ok (.iconst 5, 1) := by decide +kernel
theorem dZ_settles_58 : decode bZ_settles 58 = .ok (.iload_n 1, 1) := by decide +kernel
theorem dZ_settles_59 : decode bZ_settles 59 = .ok (.iadd, 1) := by decide +kernel
theorem dZ_settles_60 : decode bZ_settles 60 = .ok (.iaload, 1) := by decide +kernel
theorem dZ_settles_61 : decode bZ_settles 61 = .ok (.iastore, 1) := by decide +kernel
theorem dZ_settles_62 : decode bZ_settles 62 = .ok (.aload_n 0, 1) := by decide +kernel
theorem dZ_settles_63 : decode bZ_settles 63 = .ok (.getfield 22, 3) := by decide +kernel
theorem dZ_settles_66 : decode bZ_settles 66 = .ok (.iload_n 1, 1) := by decide +kernel
theorem dZ_settles_67 : decode bZ_settles 67 = .ok (.aload_n 0, 1) := by decide +kernel
theorem dZ_settles_68 : decode bZ_settles 68 = .ok (.getfield 22, 3) := by decide +kernel
theorem dZ_settles_71 : decode bZ_settles 71 = .ok (.iconst 5, 1) := by decide +kernel
theorem dZ_settles_72 : decode bZ_settles 72 = .ok (.iload_n 1, 1) := by decide +kernel
theorem dZ_settles_73 : decode bZ_settles 73 = .ok (.iadd, 1) := by decide +kernel
theorem dZ_settles_74 : decode bZ_settles 74 = .ok (.iaload, 1) := by decide +kernel
theorem dZ_settles_75 : decode bZ_settles 75 = .ok (.iastore, 1) := by decide +kernel
theorem dZ_settles_76 : decode bZ_settles 76 = .ok (.iinc 1 1, 3) := by decide +kernel
theorem dZ_settles_79 : decode bZ_settles 79 = .ok (.goto (-50), 3) := by decide +kernel
theorem dZ_settles_82 : decode bZ_settles 82 = .ok (.iconst 0, 1) := by decide +kernel
theorem dZ_settles_83 : decode bZ_settles 83 = .ok (.istore_n 1, 1) := by decide +kernel
theorem dZ_settles_84 : decode bZ_settles 84 = .ok (.iload_n 1, 1) := by decide +kernel
theorem dZ_settles_85 : decode bZ_settles 85 = .ok (.iconst 4, 1) := by decide +kernel
theorem dZ_settles_86 : decode bZ_settles 86 = .ok (.if_icmp .ge 23, 3) := by decide +kernel
theorem dZ_settles_89 : decode bZ_settles 89 = .ok (.aload_n 0, 1) := by decide +kernel
theorem dZ_settles_90 : decode bZ_settles 90 = .ok (.getfield 25, 3) := by decide +kernel
theorem dZ_settles_93 : decode bZ_settles 93 = .ok (.iload_n 1, 1) := by decide +kernel
theorem dZ_settles_94 : decode bZ_settles 94 = .ok (.aload_n 0, 1) := by decide +kernel
theorem dZ_settles_95 : decode bZ_settles 95 = .ok (.getfield 25, 3) := by decide +kernel
theorem dZ_settles_98 : decode bZ_settles 98 = .ok (.iconst 4, 1) := by decide +kernel
theorem dZ_settles_99 : decode bZ_settles 99 = .ok (.iload_n 1, 1) := by decide +kernel
theorem dZ_settles_100 : decode bZ_settles 100 = .ok (.iadd, 1) := by decide +kernel
theorem dZ_settles_101 : decode bZ_settles 101 = .ok (.iaload, 1) := by decide +kernel
theorem dZ_settles_102 : decode bZ_settles 102 = .ok (.iastore, 1) := by decide +kernel
theorem dZ_settles_103 : decode bZ_settles 103 = .ok (.iinc 1 1, 3) := by decide +kernel
theorem dZ_settles_106 : decode bZ_settles 106 = .ok (.goto (-22), 3) := by decide +kernel
theorem dZ_settles_109 : decode bZ_settles 109 = .ok (.iconst 0, 1) := by decide +kernel
theorem dZ_settles_110 : decode bZ_settles 110 = .ok (.istore_n 1, 1) := by decide +kernel
theorem dZ_settles_111 : decode bZ_settles 111 = .ok (.iload_n 1, 1) := by decide +kernel
theorem dZ_settles_112 : decode bZ_settles 112 = .ok (.sipush 212, 3) := by decide +kernel
theorem dZ_settles_115 : decode bZ_settles 115 = .ok (.if_icmp .ge 16, 3) := by decide +kernel
theorem dZ_settles_118 : decode bZ_settles 118 = .ok (.aload_n 0, 1) := by decide +kernel
theorem dZ_settles_119 : decode bZ_settles 119 = .ok (.getfield 28, 3) := by decide +kernel
theorem dZ_settles_122 : decode bZ_settles 122 = .ok (.iload_n 1, 1) := by decide +kernel
theorem dZ_settles_123 : decode bZ_settles 123 = .ok (.iconst 0, 1) := by decide +kernel
theorem dZ_settles_124 : decode bZ_settles 124 = .ok (.iastore, 1) := by decide +kernel
theorem dZ_settles_125 : decode bZ_settles 125 = .ok (.iinc 1 1, 3) := by decide +kernel
theorem dZ_settles_128 : decode bZ_settles 128 = .ok (.goto (-17), 3) := by decide +kernel
theorem dZ_settles_131 : decode bZ_settles 131 = .ok (.aload_n 0, 1) := by decide +kernel
theorem dZ_settles_132 : decode bZ_settles 132 = .ok (.iconst 0, 1) := by decide +kernel
theorem dZ_settles_133 : decode bZ_settles 133 = .ok (.putfield 76, 3) := by decide +kernel
theorem dZ_settles_136 : decode bZ_settles 136 = .ok (.aload_n 0, 1) := by decide +kernel
theorem dZ_settles_137 : decode bZ_settles 137 = .ok (.iconst 0, 1) := by decide +kernel
theorem dZ_settles_138 : decode bZ_settles 138 = .ok (.putfield 127, 3) := by decide +kernel
theorem dZ_settles_141 : decode bZ_settles 141 = .ok (.aload_n 0, 1) := by decide +kernel
theorem dZ_settles_142 : decode bZ_settles 142 = .ok (.iconst 0, 1) := by decide +kernel
theorem dZ_settles_143 : decode bZ_settles 143 = .ok (.putfield 130, 3) := by decide +kernel
theorem dZ_settles_146 : decode bZ_settles 146 = .ok (.aload_n 0, 1) := by decide +kernel
theorem dZ_settles_147 : decode bZ_settles 147 = .ok (.iconst 0, 1) := by decide +kernel
theorem dZ_settles_148 : decode bZ_settles 148 = .ok (.putfield 133, 3) := by decide +kernel
theorem dZ_settles_151 : decode bZ_settles 151 = .ok (.aload_n 0, 1) := by decide +kernel
theorem dZ_settles_152 : decode bZ_settles 152 = .ok (.getfield 34, 3) := by decide +kernel
theorem dZ_settles_155 : decode bZ_settles 155 = .ok (.iconst 0, 1) := by decide +kernel
theorem dZ_settles_156 : decode bZ_settles 156 = .ok (.iconst 0, 1) := by decide +kernel
theorem dZ_settles_157 : decode bZ_settles 157 = .ok (.bastore, 1) := by decide +kernel
theorem dZ_settles_158 : decode bZ_settles 158 = .ok (.aload_n 0, 1) := by decide +kernel
theorem dZ_settles_159 : decode bZ_settles 159 = .ok (.getfield 34, 3) := by decide +kernel
theorem dZ_settles_162 : decode bZ_settles 162 = .ok (.iconst 1, 1) := by decide +kernel
theorem dZ_settles_163 : decode bZ_settles 163 = .ok (.iconst 0, 1) := by decide +kernel
theorem dZ_settles_164 : decode bZ_settles 164 = .ok (.bastore, 1) := by decide +kernel
theorem dZ_settles_165 : decode bZ_settles 165 = .ok (.return_, 1) := by decide +kernel
theorem dZ_type_0 : decode bZ_type 0 = .ok (.aload_n 0, 1) := by decide +kernel
theorem dZ_type_1 : decode bZ_type 1 = .ok (.iconst 0, 1) := by decide +kernel
theorem dZ_type_2 : decode bZ_type 2 = .ok (.putfield 68, 3) := by decide +kernel
theorem dZ_type_5 : decode bZ_type 5 = .ok (.iload_n 1, 1) := by decide +kernel
theorem dZ_type_6 : decode bZ_type 6 = .ok (.iconst 0, 1) := by decide +kernel
theorem dZ_type_7 : decode bZ_type 7 = .ok (.sipush 255, 3) := by decide +kernel
theorem dZ_type_10 : decode bZ_type 10 = .ok (.invokestatic 72, 3) := by decide +kernel
theorem dZ_type_13 : decode bZ_type 13 = .ok (.ifCond .ne 5, 3) := by decide +kernel
theorem dZ_type_16 : decode bZ_type 16 = .ok (.iconst (-1), 1) := by decide +kernel
theorem dZ_type_17 : decode bZ_type 17 = .ok (.ireturn, 1) := by decide +kernel
theorem dZ_type_18 : decode bZ_type 18 = .ok (.aload_n 0, 1) := by decide +kernel
theorem dZ_type_19 : decode bZ_type 19 = .ok (.getfield 76, 3) := by decide +kernel
theorem dZ_type_22 : decode bZ_type 22 = .ok (.bipush 120, 2) := by decide +kernel
theorem dZ_type_24 : decode bZ_type 24 = .ok (.if_icmp .ne 6, 3) := by decide +kernel
theorem dZ_type_27 : decode bZ_type 27 = .ok (.bipush (-3), 2) := by decide +kernel
theorem dZ_type_29 : decode bZ_type 29 = .ok (.ireturn, 1) := by decide +kernel
theorem dZ_type_30 : decode bZ_type 30 = .ok (.aload_n 0, 1) := by decide +kernel
theorem dZ_type_31 : decode bZ_type 31 = .ok (.getfield 7, 3) := by decide +kernel
theorem dZ_type_34 : decode bZ_type 34 = .ok (.aload_n 0, 1) := by decide +kernel
theorem dZ_type_35 : decode bZ_type 35 = .ok (.getfield 76, 3) := by decide +kernel
theorem dZ_type_38 : decode bZ_type 38 = .ok (.iload_n 1, 1) := by decide +kernel
theorem dZ_type_39 : decode bZ_type 39 = .ok (.iastore, 1) := by decide +kernel
theorem dZ_type_40 : decode bZ_type 40 = .ok (.aload_n 0, 1) := by decide +kernel
theorem dZ_type_41 : decode bZ_type 41 = .ok (.dup, 1) := by decide +kernel
theorem dZ_type_42 : decode bZ_type 42 = .ok (.getfield 76, 3) := by decide +kernel
theorem dZ_type_45 : decode bZ_type 45 = .ok (.iconst 1, 1) := by decide +kernel
theorem dZ_type_46 : decode bZ_type 46 = .ok (.iadd, 1) := by decide +kernel
theorem dZ_type_47 : decode bZ_type 47 = .ok (.putfield 76, 3) := by decide +kernel
theorem dZ_type_50 : decode bZ_type 50 = .ok (.aload_n 0, 1) := by decide +kernel
theorem dZ_type_51 : decode bZ_type 51 = .ok (.getfield 76, 3) := by decide +kernel
theorem dZ_type_54 : decode bZ_type 54 = .ok (.ireturn, 1) := by decide +kernel
theorem dZ_in_0 : decode bZ_in 0 = .ok (.iload_n 0, 1) := by decide +kernel
theorem dZ_in_1 : decode bZ_in 1 = .ok (.iload_n 1, 1) := by decide +kernel
theorem dZ_in_2 : decode bZ_in 2 = .ok (.if_icmp .lt 12, 3) := by decide +kernel
theorem dZ_in_5 : decode bZ_in 5 = .ok (.iload_n 0, 1) := by decide +kernel
theorem dZ_in_6 : decode bZ_in 6 = .ok (.iload_n 2, 1) := by decide +kernel
theorem dZ_in_7 : decode bZ_in 7 = .ok (.if_icmp .gt 7, 3) := by decide +kernel
theorem dZ_in_10 : decode bZ_in 10 = .ok (.iconst 1, 1) := by decide +kernel
theorem dZ_in_11 : decode bZ_in 11 = .ok (.goto 4, 3) := by decide +kernel
theorem dZ_in_14 : decode bZ_in 14 = .ok (.iconst 0, 1) := by decide +kernel
theorem dZ_in_15 : decode bZ_in 15 = .ok (.ireturn, 1) := by decide +kernel
theorem dZ_clear_0 : decode bZ_clear 0 = .ok (.aload_n 0, 1) := by decide +kernel
theorem dZ_clear_1 : decode bZ_clear 1 = .ok (.iconst 0, 1) := by decide +kernel
theorem dZ_clear_2 : decode bZ_clear 2 = .ok (.putfield 68, 3) := by decide +kernel
theorem dZ_clear_5 : decode bZ_clear 5 = .ok (.aload_n 0, 1) := by decide +kernel
theorem dZ_clear_6 : decode bZ_clear 6 = .ok (.getfield 76, 3) := by decide +kernel
theorem dZ_clear_9 : decode bZ_clear 9 = .ok (.istore_n 1, 1) := by decide +kernel
theorem dZ_clear_10 : decode bZ_clear 10 = .ok (.aload_n 0, 1) := by decide +kernel
theorem dZ_clear_11 : decode bZ_clear 11 = .ok (.iconst 0, 1) := by decide +kernel
theorem dZ_clear_12 : decode bZ_clear 12 = .ok (.putfield 76, 3) := by decide +kernel
theorem dZ_clear_15 : decode bZ_clear 15 = .ok (.iload_n 1, 1) := by decide +kernel
theorem dZ_clear_16 : decode bZ_clear 16 = .ok (.ireturn, 1) := by decide +kernel
theorem dZ_ladder_0 : decode bZ_ladder 0 = .ok (.aload_n 0, 1) := by decide +kernel
theorem dZ_ladder_1 : decode bZ_ladder 1 = .ok (.iconst 0, 1) := by decide +kernel
theorem dZ_ladder_2 : decode bZ_ladder 2 = .ok (.putfield 68, 3) := by decide +kernel
theorem dZ_ladder_5 : decode bZ_ladder 5 = .ok (.aload_n 0, 1) := by decide +kernel
theorem dZ_ladder_6 : decode bZ_ladder 6 = .ok (.iconst (-1), 1) := by decide +kernel
theorem dZ_ladder_7 : decode bZ_ladder 7 = .ok (.putfield 99, 3) := by decide +kernel
theorem dZ_ladder_10 : decode bZ_ladder 10 = .ok (.aload_n 0, 1) := by decide +kernel
theorem dZ_ladder_11 : decode bZ_ladder 11 = .ok (.iconst 0, 1) := by decide +kernel
theorem dZ_ladder_12 : decode bZ_ladder 12 = .ok (.putfield 79, 3) := by decide +kernel
theorem dZ_ladder_15 : decode bZ_ladder 15 = .ok (.aload_n 0, 1) := by decide +kernel
theorem dZ_ladder_16 : decode bZ_ladder 16 = .ok (.invokevirtual 62, 3) := by decide +kernel
theorem dZ_ladder_19 : decode bZ_ladder 19 = .ok (.iconst 0, 1) := by decide +kernel
theorem dZ_ladder_20 : decode bZ_ladder 20 = .ok (.istore_n 1, 1) := by decide +kernel
theorem dZ_ladder_21 : decode bZ_ladder 21 = .ok (.aload_n 0, 1) := by decide +kernel
theorem dZ_ladder_22 : decode bZ_ladder 22 = .ok (.invokevirtual 106, 3) := by decide +kernel
theorem dZ_ladder_25 : decode bZ_ladder 25 = .ok (.aload_n 0, 1) := by decide +kernel
theorem dZ_ladder_26 : decode bZ_ladder 26 = .ok (.invokevirtual 102, 3) := by decide +kernel
theorem dZ_ladder_29 : decode bZ_ladder 29 = .ok (.ifCond .eq 71, 3) := by decide +kernel
theorem dZ_ladder_32 : decode bZ_ladder 32 = .ok (.aload_n 0, 1) := by decide +kernel
theorem dZ_ladder_33 : decode bZ_ladder 33 = .ok (.getfield 89, 3) := by decide +kernel
theorem dZ_ladder_36 : decode bZ_ladder 36 = .ok (.ifCond .eq 64, 3) := by decide +kernel
theorem dZ_ladder_39 : decode bZ_ladder 39 = .ok (.aload_n 0, 1) := by decide +kernel
theorem dZ_ladder_40 : decode bZ_ladder 40 = .ok (.aload_n 0, 1) := by decide +kernel
theorem dZ_ladder_41 : decode bZ_ladder 41 = .ok (.getfield 89, 3) := by decide +kernel
theorem dZ_ladder_44 : decode bZ_ladder 44 = .ok (.iconst 1, 1) := by decide +kernel
theorem dZ_ladder_45 : decode bZ_ladder 45 = .ok (.if_icmp .ne 14, 3) := by decide +kernel
theorem dZ_ladder_48 : decode bZ_ladder 48 = .ok (.aload_n 0, 1) := by decide +kernel
theorem dZ_ladder_49 : decode bZ_ladder 49 = .ok (.invokevirtual 120, 3) := by decide +kernel
theorem dZ_ladder_52 : decode bZ_ladder 52 = .ok (.ifCond .eq 7, 3) := by decide +kernel
theorem dZ_ladder_55 : decode bZ_ladder 55 = .ok (.iconst 1, 1) := by decide +kernel
theorem dZ_ladder_56 : decode bZ_ladder 56 = .ok (.goto 4, 3) := by decide +kernel
theorem dZ_ladder_59 : decode bZ_ladder 59 = .ok (.iconst 0, 1) := by decide +kernel
theorem dZ_ladder_60 : decode bZ_ladder 60 = .ok (.invokevirtual 109, 3) := by decide +kernel
theorem dZ_ladder_63 : decode bZ_ladder 63 = .ok (.istore_n 2, 1) := by decide +kernel
theorem dZ_ladder_64 : decode bZ_ladder 64 = .ok (.aload_n 0, 1) := by decide +kernel
theorem dZ_ladder_65 : decode bZ_ladder 65 = .ok (.invokevirtual 102, 3) := by decide +kernel
theorem dZ_ladder_68 : decode bZ_ladder 68 = .ok (.ifCond .eq 8, 3) := by decide +kernel
theorem dZ_ladder_71 : decode bZ_ladder 71 = .ok (.aload_n 0, 1) := by decide +kernel
theorem dZ_ladder_72 : decode bZ_ladder 72 = .ok (.iload_n 2, 1) := by decide +kernel
theorem dZ_ladder_73 : decode bZ_ladder 73 = .ok (.invokevirtual 123, 3) := by decide +kernel
theorem dZ_ladder_76 : decode bZ_ladder 76 = .ok (.aload_n 0, 1) := by decide +kernel
theorem dZ_ladder_77 : decode bZ_ladder 77 = .ok (.aload_n 0, 1) := by decide +kernel
theorem dZ_ladder_78 : decode bZ_ladder 78 = .ok (.getfield 89, 3) := by decide +kernel
theorem dZ_ladder_81 : decode bZ_ladder 81 = .ok (.iconst 3, 1) := by decide +kernel
theorem dZ_ladder_82 : decode bZ_ladder 82 = .ok (.if_icmp .ne 7, 3) := by decide +kernel
theorem dZ_ladder_85 : decode bZ_ladder 85 = .ok (.iconst 1, 1) := by decide +kernel
theorem dZ_ladder_86 : decode bZ_ladder 86 = .ok (.goto 4, 3) := by decide +kernel
theorem dZ_ladder_89 : decode bZ_ladder 89 = .ok (.iconst 0, 1) := by decide +kernel
theorem dZ_ladder_90 : decode bZ_ladder 90 = .ok (.invokevirtual 109, 3) := by decide +kernel
theorem dZ_ladder_93 : decode bZ_ladder 93 = .ok (.pop, 1) := by decide +kernel
theorem dZ_ladder_94 : decode bZ_ladder 94 = .ok (.iinc 1 1, 3) := by decide +kernel
theorem dZ_ladder_97 : decode bZ_ladder 97 = .ok (.goto (-72), 3) := by decide +kernel
theorem dZ_ladder_100 : decode bZ_ladder 100 = .ok (.aload_n 0, 1) := by decide +kernel
theorem dZ_ladder_101 : decode bZ_ladder 101 = .ok (.invokevirtual 102, 3) := by decide +kernel
theorem dZ_ladder_104 : decode bZ_ladder 104 = .ok (.ifCond .ne 11, 3) := by decide +kernel
theorem dZ_ladder_107 : decode bZ_ladder 107 = .ok (.bipush (-10), 2) := by decide +kernel
theorem dZ_ladder_109 : decode bZ_ladder 109 = .ok (.aload_n 0, 1) := by decide +kernel
theorem dZ_ladder_110 : decode bZ_ladder 110 = .ok (.getfield 99, 3) := by decide +kernel
theorem dZ_ladder_113 : decode bZ_ladder 113 = .ok (.isub, 1) := by decide +kernel
theorem dZ_ladder_114 : decode bZ_ladder 114 = .ok (.ireturn, 1) := by decide +kernel
theorem dZ_ladder_115 : decode bZ_ladder 115 = .ok (.aload_n 0, 1) := by decide +kernel
theorem dZ_ladder_116 : decode bZ_ladder 116 = .ok (.invokevirtual 65, 3) := by decide +kernel
theorem dZ_ladder_119 : decode bZ_ladder 119 = .ok (.iload_n 1, 1) := by decide +kernel
theorem dZ_ladder_120 : decode bZ_ladder 120 = .ok (.ireturn, 1) := by decide +kernel
theorem dZ_advances_0 : decode bZ_advances 0 = .ok (.aload_n 0, 1) := by decide +kernel
theorem dZ_advances_1 : decode bZ_advances 1 = .ok (.aload_n 0, 1) := by decide +kernel
theorem dZ_advances_2 : decode bZ_advances 2 = .ok (.getfield 79, 3) := by decide +kernel
theorem dZ_advances_5 : decode bZ_advances 5 = .ok (.invokevirtual 82, 3) := by decide +kernel
theorem dZ_advances_8 : decode bZ_advances 8 = .ok (.bipush 32, 2) := by decide +kernel
theorem dZ_advances_10 : decode bZ_advances 10 = .ok (.if_icmp .ne 16, 3) := by decide +kernel
theorem dZ_advances_13 : decode bZ_advances 13 = .ok (.aload_n 0, 1) := by decide +kernel
theorem dZ_advances_14 : decode bZ_advances 14 = .ok (.dup, 1) := by decide +kernel
theorem dZ_advances_15 : decode bZ_advances 15 = .ok (.getfield 79, 3) := by decide +kernel
theorem dZ_advances_18 : decode bZ_advances 18 = .ok (.iconst 1, 1) := by decide +kernel
theorem dZ_advances_19 : decode bZ_advances 19 = .ok (.iadd, 1) := by decide +kernel
theorem dZ_advances_20 : decode bZ_advances 20 = .ok (.putfield 79, 3) := by decide +kernel
theorem dZ_advances_23 : decode bZ_advances 23 = .ok (.goto (-23), 3) := by decide +kernel
theorem dZ_advances_26 : decode bZ_advances 26 = .ok (.aload_n 0, 1) := by decide +kernel
theorem dZ_advances_27 : decode bZ_advances 27 = .ok (.aload_n 0, 1) := by decide +kernel
theorem dZ_advances_28 : decode bZ_advances 28 = .ok (.getfield 79, 3) := by decide +kernel
theorem dZ_advances_31 : decode bZ_advances 31 = .ok (.putfield 86, 3) := by decide +kernel
theorem dZ_advances_34 : decode bZ_advances 34 = .ok (.aload_n 0, 1) := by decide +kernel
theorem dZ_advances_35 : decode bZ_advances 35 = .ok (.aload_n 0, 1) := by decide +kernel
theorem dZ_advances_36 : decode bZ_advances 36 = .ok (.getfield 79, 3) := by decide +kernel
theorem dZ_advances_39 : decode bZ_advances 39 = .ok (.invokevirtual 82, 3) := by decide +kernel
theorem dZ_advances_42 : decode bZ_advances 42 = .ok (.istore_n 1, 1) := by decide +kernel
theorem dZ_advances_43 : decode bZ_advances 43 = .ok (.iload_n 1, 1) := by decide +kernel
theorem dZ_advances_44 : decode bZ_advances 44 = .ok (.ifCond .ge 11, 3) := by decide +kernel
theorem dZ_advances_47 : decode bZ_advances 47 = .ok (.aload_n 0, 1) := by decide +kernel
theorem dZ_advances_48 : decode bZ_advances 48 = .ok (.iconst 0, 1) := by decide +kernel
theorem dZ_advances_49 : decode bZ_advances 49 = .ok (.putfield 89, 3) := by decide +kernel
theorem dZ_advances_52 : decode bZ_advances 52 = .ok (.goto 170, 3) := by decide +kernel
theorem dZ_advances_55 : decode bZ_advances 55 = .ok (.iload_n 1, 1) := by decide +kernel
theorem dZ_advances_56 : decode bZ_advances 56 = .ok (.bipush 48, 2) := by decide +kernel
theorem dZ_advances_58 : decode bZ_advances 58 = .ok (.bipush 57, 2) := by decide +kernel
theorem dZ_advances_60 : decode bZ_advances 60 = .ok (.invokestatic 72, 3) := by decide +kernel
theorem dZ_advances_63 : decode bZ_advances 63 = .ok (.ifCond .eq 118, 3) := by decide +kernel
theorem dZ_advances_66 : decode bZ_advances 66 = .ok (.aload_n 0, 1) := by decide +kernel
theorem dZ_advances_67 : decode bZ_advances 67 = .ok (.iconst 0, 1) := by decide +kernel
theorem dZ_advances_68 : decode bZ_advances 68 = .ok (.putfield 92, 3) := by decide +kernel
theorem dZ_advances_71 : decode bZ_advances 71 = .ok (.aload_n 0, 1) := by decide +kernel
theorem dZ_advances_72 : decode bZ_advances 72 = .ok (.aload_n 0, 1) := by decide +kernel
theorem dZ_advances_73 : decode bZ_advances 73 = .ok (.getfield 79, 3) := by decide +kernel
theorem dZ_advances_76 : decode bZ_advances 76 = .ok (.invokevirtual 82, 3) := by decide +kernel
theorem dZ_advances_79 : decode bZ_advances 79 = .ok (.bipush 48, 2) := by decide +kernel
theorem dZ_advances_81 : decode bZ_advances 81 = .ok (.bipush 57, 2) := by decide +kernel
theorem dZ_advances_83 : decode bZ_advances 83 = .ok (.invokestatic 72, 3) := by decide +kernel
theorem dZ_advances_86 : decode bZ_advances 86 = .ok (.ifCond .eq 55, 3) := by decide +kernel
theorem dZ_advances_89 : decode bZ_advances 89 = .ok (.aload_n 0, 1) := by decide +kernel
theorem dZ_advances_90 : decode bZ_advances 90 = .ok (.aload_n 0, 1) := by decide +kernel
theorem dZ_advances_91 : decode bZ_advances 91 = .ok (.getfield 92, 3) := by decide +kernel
theorem dZ_advances_94 : decode bZ_advances 94 = .ok (.bipush 99, 2) := by decide +kernel
theorem dZ_advances_96 : decode bZ_advances 96 = .ok (.if_icmp .le 10, 3) := by decide +kernel
theorem dZ_advances_99 : decode bZ_advances 99 = .ok (.aload_n 0, 1) := by decide +kernel
theorem dZ_advances_100 : decode bZ_advances 100 = .ok (.getfield 92, 3) := by decide +kernel
theorem dZ_advances_103 : decode bZ_advances 103 = .ok (.goto 22, 3) := by decide +kernel
theorem dZ_advances_106 : decode bZ_advances 106 = .ok (.bipush 10, 2) := by decide +kernel
theorem dZ_advances_108 : decode bZ_advances 108 = .ok (.aload_n 0, 1) := by decide +kernel
theorem dZ_advances_109 : decode bZ_advances 109 = .ok (.getfield 92, 3) := by decide +kernel
theorem dZ_advances_112 : decode bZ_advances 112 = .ok (.imul, 1) := by decide +kernel
theorem dZ_advances_113 : decode bZ_advances 113 = .ok (.aload_n 0, 1) := by decide +kernel
theorem dZ_advances_114 : decode bZ_advances 114 = .ok (.aload_n 0, 1) := by decide +kernel
theorem dZ_advances_115 : decode bZ_advances 115 = .ok (.getfield 79, 3) := by decide +kernel
theorem dZ_advances_118 : decode bZ_advances 118 = .ok (.invokevirtual 82, 3) := by decide +kernel
theorem dZ_advances_121 : decode bZ_advances 121 = .ok (.iadd, 1) := by decide +kernel
theorem dZ_advances_122 : decode bZ_advances 122 = .ok (.bipush 48, 2) := by decide +kernel
theorem dZ_advances_124 : decode bZ_advances 124 = .ok (.isub, 1) := by decide +kernel
theorem dZ_advances_125 : decode bZ_advances 125 = .ok (.putfield 92, 3) := by decide +kernel
theorem dZ_advances_128 : decode bZ_advances 128 = .ok (.aload_n 0, 1) := by decide +kernel
theorem dZ_advances_129 : decode bZ_advances 129 = .ok (.dup, 1) := by decide +kernel
theorem dZ_advances_130 : decode bZ_advances 130 = .ok (.getfield 79, 3) := by decide +kernel
theorem dZ_advances_133 : decode bZ_advances 133 = .ok (.iconst 1, 1) := by decide +kernel
theorem dZ_advances_134 : decode bZ_advances 134 = .ok (.iadd, 1) := by decide +kernel
theorem dZ_advances_135 : decode bZ_advances 135 = .ok (.putfield 79, 3) := by decide +kernel
theorem dZ_advances_138 : decode bZ_advances 138 = .ok (.goto (-67), 3) := by decide +kernel
theorem dZ_advances_141 : decode bZ_advances 141 = .ok (.aload_n 0, 1) := by decide +kernel
theorem dZ_advances_142 : decode bZ_advances 142 = .ok (.aload_n 0, 1) := by decide +kernel
theorem dZ_advances_143 : decode bZ_advances 143 = .ok (.getfield 92, 3) := by decide +kernel
theorem dZ_advances_146 : decode bZ_advances 146 = .ok (.bipush 99, 2) := by decide +kernel
theorem dZ_advances_148 : decode bZ_advances 148 = .ok (.if_icmp .gt 22, 3) := by decide +kernel
theorem dZ_advances_151 : decode bZ_advances 151 = .ok (.iload_n 1, 1) := by decide +kernel
theorem dZ_advances_152 : decode bZ_advances 152 = .ok (.bipush 48, 2) := by decide +kernel
theorem dZ_advances_154 : decode bZ_advances 154 = .ok (.if_icmp .ne 20, 3) := by decide +kernel
theorem dZ_advances_157 : decode bZ_advances 157 = .ok (.aload_n 0, 1) := by decide +kernel
theorem dZ_advances_158 : decode bZ_advances 158 = .ok (.getfield 79, 3) := by decide +kernel
theorem dZ_advances_161 : decode bZ_advances 161 = .ok (.aload_n 0, 1) := by decide +kernel
theorem dZ_advances_162 : decode bZ_advances 162 = .ok (.getfield 86, 3) := by decide +kernel
theorem dZ_advances_165 : decode bZ_advances 165 = .ok (.isub, 1) := by decide +kernel
theorem dZ_advances_166 : decode bZ_advances 166 = .ok (.iconst 1, 1) := by decide +kernel
theorem dZ_advances_167 : decode bZ_advances 167 = .ok (.if_icmp .le 7, 3) := by decide +kernel
theorem dZ_advances_170 : decode bZ_advances 170 = .ok (.iconst 4, 1) := by decide +kernel
theorem dZ_advances_171 : decode bZ_advances 171 = .ok (.goto 4, 3) := by decide +kernel
theorem dZ_advances_174 : decode bZ_advances 174 = .ok (.iconst 2, 1) := by decide +kernel
theorem dZ_advances_175 : decode bZ_advances 175 = .ok (.putfield 89, 3) := by decide +kernel
theorem dZ_advances_178 : decode bZ_advances 178 = .ok (.goto 44, 3) := by decide +kernel
theorem dZ_advances_181 : decode bZ_advances 181 = .ok (.aload_n 0, 1) := by decide +kernel
theorem dZ_advances_182 : decode bZ_advances 182 = .ok (.dup, 1) := by decide +kernel
theorem dZ_advances_183 : decode bZ_advances 183 = .ok (.getfield 79, 3) := by decide +kernel
theorem dZ_advances_186 : decode bZ_advances 186 = .ok (.iconst 1, 1) := by decide +kernel
theorem dZ_advances_187 : decode bZ_advances 187 = .ok (.iadd, 1) := by decide +kernel
theorem dZ_advances_188 : decode bZ_advances 188 = .ok (.putfield 79, 3) := by decide +kernel
theorem dZ_advances_191 : decode bZ_advances 191 = .ok (.aload_n 0, 1) := by decide +kernel
theorem dZ_advances_192 : decode bZ_advances 192 = .ok (.iload_n 1, 1) := by decide +kernel
theorem dZ_advances_193 : decode bZ_advances 193 = .ok (.putfield 92, 3) := by decide +kernel
theorem dZ_advances_196 : decode bZ_advances 196 = .ok (.aload_n 0, 1) := by decide +kernel
theorem dZ_advances_197 : decode bZ_advances 197 = .ok (.iload_n 1, 1) := by decide +kernel
theorem dZ_advances_198 : decode bZ_advances 198 = .ok (.bipush 59, 2) := by decide +kernel
theorem dZ_advances_200 : decode bZ_advances 200 = .ok (.if_icmp .ne 7, 3) := by decide +kernel
theorem dZ_advances_203 : decode bZ_advances 203 = .ok (.iconst 3, 1) := by decide +kernel
theorem dZ_advances_204 : decode bZ_advances 204 = .ok (.goto 15, 3) := by decide +kernel
theorem dZ_advances_207 : decode bZ_advances 207 = .ok (.iload_n 1, 1) := by decide +kernel
theorem dZ_advances_208 : decode bZ_advances 208 = .ok (.invokestatic 95, 3) := by decide +kernel
theorem dZ_advances_211 : decode bZ_advances 211 = .ok (.ifCond .eq 7, 3) := by decide +kernel
theorem dZ_advances_214 : decode bZ_advances 214 = .ok (.iconst 1, 1) := by decide +kernel
theorem dZ_advances_215 : decode bZ_advances 215 = .ok (.goto 4, 3) := by decide +kernel
theorem dZ_advances_218 : decode bZ_advances 218 = .ok (.iconst 4, 1) := by decide +kernel
theorem dZ_advances_219 : decode bZ_advances 219 = .ok (.putfield 89, 3) := by decide +kernel
theorem dZ_advances_222 : decode bZ_advances 222 = .ok (.return_, 1) := by decide +kernel
theorem dZ_letterAt_0 : decode bZ_letterAt 0 = .ok (.iload_n 1, 1) := by decide +kernel
theorem dZ_letterAt_1 : decode bZ_letterAt 1 = .ok (.aload_n 0, 1) := by decide +kernel
theorem dZ_letterAt_2 : decode bZ_letterAt 2 = .ok (.getfield 76, 3) := by decide +kernel
theorem dZ_letterAt_5 : decode bZ_letterAt 5 = .ok (.if_icmp .ge 12, 3) := by decide +kernel
theorem dZ_letterAt_8 : decode bZ_letterAt 8 = .ok (.aload_n 0, 1) := by decide +kernel
theorem dZ_letterAt_9 : decode bZ_letterAt 9 = .ok (.getfield 7, 3) := by decide +kernel
theorem dZ_letterAt_12 : decode bZ_letterAt 12 = .ok (.iload_n 1, 1) := by decide +kernel
theorem dZ_letterAt_13 : decode bZ_letterAt 13 = .ok (.iaload, 1) := by decide +kernel
theorem dZ_letterAt_14 : decode bZ_letterAt 14 = .ok (.goto 4, 3) := by decide +kernel
theorem dZ_letterAt_17 : decode bZ_letterAt 17 = .ok (.iconst (-1), 1) := by decide +kernel
theorem dZ_letterAt_18 : decode bZ_letterAt 18 = .ok (.ireturn, 1) := by decide +kernel
theorem dZ_isLetter_0 : decode bZ_isLetter 0 = .ok (.iload_n 0, 1) := by decide +kernel
theorem dZ_isLetter_1 : decode bZ_isLetter 1 = .ok (.bipush 115, 2) := by decide +kernel
theorem dZ_isLetter_3 : decode bZ_isLetter 3 = .ok (.if_icmp .eq 21, 3) := by decide +kernel
theorem dZ_isLetter_6 : decode bZ_isLetter 6 = .ok (.iload_n 0, 1) := by decide +kernel
theorem dZ_isLetter_7 : decode bZ_isLetter 7 = .ok (.bipush 116, 2) := by decide +kernel
theorem dZ_isLetter_9 : decode bZ_isLetter 9 = .ok (.if_icmp .eq 15, 3) := by decide +kernel
theorem dZ_isLetter_12 : decode bZ_isLetter 12 = .ok (.iload_n 0, 1) := by decide +kernel
theorem dZ_isLetter_13 : decode bZ_isLetter 13 = .ok (.bipush 114, 2) := by decide +kernel
theorem dZ_isLetter_15 : decode bZ_isLetter 15 = .ok (.if_icmp .eq 9, 3) := by decide +kernel
theorem dZ_isLetter_18 : decode bZ_isLetter 18 = .ok (.iload_n 0, 1) := by decide +kernel
theorem dZ_isLetter_19 : decode bZ_isLetter 19 = .ok (.bipush 98, 2) := by decide +kernel
theorem dZ_isLetter_21 : decode bZ_isLetter 21 = .ok (.if_icmp .ne 7, 3) := by decide +kernel
theorem dZ_isLetter_24 : decode bZ_isLetter 24 = .ok (.iconst 1, 1) := by decide +kernel
theorem dZ_isLetter_25 : decode bZ_isLetter 25 = .ok (.goto 4, 3) := by decide +kernel
theorem dZ_isLetter_28 : decode bZ_isLetter 28 = .ok (.iconst 0, 1) := by decide +kernel
theorem dZ_isLetter_29 : decode bZ_isLetter 29 = .ok (.ireturn, 1) := by decide +kernel
theorem dZ_isWell_0 : decode bZ_isWell 0 = .ok (.aload_n 0, 1) := by decide +kernel
theorem dZ_isWell_1 : decode bZ_isWell 1 = .ok (.getfield 99, 3) := by decide +kernel
theorem dZ_isWell_4 : decode bZ_isWell 4 = .ok (.ifCond .ge 7, 3) := by decide +kernel
theorem dZ_isWell_7 : decode bZ_isWell 7 = .ok (.iconst 1, 1) := by decide +kernel
theorem dZ_isWell_8 : decode bZ_isWell 8 = .ok (.goto 4, 3) := by decide +kernel
theorem dZ_isWell_11 : decode bZ_isWell 11 = .ok (.iconst 0, 1) := by decide +kernel
theorem dZ_isWell_12 : decode bZ_isWell 12 = .ok (.ireturn, 1) := by decide +kernel
theorem dZ_mayBegin_0 : decode bZ_mayBegin 0 = .ok (.aload_n 0, 1) := by decide +kernel
theorem dZ_mayBegin_1 : decode bZ_mayBegin 1 = .ok (.getfield 92, 3) := by decide +kernel
theorem dZ_mayBegin_4 : decode bZ_mayBegin 4 = .ok (.bipush 115, 2) := by decide +kernel
theorem dZ_mayBegin_6 : decode bZ_mayBegin 6 = .ok (.if_icmp .eq 12, 3) := by decide +kernel
theorem dZ_mayBegin_9 : decode bZ_mayBegin 9 = .ok (.aload_n 0, 1) := by decide +kernel
theorem dZ_mayBegin_10 : decode bZ_mayBegin 10 = .ok (.getfield 92, 3) := by decide +kernel
theorem dZ_mayBegin_13 : decode bZ_mayBegin 13 = .ok (.bipush 116, 2) := by decide +kernel
theorem dZ_mayBegin_15 : decode bZ_mayBegin 15 = .ok (.if_icmp .ne 46, 3) := by decide +kernel
theorem dZ_mayBegin_18 : decode bZ_mayBegin 18 = .ok (.aload_n 0, 1) := by decide +kernel
theorem dZ_mayBegin_19 : decode bZ_mayBegin 19 = .ok (.getfield 92, 3) := by decide +kernel
theorem dZ_mayBegin_22 : decode bZ_mayBegin 22 = .ok (.bipush 115, 2) := by decide +kernel
theorem dZ_mayBegin_24 : decode bZ_mayBegin 24 = .ok (.if_icmp .ne 21, 3) := by decide +kernel
theorem dZ_mayBegin_27 : decode bZ_mayBegin 27 = .ok (.aload_n 0, 1) := by decide +kernel
theorem dZ_mayBegin_28 : decode bZ_mayBegin 28 = .ok (.getfield 13, 3) := by decide +kernel
theorem dZ_mayBegin_31 : decode bZ_mayBegin 31 = .ok (.iconst 4, 1) := by decide +kernel
theorem dZ_mayBegin_32 : decode bZ_mayBegin 32 = .ok (.iaload, 1) := by decide +kernel
theorem dZ_mayBegin_33 : decode bZ_mayBegin 33 = .ok (.iconst 5, 1) := by decide +kernel
theorem dZ_mayBegin_34 : decode bZ_mayBegin 34 = .ok (.if_icmp .ge 7, 3) := by decide +kernel
theorem dZ_mayBegin_37 : decode bZ_mayBegin 37 = .ok (.iconst 1, 1) := by decide +kernel
theorem dZ_mayBegin_38 : decode bZ_mayBegin 38 = .ok (.goto 22, 3) := by decide +kernel
theorem dZ_mayBegin_41 : decode bZ_mayBegin 41 = .ok (.iconst 0, 1) := by decide +kernel
theorem dZ_mayBegin_42 : decode bZ_mayBegin 42 = .ok (.goto 18, 3) := by decide +kernel
theorem dZ_mayBegin_45 : decode bZ_mayBegin 45 = .ok (.aload_n 0, 1) := by decide +kernel
theorem dZ_mayBegin_46 : decode bZ_mayBegin 46 = .ok (.getfield 13, 3) := by decide +kernel
theorem dZ_mayBegin_49 : decode bZ_mayBegin 49 = .ok (.iconst 5, 1) := by decide +kernel
theorem dZ_mayBegin_50 : decode bZ_mayBegin 50 = .ok (.iaload, 1) := by decide +kernel
theorem dZ_mayBegin_51 : decode bZ_mayBegin 51 = .ok (.iconst 4, 1) := by decide +kernel
theorem dZ_mayBegin_52 : decode bZ_mayBegin 52 = .ok (.if_icmp .ge 7, 3) := by decide +kernel
theorem dZ_mayBegin_55 : decode bZ_mayBegin 55 = .ok (.iconst 1, 1) := by decide +kernel
theorem dZ_mayBegin_56 : decode bZ_mayBegin 56 = .ok (.goto 4, 3) := by decide +kernel
theorem dZ_mayBegin_59 : decode bZ_mayBegin 59 = .ok (.iconst 0, 1) := by decide +kernel
theorem dZ_mayBegin_60 : decode bZ_mayBegin 60 = .ok (.ireturn, 1) := by decide +kernel
theorem dZ_mayBegin_61 : decode bZ_mayBegin 61 = .ok (.aload_n 0, 1) := by decide +kernel
theorem dZ_mayBegin_62 : decode bZ_mayBegin 62 = .ok (.getfield 113, 3) := by decide +kernel
theorem dZ_mayBegin_65 : decode bZ_mayBegin 65 = .ok (.aload_n 0, 1) := by decide +kernel
theorem dZ_mayBegin_66 : decode bZ_mayBegin 66 = .ok (.getfield 92, 3) := by decide +kernel
theorem dZ_mayBegin_69 : decode bZ_mayBegin 69 = .ok (.bipush 114, 2) := by decide +kernel
theorem dZ_mayBegin_71 : decode bZ_mayBegin 71 = .ok (.if_icmp .ne 7, 3) := by decide +kernel
theorem dZ_mayBegin_74 : decode bZ_mayBegin 74 = .ok (.iconst 1, 1) := by decide +kernel
theorem dZ_mayBegin_75 : decode bZ_mayBegin 75 = .ok (.goto 4, 3) := by decide +kernel
theorem dZ_mayBegin_78 : decode bZ_mayBegin 78 = .ok (.iconst 2, 1) := by decide +kernel
theorem dZ_mayBegin_79 : decode bZ_mayBegin 79 = .ok (.iand, 1) := by decide +kernel
theorem dZ_mayBegin_80 : decode bZ_mayBegin 80 = .ok (.ifCond .ne 7, 3) := by decide +kernel
theorem dZ_mayBegin_83 : decode bZ_mayBegin 83 = .ok (.iconst 1, 1) := by decide +kernel
theorem dZ_mayBegin_84 : decode bZ_mayBegin 84 = .ok (.goto 4, 3) := by decide +kernel
theorem dZ_mayBegin_87 : decode bZ_mayBegin 87 = .ok (.iconst 0, 1) := by decide +kernel
theorem dZ_mayBegin_88 : decode bZ_mayBegin 88 = .ok (.ireturn, 1) := by decide +kernel
theorem dZ_takes_0 : decode bZ_takes 0 = .ok (.aload_n 0, 1) := by decide +kernel
theorem dZ_takes_1 : decode bZ_takes 1 = .ok (.invokevirtual 102, 3) := by decide +kernel
theorem dZ_takes_4 : decode bZ_takes 4 = .ok (.ifCond .ne 5, 3) := by decide +kernel
theorem dZ_takes_7 : decode bZ_takes 7 = .ok (.iconst 0, 1) := by decide +kernel
theorem dZ_takes_8 : decode bZ_takes 8 = .ok (.ireturn, 1) := by decide +kernel
theorem dZ_takes_9 : decode bZ_takes 9 = .ok (.iload_n 1, 1) := by decide +kernel
theorem dZ_takes_10 : decode bZ_takes 10 = .ok (.ifCond .ne 13, 3) := by decide +kernel
theorem dZ_takes_13 : decode bZ_takes 13 = .ok (.aload_n 0, 1) := by decide +kernel
theorem dZ_takes_14 : decode bZ_takes 14 = .ok (.aload_n 0, 1) := by decide +kernel
theorem dZ_takes_15 : decode bZ_takes 15 = .ok (.getfield 86, 3) := by decide +kernel
theorem dZ_takes_18 : decode bZ_takes 18 = .ok (.putfield 99, 3) := by decide +kernel
theorem dZ_takes_21 : decode bZ_takes 21 = .ok (.iconst 0, 1) := by decide +kernel
theorem dZ_takes_22 : decode bZ_takes 22 = .ok (.ireturn, 1) := by decide +kernel
theorem dZ_takes_23 : decode bZ_takes 23 = .ok (.aload_n 0, 1) := by decide +kernel
theorem dZ_takes_24 : decode bZ_takes 24 = .ok (.getfield 92, 3) := by decide +kernel
theorem dZ_takes_27 : decode bZ_takes 27 = .ok (.istore_n 2, 1) := by decide +kernel
theorem dZ_takes_28 : decode bZ_takes 28 = .ok (.aload_n 0, 1) := by decide +kernel
theorem dZ_takes_29 : decode bZ_takes 29 = .ok (.invokevirtual 106, 3) := by decide +kernel
theorem dZ_takes_32 : decode bZ_takes 32 = .ok (.iload_n 2, 1) := by decide +kernel
theorem dZ_takes_33 : decode bZ_takes 33 = .ok (.ireturn, 1) := by decide +kernel
theorem dZ_readsItem_0 : decode bZ_readsItem 0 = .ok (.iload_n 1, 1) := by decide +kernel
theorem dZ_readsItem_1 : decode bZ_readsItem 1 = .ok (.bipush 115, 2) := by decide +kernel
theorem dZ_readsItem_3 : decode bZ_readsItem 3 = .ok (.if_icmp .ne 66, 3) := by decide +kernel
theorem dZ_readsItem_6 : decode bZ_readsItem 6 = .ok (.iconst 5, 1) := by decide +kernel
theorem dZ_readsItem_7 : decode bZ_readsItem 7 = .ok (.aload_n 0, 1) := by decide +kernel
theorem dZ_readsItem_8 : decode bZ_readsItem 8 = .ok (.getfield 13, 3) := by decide +kernel
theorem dZ_readsItem_11 : decode bZ_readsItem 11 = .ok (.iconst 4, 1) := by decide +kernel
theorem dZ_readsItem_12 : decode bZ_readsItem 12 = .ok (.iaload, 1) := by decide +kernel
theorem dZ_readsItem_13 : decode bZ_readsItem 13 = .ok (.iadd, 1) := by decide +kernel
theorem dZ_readsItem_14 : decode bZ_readsItem 14 = .ok (.istore_n 2, 1) := by decide +kernel
theorem dZ_readsItem_15 : decode bZ_readsItem 15 = .ok (.aload_n 0, 1) := by decide +kernel
theorem dZ_readsItem_16 : decode bZ_readsItem 16 = .ok (.getfield 16, 3) := by decide +kernel
theorem dZ_readsItem_19 : decode bZ_readsItem 19 = .ok (.iload_n 2, 1) := by decide +kernel
theorem dZ_readsItem_20 : decode bZ_readsItem 20 = .ok (.aload_n 0, 1) := by decide +kernel
theorem dZ_readsItem_21 : decode bZ_readsItem 21 = .ok (.iconst 1, 1) := by decide +kernel
theorem dZ_readsItem_22 : decode bZ_readsItem 22 = .ok (.bipush 20, 2) := by decide +kernel
theorem dZ_readsItem_24 : decode bZ_readsItem 24 = .ok (.invokevirtual 116, 3) := by decide +kernel
theorem dZ_readsItem_27 : decode bZ_readsItem 27 = .ok (.iastore, 1) := by decide +kernel
theorem dZ_readsItem_28 : decode bZ_readsItem 28 = .ok (.aload_n 0, 1) := by decide +kernel
theorem dZ_readsItem_29 : decode bZ_readsItem 29 = .ok (.getfield 19, 3) := by decide +kernel
theorem dZ_readsItem_32 : decode bZ_readsItem 32 = .ok (.iload_n 2, 1) := by decide +kernel
theorem dZ_readsItem_33 : decode bZ_readsItem 33 = .ok (.aload_n 0, 1) := by decide +kernel
theorem dZ_readsItem_34 : decode bZ_readsItem 34 = .ok (.iconst 1, 1) := by decide +kernel
theorem dZ_readsItem_35 : decode bZ_readsItem 35 = .ok (.bipush 20, 2) := by decide +kernel
theorem dZ_readsItem_37 : decode bZ_readsItem 37 = .ok (.invokevirtual 116, 3) := by decide +kernel
theorem dZ_readsItem_40 : decode bZ_readsItem 40 = .ok (.iastore, 1) := by decide +kernel
theorem dZ_readsItem_41 : decode bZ_readsItem 41 = .ok (.aload_n 0, 1) := by decide +kernel
theorem dZ_readsItem_42 : decode bZ_readsItem 42 = .ok (.getfield 22, 3) := by decide +kernel
theorem dZ_readsItem_45 : decode bZ_readsItem 45 = .ok (.iload_n 2, 1) := by decide +kernel
theorem dZ_readsItem_46 : decode bZ_readsItem 46 = .ok (.aload_n 0, 1) := by decide +kernel
theorem dZ_readsItem_47 : decode bZ_readsItem 47 = .ok (.iconst 0, 1) := by decide +kernel
theorem dZ_readsItem_48 : decode bZ_readsItem 48 = .ok (.bipush 6, 2) := by decide +kernel
theorem dZ_readsItem_50 : decode bZ_readsItem 50 = .ok (.invokevirtual 116, 3) := by decide +kernel
theorem dZ_readsItem_53 : decode bZ_readsItem 53 = .ok (.iconst 3, 1) := by decide +kernel
theorem dZ_readsItem_54 : decode bZ_readsItem 54 = .ok (.isub, 1) := by decide +kernel
theorem dZ_readsItem_55 : decode bZ_readsItem 55 = .ok (.iastore, 1) := by decide +kernel
theorem dZ_readsItem_56 : decode bZ_readsItem 56 = .ok (.aload_n 0, 1) := by decide +kernel
theorem dZ_readsItem_57 : decode bZ_readsItem 57 = .ok (.getfield 13, 3) := by decide +kernel
theorem dZ_readsItem_60 : decode bZ_readsItem 60 = .ok (.iconst 4, 1) := by decide +kernel
theorem dZ_readsItem_61 : decode bZ_readsItem 61 = .ok (.dup2, 1) := by decide +kernel
theorem dZ_readsItem_62 : decode bZ_readsItem 62 = .ok (.iaload, 1) := by decide +kernel
theorem dZ_readsItem_63 : decode bZ_readsItem 63 = .ok (.iconst 1, 1) := by decide +kernel
theorem dZ_readsItem_64 : decode bZ_readsItem 64 = .ok (.iadd, 1) := by decide +kernel
theorem dZ_readsItem_65 : decode bZ_readsItem 65 = .ok (.iastore, 1) := by decide +kernel
theorem dZ_readsItem_66 : decode bZ_readsItem 66 = .ok (.goto 97, 3) := by decide +kernel
theorem dZ_readsItem_69 : decode bZ_readsItem 69 = .ok (.iload_n 1, 1) := by decide +kernel
theorem dZ_readsItem_70 : decode bZ_readsItem 70 = .ok (.bipush 116, 2) := by decide +kernel
theorem dZ_readsItem_72 : decode bZ_readsItem 72 = .ok (.if_icmp .ne 36, 3) := by decide +kernel
theorem dZ_readsItem_75 : decode bZ_readsItem 75 = .ok (.aload_n 0, 1) := by decide +kernel
theorem dZ_readsItem_76 : decode bZ_readsItem 76 = .ok (.getfield 25, 3) := by decide +kernel
theorem dZ_readsItem_79 : decode bZ_readsItem 79 = .ok (.iconst 4, 1) := by decide +kernel
theorem dZ_readsItem_80 : decode bZ_readsItem 80 = .ok (.aload_n 0, 1) := by decide +kernel
theorem dZ_readsItem_81 : decode bZ_readsItem 81 = .ok (.getfield 13, 3) := by decide +kernel
theorem dZ_readsItem_84 : decode bZ_readsItem 84 = .ok (.iconst 5, 1) := by decide +kernel
theorem dZ_readsItem_85 : decode bZ_readsItem 85 = .ok (.iaload, 1) := by decide +kernel
theorem dZ_readsItem_86 : decode bZ_readsItem 86 = .ok (.iadd, 1) := by decide +kernel
theorem dZ_readsItem_87 : decode bZ_readsItem 87 = .ok (.aload_n 0, 1) := by decide +kernel
theorem dZ_readsItem_88 : decode bZ_readsItem 88 = .ok (.iconst 1, 1) := by decide +kernel
theorem dZ_readsItem_89 : decode bZ_readsItem 89 = .ok (.bipush 99, 2) := by decide +kernel
theorem dZ_readsItem_91 : decode bZ_readsItem 91 = .ok (.invokevirtual 116, 3) := by decide +kernel
theorem dZ_readsItem_94 : decode bZ_readsItem 94 = .ok (.iastore, 1) := by decide +kernel
theorem dZ_readsItem_95 : decode bZ_readsItem 95 = .ok (.aload_n 0, 1) := by decide +kernel
theorem dZ_readsItem_96 : decode bZ_readsItem 96 = .ok (.getfield 13, 3) := by decide +kernel
theorem dZ_readsItem_99 : decode bZ_readsItem 99 = .ok (.iconst 5, 1) := by decide +kernel
theorem dZ_readsItem_100 : decode bZ_readsItem 100 = .ok (.dup2, 1) := by decide +kernel
theorem dZ_readsItem_101 : decode bZ_readsItem 101 = .ok (.iaload, 1) := by decide +kernel
theorem dZ_readsItem_102 : decode bZ_readsItem 102 = .ok (.iconst 1, 1) := by decide +kernel
theorem dZ_readsItem_103 : decode bZ_readsItem 103 = .ok (.iadd, 1) := by decide +kernel
theorem dZ_readsItem_104 : decode bZ_readsItem 104 = .ok (.iastore, 1) := by decide +kernel
theorem dZ_readsItem_105 : decode bZ_readsItem 105 = .ok (.goto 58, 3) := by decide +kernel
theorem dZ_readsItem_108 : decode bZ_readsItem 108 = .ok (.aload_n 0, 1) := by decide +kernel
theorem dZ_readsItem_109 : decode bZ_readsItem 109 = .ok (.getfield 13, 3) := by decide +kernel
theorem dZ_readsItem_112 : decode bZ_readsItem 112 = .ok (.iconst 4, 1) := by decide +kernel
theorem dZ_readsItem_113 : decode bZ_readsItem 113 = .ok (.iload_n 1, 1) := by decide +kernel
theorem dZ_readsItem_114 : decode bZ_readsItem 114 = .ok (.bipush 114, 2) := by decide +kernel
theorem dZ_readsItem_116 : decode bZ_readsItem 116 = .ok (.if_icmp .ne 7, 3) := by decide +kernel
theorem dZ_readsItem_119 : decode bZ_readsItem 119 = .ok (.iconst 2, 1) := by decide +kernel
theorem dZ_readsItem_120 : decode bZ_readsItem 120 = .ok (.goto 4, 3) := by decide +kernel
theorem dZ_readsItem_123 : decode bZ_readsItem 123 = .ok (.iconst 3, 1) := by decide +kernel
theorem dZ_readsItem_124 : decode bZ_readsItem 124 = .ok (.iadd, 1) := by decide +kernel
theorem dZ_readsItem_125 : decode bZ_readsItem 125 = .ok (.aload_n 0, 1) := by decide +kernel
theorem dZ_readsItem_126 : decode bZ_readsItem 126 = .ok (.iload_n 1, 1) := by decide +kernel
theorem dZ_readsItem_127 : decode bZ_readsItem 127 = .ok (.bipush 114, 2) := by decide +kernel
theorem dZ_readsItem_129 : decode bZ_readsItem 129 = .ok (.if_icmp .ne 7, 3) := by decide +kernel
theorem dZ_readsItem_132 : decode bZ_readsItem 132 = .ok (.iconst 1, 1) := by decide +kernel
theorem dZ_readsItem_133 : decode bZ_readsItem 133 = .ok (.goto 4, 3) := by decide +kernel
theorem dZ_readsItem_136 : decode bZ_readsItem 136 = .ok (.iconst 2, 1) := by decide +kernel
theorem dZ_readsItem_137 : decode bZ_readsItem 137 = .ok (.bipush 9, 2) := by decide +kernel
theorem dZ_readsItem_139 : decode bZ_readsItem 139 = .ok (.invokevirtual 116, 3) := by decide +kernel
theorem dZ_readsItem_142 : decode bZ_readsItem 142 = .ok (.iastore, 1) := by decide +kernel
theorem dZ_readsItem_143 : decode bZ_readsItem 143 = .ok (.aload_n 0, 1) := by decide +kernel
theorem dZ_readsItem_144 : decode bZ_readsItem 144 = .ok (.dup, 1) := by decide +kernel
theorem dZ_readsItem_145 : decode bZ_readsItem 145 = .ok (.getfield 113, 3) := by decide +kernel
theorem dZ_readsItem_148 : decode bZ_readsItem 148 = .ok (.iload_n 1, 1) := by decide +kernel
theorem dZ_readsItem_149 : decode bZ_readsItem 149 = .ok (.bipush 114, 2) := by decide +kernel
theorem dZ_readsItem_151 : decode bZ_readsItem 151 = .ok (.if_icmp .ne 7, 3) := by decide +kernel
theorem dZ_readsItem_154 : decode bZ_readsItem 154 = .ok (.iconst 1, 1) := by decide +kernel
theorem dZ_readsItem_155 : decode bZ_readsItem 155 = .ok (.goto 4, 3) := by decide +kernel
theorem dZ_readsItem_158 : decode bZ_readsItem 158 = .ok (.iconst 2, 1) := by decide +kernel
theorem dZ_readsItem_159 : decode bZ_readsItem 159 = .ok (.ior, 1) := by decide +kernel
theorem dZ_readsItem_160 : decode bZ_readsItem 160 = .ok (.putfield 113, 3) := by decide +kernel
theorem dZ_readsItem_163 : decode bZ_readsItem 163 = .ok (.return_, 1) := by decide +kernel
theorem dZ_number_0 : decode bZ_number 0 = .ok (.aload_n 0, 1) := by decide +kernel
theorem dZ_number_1 : decode bZ_number 1 = .ok (.aload_n 0, 1) := by decide +kernel
theorem dZ_number_2 : decode bZ_number 2 = .ok (.getfield 89, 3) := by decide +kernel
theorem dZ_number_5 : decode bZ_number 5 = .ok (.iconst 2, 1) := by decide +kernel
theorem dZ_number_6 : decode bZ_number 6 = .ok (.if_icmp .ne 19, 3) := by decide +kernel
theorem dZ_number_9 : decode bZ_number 9 = .ok (.aload_n 0, 1) := by decide +kernel
theorem dZ_number_10 : decode bZ_number 10 = .ok (.getfield 92, 3) := by decide +kernel
theorem dZ_number_13 : decode bZ_number 13 = .ok (.iload_n 1, 1) := by decide +kernel
theorem dZ_number_14 : decode bZ_number 14 = .ok (.iload_n 2, 1) := by decide +kernel
theorem dZ_number_15 : decode bZ_number 15 = .ok (.invokestatic 72, 3) := by decide +kernel
theorem dZ_number_18 : decode bZ_number 18 = .ok (.ifCond .eq 7, 3) := by decide +kernel
theorem dZ_number_21 : decode bZ_number 21 = .ok (.iconst 1, 1) := by decide +kernel
theorem dZ_number_22 : decode bZ_number 22 = .ok (.goto 4, 3) := by decide +kernel
theorem dZ_number_25 : decode bZ_number 25 = .ok (.iconst 0, 1) := by decide +kernel
theorem dZ_number_26 : decode bZ_number 26 = .ok (.invokevirtual 109, 3) := by decide +kernel
theorem dZ_number_29 : decode bZ_number 29 = .ok (.ireturn, 1) := by decide +kernel
theorem dZ_stretch_0 : decode bZ_stretch 0 = .ok (.aload_n 0, 1) := by decide +kernel
theorem dZ_stretch_1 : decode bZ_stretch 1 = .ok (.iconst 0, 1) := by decide +kernel
theorem dZ_stretch_2 : decode bZ_stretch 2 = .ok (.putfield 68, 3) := by decide +kernel
theorem dZ_stretch_5 : decode bZ_stretch 5 = .ok (.aload_n 0, 1) := by decide +kernel
theorem dZ_stretch_6 : decode bZ_stretch 6 = .ok (.iload_n 1, 1) := by decide +kernel
theorem dZ_stretch_7 : decode bZ_stretch 7 = .ok (.invokevirtual 139, 3) := by decide +kernel
theorem dZ_stretch_10 : decode bZ_stretch 10 = .ok (.ifCond .eq 12, 3) := by decide +kernel
theorem dZ_stretch_13 : decode bZ_stretch 13 = .ok (.iload_n 2, 1) := by decide +kernel
theorem dZ_stretch_14 : decode bZ_stretch 14 = .ok (.iconst 0, 1) := by decide +kernel
theorem dZ_stretch_15 : decode bZ_stretch 15 = .ok (.iconst 3, 1) := by decide +kernel
theorem dZ_stretch_16 : decode bZ_stretch 16 = .ok (.invokestatic 72, 3) := by decide +kernel
theorem dZ_stretch_19 : decode bZ_stretch 19 = .ok (.ifCond .ne 6, 3) := by decide +kernel
theorem dZ_stretch_22 : decode bZ_stretch 22 = .ok (.ldc 142, 2) := by decide +kernel
theorem dZ_stretch_24 : decode bZ_stretch 24 = .ok (.ireturn, 1) := by decide +kernel
theorem dZ_stretch_25 : decode bZ_stretch 25 = .ok (.iload_n 2, 1) := by decide +kernel
theorem dZ_stretch_26 : decode bZ_stretch 26 = .ok (.ifCond .ne 12, 3) := by decide +kernel
theorem dZ_stretch_29 : decode bZ_stretch 29 = .ok (.aload_n 0, 1) := by decide +kernel
theorem dZ_stretch_30 : decode bZ_stretch 30 = .ok (.getfield 16, 3) := by decide +kernel
theorem dZ_stretch_33 : decode bZ_stretch 33 = .ok (.iload_n 1, 1) := by decide +kernel
theorem dZ_stretch_34 : decode bZ_stretch 34 = .ok (.iaload, 1) := by decide +kernel
theorem dZ_stretch_35 : decode bZ_stretch 35 = .ok (.goto 38, 3) := by decide +kernel
theorem dZ_stretch_38 : decode bZ_stretch 38 = .ok (.iload_n 2, 1) := by decide +kernel
theorem dZ_stretch_39 : decode bZ_stretch 39 = .ok (.iconst 1, 1) := by decide +kernel
theorem dZ_stretch_40 : decode bZ_stretch 40 = .ok (.if_icmp .ne 12, 3) := by decide +kernel
theorem dZ_stretch_43 : decode bZ_stretch 43 = .ok (.aload_n 0, 1) := by decide +kernel
theorem dZ_stretch_44 : decode bZ_stretch 44 = .ok (.getfield 19, 3) := by decide +kernel
theorem dZ_stretch_47 : decode bZ_stretch 47 = .ok (.iload_n 1, 1) := by decide +kernel
theorem dZ_stretch_48 : decode bZ_stretch 48 = .ok (.iaload, 1) := by decide +kernel
theorem dZ_stretch_49 : decode bZ_stretch 49 = .ok (.goto 24, 3) := by decide +kernel
theorem dZ_stretch_52 : decode bZ_stretch 52 = .ok (.iload_n 2, 1) := by decide +kernel
theorem dZ_stretch_53 : decode bZ_stretch 53 = .ok (.iconst 2, 1) := by decide +kernel
theorem dZ_stretch_54 : decode bZ_stretch 54 = .ok (.if_icmp .ne 12, 3) := by decide +kernel
theorem dZ_stretch_57 : decode bZ_stretch 57 = .ok (.aload_n 0, 1) := by decide +kernel
theorem dZ_stretch_58 : decode bZ_stretch 58 = .ok (.getfield 22, 3) := by decide +kernel
theorem dZ_stretch_61 : decode bZ_stretch 61 = .ok (.iload_n 1, 1) := by decide +kernel
theorem dZ_stretch_62 : decode bZ_stretch 62 = .ok (.iaload, 1) := by decide +kernel
theorem dZ_stretch_63 : decode bZ_stretch 63 = .ok (.goto 10, 3) := by decide +kernel
theorem dZ_stretch_66 : decode bZ_stretch 66 = .ok (.aload_n 0, 1) := by decide +kernel
theorem dZ_stretch_67 : decode bZ_stretch 67 = .ok (.iload_n 1, 1) := by decide +kernel
theorem dZ_stretch_68 : decode bZ_stretch 68 = .ok (.iconst 1, 1) := by decide +kernel
theorem dZ_stretch_69 : decode bZ_stretch 69 = .ok (.iadd, 1) := by decide +kernel
theorem dZ_stretch_70 : decode bZ_stretch 70 = .ok (.invokevirtual 136, 3) := by decide +kernel
theorem dZ_stretch_73 : decode bZ_stretch 73 = .ok (.ireturn, 1) := by decide +kernel
theorem dZ_isStretch_0 : decode bZ_isStretch 0 = .ok (.iload_n 1, 1) := by decide +kernel
theorem dZ_isStretch_1 : decode bZ_isStretch 1 = .ok (.iconst 0, 1) := by decide +kernel
theorem dZ_isStretch_2 : decode bZ_isStretch 2 = .ok (.aload_n 0, 1) := by decide +kernel
theorem dZ_isStretch_3 : decode bZ_isStretch 3 = .ok (.getfield 13, 3) := by decide +kernel
theorem dZ_isStretch_6 : decode bZ_isStretch 6 = .ok (.iconst 0, 1) := by decide +kernel
theorem dZ_isStretch_7 : decode bZ_isStretch 7 = .ok (.iaload, 1) := by decide +kernel
theorem dZ_isStretch_8 : decode bZ_isStretch 8 = .ok (.iconst 1, 1) := by decide +kernel
theorem dZ_isStretch_9 : decode bZ_isStretch 9 = .ok (.isub, 1) := by decide +kernel
theorem dZ_isStretch_10 : decode bZ_isStretch 10 = .ok (.invokestatic 72, 3) := by decide +kernel
theorem dZ_isStretch_13 : decode bZ_isStretch 13 = .ok (.ireturn, 1) := by decide +kernel
theorem dZ_markOf_0 : decode bZ_markOf 0 = .ok (.iconst 0, 1) := by decide +kernel
theorem dZ_markOf_1 : decode bZ_markOf 1 = .ok (.istore_n 2, 1) := by decide +kernel
theorem dZ_markOf_2 : decode bZ_markOf 2 = .ok (.iconst 0, 1) := by decide +kernel
theorem dZ_markOf_3 : decode bZ_markOf 3 = .ok (.istore_n 3, 1) := by decide +kernel
theorem dZ_markOf_4 : decode bZ_markOf 4 = .ok (.iload_n 3, 1) := by decide +kernel
theorem dZ_markOf_5 : decode bZ_markOf 5 = .ok (.iload_n 1, 1) := by decide +kernel
theorem dZ_markOf_6 : decode bZ_markOf 6 = .ok (.if_icmp .ge 18, 3) := by decide +kernel
theorem dZ_markOf_9 : decode bZ_markOf 9 = .ok (.iload_n 2, 1) := by decide +kernel
theorem dZ_markOf_10 : decode bZ_markOf 10 = .ok (.aload_n 0, 1) := by decide +kernel
theorem dZ_markOf_11 : decode bZ_markOf 11 = .ok (.getfield 16, 3) := by decide +kernel
theorem dZ_markOf_14 : decode bZ_markOf 14 = .ok (.iload_n 3, 1) := by decide +kernel
theorem dZ_markOf_15 : decode bZ_markOf 15 = .ok (.iaload, 1) := by decide +kernel
theorem dZ_markOf_16 : decode bZ_markOf 16 = .ok (.iadd, 1) := by decide +kernel
theorem dZ_markOf_17 : decode bZ_markOf 17 = .ok (.istore_n 2, 1) := by decide +kernel
theorem dZ_markOf_18 : decode bZ_markOf 18 = .ok (.iinc 3 1, 3) := by decide +kernel
theorem dZ_markOf_21 : decode bZ_markOf 21 = .ok (.goto (-17), 3) := by decide +kernel
theorem dZ_markOf_24 : decode bZ_markOf 24 = .ok (.iload_n 2, 1) := by decide +kernel
theorem dZ_markOf_25 : decode bZ_markOf 25 = .ok (.ireturn, 1) := by decide +kernel
theorem dZ_traveller_0 : decode bZ_traveller 0 = .ok (.aload_n 0, 1) := by decide +kernel
theorem dZ_traveller_1 : decode bZ_traveller 1 = .ok (.iconst 0, 1) := by decide +kernel
theorem dZ_traveller_2 : decode bZ_traveller 2 = .ok (.putfield 68, 3) := by decide +kernel
theorem dZ_traveller_5 : decode bZ_traveller 5 = .ok (.aload_n 0, 1) := by decide +kernel
theorem dZ_traveller_6 : decode bZ_traveller 6 = .ok (.iload_n 1, 1) := by decide +kernel
theorem dZ_traveller_7 : decode bZ_traveller 7 = .ok (.invokevirtual 143, 3) := by decide +kernel
theorem dZ_traveller_10 : decode bZ_traveller 10 = .ok (.ifCond .eq 12, 3) := by decide +kernel
theorem dZ_traveller_13 : decode bZ_traveller 13 = .ok (.iload_n 2, 1) := by decide +kernel
theorem dZ_traveller_14 : decode bZ_traveller 14 = .ok (.iconst 0, 1) := by decide +kernel
theorem dZ_traveller_15 : decode bZ_traveller 15 = .ok (.iconst 2, 1) := by decide +kernel
theorem dZ_traveller_16 : decode bZ_traveller 16 = .ok (.invokestatic 72, 3) := by decide +kernel
theorem dZ_traveller_19 : decode bZ_traveller 19 = .ok (.ifCond .ne 5, 3) := by decide +kernel
theorem dZ_traveller_22 : decode bZ_traveller 22 = .ok (.iconst (-1), 1) := by decide +kernel
theorem dZ_traveller_23 : decode bZ_traveller 23 = .ok (.ireturn, 1) := by decide +kernel
theorem dZ_traveller_24 : decode bZ_traveller 24 = .ok (.iload_n 2, 1) := by decide +kernel
theorem dZ_traveller_25 : decode bZ_traveller 25 = .ok (.ifCond .ne 12, 3) := by decide +kernel
theorem dZ_traveller_28 : decode bZ_traveller 28 = .ok (.aload_n 0, 1) := by decide +kernel
theorem dZ_traveller_29 : decode bZ_traveller 29 = .ok (.getfield 25, 3) := by decide +kernel
theorem dZ_traveller_32 : decode bZ_traveller 32 = .ok (.iload_n 1, 1) := by decide +kernel
theorem dZ_traveller_33 : decode bZ_traveller 33 = .ok (.iaload, 1) := by decide +kernel
theorem dZ_traveller_34 : decode bZ_traveller 34 = .ok (.goto 29, 3) := by decide +kernel
theorem dZ_traveller_37 : decode bZ_traveller 37 = .ok (.iload_n 2, 1) := by decide +kernel
theorem dZ_traveller_38 : decode bZ_traveller 38 = .ok (.iconst 1, 1) := by decide +kernel
theorem dZ_traveller_39 : decode bZ_traveller 39 = .ok (.if_icmp .ne 14, 3) := by decide +kernel
theorem dZ_traveller_42 : decode bZ_traveller 42 = .ok (.aload_n 0, 1) := by decide +kernel
theorem dZ_traveller_43 : decode bZ_traveller 43 = .ok (.getfield 28, 3) := by decide +kernel
theorem dZ_traveller_46 : decode bZ_traveller 46 = .ok (.iconst 0, 1) := by decide +kernel
theorem dZ_traveller_47 : decode bZ_traveller 47 = .ok (.iload_n 1, 1) := by decide +kernel
theorem dZ_traveller_48 : decode bZ_traveller 48 = .ok (.iadd, 1) := by decide +kernel
theorem dZ_traveller_49 : decode bZ_traveller 49 = .ok (.iaload, 1) := by decide +kernel
theorem dZ_traveller_50 : decode bZ_traveller 50 = .ok (.goto 13, 3) := by decide +kernel
theorem dZ_traveller_53 : decode bZ_traveller 53 = .ok (.aload_n 0, 1) := by decide +kernel
theorem dZ_traveller_54 : decode bZ_traveller 54 = .ok (.getfield 28, 3) := by decide +kernel
theorem dZ_traveller_57 : decode bZ_traveller 57 = .ok (.iconst 4, 1) := by decide +kernel
theorem dZ_traveller_58 : decode bZ_traveller 58 = .ok (.iaload, 1) := by decide +kernel
theorem dZ_traveller_59 : decode bZ_traveller 59 = .ok (.iload_n 1, 1) := by decide +kernel
theorem dZ_traveller_60 : decode bZ_traveller 60 = .ok (.ishr, 1) := by decide +kernel
theorem dZ_traveller_61 : decode bZ_traveller 61 = .ok (.iconst 1, 1) := by decide +kernel
theorem dZ_traveller_62 : decode bZ_traveller 62 = .ok (.iand, 1) := by decide +kernel
theorem dZ_traveller_63 : decode bZ_traveller 63 = .ok (.ireturn, 1) := by decide +kernel
theorem dZ_isTraveller_0 : decode bZ_isTraveller 0 = .ok (.iload_n 1, 1) := by decide +kernel
theorem dZ_isTraveller_1 : decode bZ_isTraveller 1 = .ok (.iconst 0, 1) := by decide +kernel
theorem dZ_isTraveller_2 : decode bZ_isTraveller 2 = .ok (.aload_n 0, 1) := by decide +kernel
theorem dZ_isTraveller_3 : decode bZ_isTraveller 3 = .ok (.getfield 13, 3) := by decide +kernel
theorem dZ_isTraveller_6 : decode bZ_isTraveller 6 = .ok (.iconst 1, 1) := by decide +kernel
theorem dZ_isTraveller_7 : decode bZ_isTraveller 7 = .ok (.iaload, 1) := by decide +kernel
theorem dZ_isTraveller_8 : decode bZ_isTraveller 8 = .ok (.iconst 1, 1) := by decide +kernel
theorem dZ_isTraveller_9 : decode bZ_isTraveller 9 = .ok (.isub, 1) := by decide +kernel
theorem dZ_isTraveller_10 : decode bZ_isTraveller 10 = .ok (.invokestatic 72, 3) := by decide +kernel
theorem dZ_isTraveller_13 : decode bZ_isTraveller 13 = .ok (.ireturn, 1) := by decide +kernel
theorem dZ_wear_0 : decode bZ_wear 0 = .ok (.aload_n 0, 1) := by decide +kernel
theorem dZ_wear_1 : decode bZ_wear 1 = .ok (.iconst 0, 1) := by decide +kernel
theorem dZ_wear_2 : decode bZ_wear 2 = .ok (.putfield 68, 3) := by decide +kernel
theorem dZ_wear_5 : decode bZ_wear 5 = .ok (.iload_n 1, 1) := by decide +kernel
theorem dZ_wear_6 : decode bZ_wear 6 = .ok (.iconst 0, 1) := by decide +kernel
theorem dZ_wear_7 : decode bZ_wear 7 = .ok (.iconst 1, 1) := by decide +kernel
theorem dZ_wear_8 : decode bZ_wear 8 = .ok (.invokestatic 72, 3) := by decide +kernel
theorem dZ_wear_11 : decode bZ_wear 11 = .ok (.ifCond .eq 34, 3) := by decide +kernel
theorem dZ_wear_14 : decode bZ_wear 14 = .ok (.iload_n 2, 1) := by decide +kernel
theorem dZ_wear_15 : decode bZ_wear 15 = .ok (.iconst 0, 1) := by decide +kernel
theorem dZ_wear_16 : decode bZ_wear 16 = .ok (.aload_n 0, 1) := by decide +kernel
theorem dZ_wear_17 : decode bZ_wear 17 = .ok (.invokevirtual 146, 3) := by decide +kernel
theorem dZ_wear_20 : decode bZ_wear 20 = .ok (.iconst 1, 1) := by decide +kernel
theorem dZ_wear_21 : decode bZ_wear 21 = .ok (.isub, 1) := by decide +kernel
theorem dZ_wear_22 : decode bZ_wear 22 = .ok (.invokestatic 72, 3) := by decide +kernel
theorem dZ_wear_25 : decode bZ_wear 25 = .ok (.ifCond .eq 20, 3) := by decide +kernel
theorem dZ_wear_28 : decode bZ_wear 28 = .ok (.aload_n 0, 1) := by decide +kernel
theorem dZ_wear_29 : decode bZ_wear 29 = .ok (.getfield 28, 3) := by decide +kernel
theorem dZ_wear_32 : decode bZ_wear 32 = .ok (.bipush 12, 2) := by decide +kernel
theorem dZ_wear_34 : decode bZ_wear 34 = .ok (.bipush 100, 2) := by decide +kernel
theorem dZ_wear_36 : decode bZ_wear 36 = .ok (.iload_n 1, 1) := by decide +kernel
theorem dZ_wear_37 : decode bZ_wear 37 = .ok (.imul, 1) := by decide +kernel
theorem dZ_wear_38 : decode bZ_wear 38 = .ok (.iadd, 1) := by decide +kernel
theorem dZ_wear_39 : decode bZ_wear 39 = .ok (.iload_n 2, 1) := by decide +kernel
theorem dZ_wear_40 : decode bZ_wear 40 = .ok (.iadd, 1) := by decide +kernel
theorem dZ_wear_41 : decode bZ_wear 41 = .ok (.iaload, 1) := by decide +kernel
theorem dZ_wear_42 : decode bZ_wear 42 = .ok (.goto 4, 3) := by decide +kernel
theorem dZ_wear_45 : decode bZ_wear 45 = .ok (.iconst (-1), 1) := by decide +kernel
theorem dZ_wear_46 : decode bZ_wear 46 = .ok (.ireturn, 1) := by decide +kernel
theorem dZ_top_0 : decode bZ_top 0 = .ok (.aload_n 0, 1) := by decide +kernel
theorem dZ_top_1 : decode bZ_top 1 = .ok (.aload_n 0, 1) := by decide +kernel
theorem dZ_top_2 : decode bZ_top 2 = .ok (.getfield 13, 3) := by decide +kernel
theorem dZ_top_5 : decode bZ_top 5 = .ok (.iconst 0, 1) := by decide +kernel
theorem dZ_top_6 : decode bZ_top 6 = .ok (.iaload, 1) := by decide +kernel
theorem dZ_top_7 : decode bZ_top 7 = .ok (.invokevirtual 136, 3) := by decide +kernel
theorem dZ_top_10 : decode bZ_top 10 = .ok (.ireturn, 1) := by decide +kernel
theorem dZ_thing_0 : decode bZ_thing 0 = .ok (.aload_n 0, 1) := by decide +kernel
theorem dZ_thing_1 : decode bZ_thing 1 = .ok (.iconst 0, 1) := by decide +kernel
theorem dZ_thing_2 : decode bZ_thing 2 = .ok (.putfield 68, 3) := by decide +kernel
theorem dZ_thing_5 : decode bZ_thing 5 = .ok (.iload_n 1, 1) := by decide +kernel
theorem dZ_thing_6 : decode bZ_thing 6 = .ok (.iconst 0, 1) := by decide +kernel
theorem dZ_thing_7 : decode bZ_thing 7 = .ok (.iconst 5, 1) := by decide +kernel
theorem dZ_thing_8 : decode bZ_thing 8 = .ok (.invokestatic 72, 3) := by decide +kernel
theorem dZ_thing_11 : decode bZ_thing 11 = .ok (.ifCond .ne 5, 3) := by decide +kernel
theorem dZ_thing_14 : decode bZ_thing 14 = .ok (.iconst (-1), 1) := by decide +kernel
theorem dZ_thing_15 : decode bZ_thing 15 = .ok (.ireturn, 1) := by decide +kernel
theorem dZ_thing_16 : decode bZ_thing 16 = .ok (.iload_n 1, 1) := by decide +kernel
theorem dZ_thing_17 : decode bZ_thing 17 = .ok (.aload_n 0, 1) := by decide +kernel
theorem dZ_thing_18 : decode bZ_thing 18 = .ok (.getfield 28, 3) := by decide +kernel
theorem dZ_thing_21 : decode bZ_thing 21 = .ok (.iconst 5, 1) := by decide +kernel
theorem dZ_thing_22 : decode bZ_thing 22 = .ok (.iaload, 1) := by decide +kernel
theorem dZ_thing_23 : decode bZ_thing 23 = .ok (.if_icmp .ge 15, 3) := by decide +kernel
theorem dZ_thing_26 : decode bZ_thing 26 = .ok (.aload_n 0, 1) := by decide +kernel
theorem dZ_thing_27 : decode bZ_thing 27 = .ok (.getfield 28, 3) := by decide +kernel
theorem dZ_thing_30 : decode bZ_thing 30 = .ok (.bipush 6, 2) := by decide +kernel
theorem dZ_thing_32 : decode bZ_thing 32 = .ok (.iload_n 1, 1) := by decide +kernel
theorem dZ_thing_33 : decode bZ_thing 33 = .ok (.iadd, 1) := by decide +kernel
theorem dZ_thing_34 : decode bZ_thing 34 = .ok (.iaload, 1) := by decide +kernel
theorem dZ_thing_35 : decode bZ_thing 35 = .ok (.goto 5, 3) := by decide +kernel
theorem dZ_thing_38 : decode bZ_thing 38 = .ok (.bipush (-9), 2) := by decide +kernel
theorem dZ_thing_40 : decode bZ_thing 40 = .ok (.ireturn, 1) := by decide +kernel
theorem dZ_now_0 : decode bZ_now 0 = .ok (.aload_n 0, 1) := by decide +kernel
theorem dZ_now_1 : decode bZ_now 1 = .ok (.iconst 0, 1) := by decide +kernel
theorem dZ_now_2 : decode bZ_now 2 = .ok (.putfield 68, 3) := by decide +kernel
theorem dZ_now_5 : decode bZ_now 5 = .ok (.iload_n 1, 1) := by decide +kernel
theorem dZ_now_6 : decode bZ_now 6 = .ok (.iconst 0, 1) := by decide +kernel
theorem dZ_now_7 : decode bZ_now 7 = .ok (.bipush 6, 2) := by decide +kernel
theorem dZ_now_9 : decode bZ_now 9 = .ok (.invokestatic 72, 3) := by decide +kernel
theorem dZ_now_12 : decode bZ_now 12 = .ok (.ifCond .ne 5, 3) := by decide +kernel
theorem dZ_now_15 : decode bZ_now 15 = .ok (.iconst (-1), 1) := by decide +kernel
theorem dZ_now_16 : decode bZ_now 16 = .ok (.ireturn, 1) := by decide +kernel
theorem dZ_now_17 : decode bZ_now 17 = .ok (.iload_n 1, 1) := by decide +kernel
theorem dZ_now_18 : decode bZ_now 18 = .ok (.iconst 4, 1) := by decide +kernel
theorem dZ_now_19 : decode bZ_now 19 = .ok (.if_icmp .ge 50, 3) := by decide +kernel
theorem dZ_now_22 : decode bZ_now 22 = .ok (.iload_n 1, 1) := by decide +kernel
theorem dZ_now_23 : decode bZ_now 23 = .ok (.ifCond .ne 10, 3) := by decide +kernel
theorem dZ_now_26 : decode bZ_now 26 = .ok (.aload_n 0, 1) := by decide +kernel
theorem dZ_now_27 : decode bZ_now 27 = .ok (.invokevirtual 146, 3) := by decide +kernel
theorem dZ_now_30 : decode bZ_now 30 = .ok (.goto 38, 3) := by decide +kernel
theorem dZ_now_33 : decode bZ_now 33 = .ok (.iload_n 1, 1) := by decide +kernel
theorem dZ_now_34 : decode bZ_now 34 = .ok (.iconst 1, 1) := by decide +kernel
theorem dZ_now_35 : decode bZ_now 35 = .ok (.if_icmp .ne 12, 3) := by decide +kernel
theorem dZ_now_38 : decode bZ_now 38 = .ok (.aload_n 0, 1) := by decide +kernel
theorem dZ_now_39 : decode bZ_now 39 = .ok (.getfield 28, 3) := by decide +kernel
theorem dZ_now_42 : decode bZ_now 42 = .ok (.iconst 5, 1) := by decide +kernel
theorem dZ_now_43 : decode bZ_now 43 = .ok (.iaload, 1) := by decide +kernel
theorem dZ_now_44 : decode bZ_now 44 = .ok (.goto 24, 3) := by decide +kernel
theorem dZ_now_47 : decode bZ_now 47 = .ok (.iload_n 1, 1) := by decide +kernel
theorem dZ_now_48 : decode bZ_now 48 = .ok (.iconst 2, 1) := by decide +kernel
theorem dZ_now_49 : decode bZ_now 49 = .ok (.if_icmp .ne 15, 3) := by decide +kernel
theorem dZ_now_52 : decode bZ_now 52 = .ok (.aload_n 0, 1) := by decide +kernel
theorem dZ_now_53 : decode bZ_now 53 = .ok (.getfield 28, 3) := by decide +kernel
theorem dZ_now_56 : decode bZ_now 56 = .ok (.iconst 4, 1) := by decide +kernel
theorem dZ_now_57 : decode bZ_now 57 = .ok (.iaload, 1) := by decide +kernel
theorem dZ_now_58 : decode bZ_now 58 = .ok (.invokestatic 153, 3) := by decide +kernel
theorem dZ_now_61 : decode bZ_now 61 = .ok (.goto 7, 3) := by decide +kernel
theorem dZ_now_64 : decode bZ_now 64 = .ok (.aload_n 0, 1) := by decide +kernel
theorem dZ_now_65 : decode bZ_now 65 = .ok (.invokevirtual 156, 3) := by decide +kernel
theorem dZ_now_68 : decode bZ_now 68 = .ok (.ireturn, 1) := by decide +kernel
theorem dZ_now_69 : decode bZ_now 69 = .ok (.iload_n 1, 1) := by decide +kernel
theorem dZ_now_70 : decode bZ_now 70 = .ok (.iconst 4, 1) := by decide +kernel
theorem dZ_now_71 : decode bZ_now 71 = .ok (.if_icmp .ne 10, 3) := by decide +kernel
theorem dZ_now_74 : decode bZ_now 74 = .ok (.aload_n 0, 1) := by decide +kernel
theorem dZ_now_75 : decode bZ_now 75 = .ok (.invokevirtual 159, 3) := by decide +kernel
theorem dZ_now_78 : decode bZ_now 78 = .ok (.goto 25, 3) := by decide +kernel
theorem dZ_now_81 : decode bZ_now 81 = .ok (.iload_n 1, 1) := by decide +kernel
theorem dZ_now_82 : decode bZ_now 82 = .ok (.iconst 5, 1) := by decide +kernel
theorem dZ_now_83 : decode bZ_now 83 = .ok (.if_icmp .ne 16, 3) := by decide +kernel
theorem dZ_now_86 : decode bZ_now 86 = .ok (.aload_n 0, 1) := by decide +kernel
theorem dZ_now_87 : decode bZ_now 87 = .ok (.aload_n 0, 1) := by decide +kernel
theorem dZ_now_88 : decode bZ_now 88 = .ok (.getfield 13, 3) := by decide +kernel
theorem dZ_now_91 : decode bZ_now 91 = .ok (.iconst 3, 1) := by decide +kernel
theorem dZ_now_92 : decode bZ_now 92 = .ok (.iaload, 1) := by decide +kernel
theorem dZ_now_93 : decode bZ_now 93 = .ok (.invokevirtual 162, 3) := by decide +kernel
theorem dZ_now_96 : decode bZ_now 96 = .ok (.goto 7, 3) := by decide +kernel
theorem dZ_now_99 : decode bZ_now 99 = .ok (.aload_n 0, 1) := by decide +kernel
theorem dZ_now_100 : decode bZ_now 100 = .ok (.getfield 133, 3) := by decide +kernel
theorem dZ_now_103 : decode bZ_now 103 = .ok (.ireturn, 1) := by decide +kernel
theorem dZ_ones_0 : decode bZ_ones 0 = .ok (.iconst 0, 1) := by decide +kernel
theorem dZ_ones_1 : decode bZ_ones 1 = .ok (.istore_n 1, 1) := by decide +kernel
theorem dZ_ones_2 : decode bZ_ones 2 = .ok (.iconst 0, 1) := by decide +kernel
theorem dZ_ones_3 : decode bZ_ones 3 = .ok (.istore_n 2, 1) := by decide +kernel
theorem dZ_ones_4 : decode bZ_ones 4 = .ok (.iload_n 2, 1) := by decide +kernel
theorem dZ_ones_5 : decode bZ_ones 5 = .ok (.bipush 6, 2) := by decide +kernel
theorem dZ_ones_7 : decode bZ_ones 7 = .ok (.if_icmp .ge 17, 3) := by decide +kernel
theorem dZ_ones_10 : decode bZ_ones 10 = .ok (.iload_n 1, 1) := by decide +kernel
theorem dZ_ones_11 : decode bZ_ones 11 = .ok (.iload_n 0, 1) := by decide +kernel
theorem dZ_ones_12 : decode bZ_ones 12 = .ok (.iload_n 2, 1) := by decide +kernel
theorem dZ_ones_13 : decode bZ_ones 13 = .ok (.ishr, 1) := by decide +kernel
theorem dZ_ones_14 : decode bZ_ones 14 = .ok (.iconst 1, 1) := by decide +kernel
theorem dZ_ones_15 : decode bZ_ones 15 = .ok (.iand, 1) := by decide +kernel
theorem dZ_ones_16 : decode bZ_ones 16 = .ok (.iadd, 1) := by decide +kernel
theorem dZ_ones_17 : decode bZ_ones 17 = .ok (.istore_n 1, 1) := by decide +kernel
theorem dZ_ones_18 : decode bZ_ones 18 = .ok (.iinc 2 1, 3) := by decide +kernel
theorem dZ_ones_21 : decode bZ_ones 21 = .ok (.goto (-17), 3) := by decide +kernel
theorem dZ_ones_24 : decode bZ_ones 24 = .ok (.iload_n 1, 1) := by decide +kernel
theorem dZ_ones_25 : decode bZ_ones 25 = .ok (.ireturn, 1) := by decide +kernel
theorem dZ_allWear_0 : decode bZ_allWear 0 = .ok (.iconst 0, 1) := by decide +kernel
theorem dZ_allWear_1 : decode bZ_allWear 1 = .ok (.istore_n 1, 1) := by decide +kernel
theorem dZ_allWear_2 : decode bZ_allWear 2 = .ok (.bipush 12, 2) := by decide +kernel
theorem dZ_allWear_4 : decode bZ_allWear 4 = .ok (.istore_n 2, 1) := by decide +kernel
theorem dZ_allWear_5 : decode bZ_allWear 5 = .ok (.iload_n 2, 1) := by decide +kernel
theorem dZ_allWear_6 : decode bZ_allWear 6 = .ok (.sipush 212, 3) := by decide +kernel
theorem dZ_allWear_9 : decode bZ_allWear 9 = .ok (.if_icmp .ge 18, 3) := by decide +kernel
theorem dZ_allWear_12 : decode bZ_allWear 12 = .ok (.iload_n 1, 1) := by decide +kernel
theorem dZ_allWear_13 : decode bZ_allWear 13 = .ok (.aload_n 0, 1) := by decide +kernel
theorem dZ_allWear_14 : decode bZ_allWear 14 = .ok (.getfield 28, 3) := by decide +kernel
theorem dZ_allWear_17 : decode bZ_allWear 17 = .ok (.iload_n 2, 1) := by decide +kernel
theorem dZ_allWear_18 : decode bZ_allWear 18 = .ok (.iaload, 1) := by decide +kernel
theorem dZ_allWear_19 : decode bZ_allWear 19 = .ok (.iadd, 1) := by decide +kernel
theorem dZ_allWear_20 : decode bZ_allWear 20 = .ok (.istore_n 1, 1) := by decide +kernel
theorem dZ_allWear_21 : decode bZ_allWear 21 = .ok (.iinc 2 1, 3) := by decide +kernel
theorem dZ_allWear_24 : decode bZ_allWear 24 = .ok (.goto (-19), 3) := by decide +kernel
theorem dZ_allWear_27 : decode bZ_allWear 27 = .ok (.iload_n 1, 1) := by decide +kernel
theorem dZ_allWear_28 : decode bZ_allWear 28 = .ok (.ireturn, 1) := by decide +kernel
theorem dZ_steepest_0 : decode bZ_steepest 0 = .ok (.bipush (-9), 2) := by decide +kernel
theorem dZ_steepest_2 : decode bZ_steepest 2 = .ok (.istore_n 1, 1) := by decide +kernel
theorem dZ_steepest_3 : decode bZ_steepest 3 = .ok (.iconst 0, 1) := by decide +kernel
theorem dZ_steepest_4 : decode bZ_steepest 4 = .ok (.istore_n 2, 1) := by decide +kernel
theorem dZ_steepest_5 : decode bZ_steepest 5 = .ok (.iload_n 2, 1) := by decide +kernel
theorem dZ_steepest_6 : decode bZ_steepest 6 = .ok (.aload_n 0, 1) := by decide +kernel
theorem dZ_steepest_7 : decode bZ_steepest 7 = .ok (.invokevirtual 146, 3) := by decide +kernel
theorem dZ_steepest_10 : decode bZ_steepest 10 = .ok (.if_icmp .ge 34, 3) := by decide +kernel
theorem dZ_steepest_13 : decode bZ_steepest 13 = .ok (.iload_n 1, 1) := by decide +kernel
theorem dZ_steepest_14 : decode bZ_steepest 14 = .ok (.bipush (-9), 2) := by decide +kernel
theorem dZ_steepest_16 : decode bZ_steepest 16 = .ok (.if_icmp .eq 16, 3) := by decide +kernel
theorem dZ_steepest_19 : decode bZ_steepest 19 = .ok (.aload_n 0, 1) := by decide +kernel
theorem dZ_steepest_20 : decode bZ_steepest 20 = .ok (.iload_n 2, 1) := by decide +kernel
theorem dZ_steepest_21 : decode bZ_steepest 21 = .ok (.invokevirtual 150, 3) := by decide +kernel
theorem dZ_steepest_24 : decode bZ_steepest 24 = .ok (.aload_n 0, 1) := by decide +kernel
theorem dZ_steepest_25 : decode bZ_steepest 25 = .ok (.iload_n 1, 1) := by decide +kernel
theorem dZ_steepest_26 : decode bZ_steepest 26 = .ok (.invokevirtual 150, 3) := by decide +kernel
theorem dZ_steepest_29 : decode bZ_steepest 29 = .ok (.if_icmp .le 7, 3) := by decide +kernel
theorem dZ_steepest_32 : decode bZ_steepest 32 = .ok (.iload_n 2, 1) := by decide +kernel
theorem dZ_steepest_33 : decode bZ_steepest 33 = .ok (.goto 4, 3) := by decide +kernel
theorem dZ_steepest_36 : decode bZ_steepest 36 = .ok (.iload_n 1, 1) := by decide +kernel
theorem dZ_steepest_37 : decode bZ_steepest 37 = .ok (.istore_n 1, 1) := by decide +kernel
theorem dZ_steepest_38 : decode bZ_steepest 38 = .ok (.iinc 2 1, 3) := by decide +kernel
theorem dZ_steepest_41 : decode bZ_steepest 41 = .ok (.goto (-36), 3) := by decide +kernel
theorem dZ_steepest_44 : decode bZ_steepest 44 = .ok (.iload_n 1, 1) := by decide +kernel
theorem dZ_steepest_45 : decode bZ_steepest 45 = .ok (.ireturn, 1) := by decide +kernel
theorem dZ_heightAt_0 : decode bZ_heightAt 0 = .ok (.iconst 0, 1) := by decide +kernel
theorem dZ_heightAt_1 : decode bZ_heightAt 1 = .ok (.istore_n 2, 1) := by decide +kernel
theorem dZ_heightAt_2 : decode bZ_heightAt 2 = .ok (.iload_n 1, 1) := by decide +kernel
theorem dZ_heightAt_3 : decode bZ_heightAt 3 = .ok (.istore_n 3, 1) := by decide +kernel
theorem dZ_heightAt_4 : decode bZ_heightAt 4 = .ok (.iload_n 3, 1) := by decide +kernel
theorem dZ_heightAt_5 : decode bZ_heightAt 5 = .ok (.aload_n 0, 1) := by decide +kernel
theorem dZ_heightAt_6 : decode bZ_heightAt 6 = .ok (.getfield 16, 3) := by decide +kernel
theorem dZ_heightAt_9 : decode bZ_heightAt 9 = .ok (.iload_n 2, 1) := by decide +kernel
theorem dZ_heightAt_10 : decode bZ_heightAt 10 = .ok (.iaload, 1) := by decide +kernel
theorem dZ_heightAt_11 : decode bZ_heightAt 11 = .ok (.if_icmp .lt 18, 3) := by decide +kernel
theorem dZ_heightAt_14 : decode bZ_heightAt 14 = .ok (.iload_n 3, 1) := by decide +kernel
theorem dZ_heightAt_15 : decode bZ_heightAt 15 = .ok (.aload_n 0, 1) := by decide +kernel
theorem dZ_heightAt_16 : decode bZ_heightAt 16 = .ok (.getfield 16, 3) := by decide +kernel
theorem dZ_heightAt_19 : decode bZ_heightAt 19 = .ok (.iload_n 2, 1) := by decide +kernel
theorem dZ_heightAt_20 : decode bZ_heightAt 20 = .ok (.iaload, 1) := by decide +kernel
theorem dZ_heightAt_21 : decode bZ_heightAt 21 = .ok (.isub, 1) := by decide +kernel
theorem dZ_heightAt_22 : decode bZ_heightAt 22 = .ok (.istore_n 3, 1) := by decide +kernel
theorem dZ_heightAt_23 : decode bZ_heightAt 23 = .ok (.iinc 2 1, 3) := by decide +kernel
theorem dZ_heightAt_26 : decode bZ_heightAt 26 = .ok (.goto (-22), 3) := by decide +kernel
theorem dZ_heightAt_29 : decode bZ_heightAt 29 = .ok (.aload_n 0, 1) := by decide +kernel
theorem dZ_heightAt_30 : decode bZ_heightAt 30 = .ok (.getfield 19, 3) := by decide +kernel
theorem dZ_heightAt_33 : decode bZ_heightAt 33 = .ok (.iload_n 2, 1) := by decide +kernel
theorem dZ_heightAt_34 : decode bZ_heightAt 34 = .ok (.iaload, 1) := by decide +kernel
theorem dZ_heightAt_35 : decode bZ_heightAt 35 = .ok (.iload_n 3, 1) := by decide +kernel
theorem dZ_heightAt_36 : decode bZ_heightAt 36 = .ok (.aload_n 0, 1) := by decide +kernel
theorem dZ_heightAt_37 : decode bZ_heightAt 37 = .ok (.getfield 22, 3) := by decide +kernel
theorem dZ_heightAt_40 : decode bZ_heightAt 40 = .ok (.iload_n 2, 1) := by decide +kernel
theorem dZ_heightAt_41 : decode bZ_heightAt 41 = .ok (.iaload, 1) := by decide +kernel
theorem dZ_heightAt_42 : decode bZ_heightAt 42 = .ok (.imul, 1) := by decide +kernel
theorem dZ_heightAt_43 : decode bZ_heightAt 43 = .ok (.iadd, 1) := by decide +kernel
theorem dZ_heightAt_44 : decode bZ_heightAt 44 = .ok (.istore 4, 2) := by decide +kernel
theorem dZ_heightAt_46 : decode bZ_heightAt 46 = .ok (.iload 4, 2) := by decide +kernel
theorem dZ_heightAt_48 : decode bZ_heightAt 48 = .ok (.iconst 1, 1) := by decide +kernel
theorem dZ_heightAt_49 : decode bZ_heightAt 49 = .ok (.if_icmp .ge 7, 3) := by decide +kernel
theorem dZ_heightAt_52 : decode bZ_heightAt 52 = .ok (.iconst 1, 1) := by decide +kernel
theorem dZ_heightAt_53 : decode bZ_heightAt 53 = .ok (.goto 5, 3) := by decide +kernel
theorem dZ_heightAt_56 : decode bZ_heightAt 56 = .ok (.iload 4, 2) := by decide +kernel
theorem dZ_heightAt_58 : decode bZ_heightAt 58 = .ok (.ireturn, 1) := by decide +kernel
theorem dZ_daysBy_0 : decode bZ_daysBy 0 = .ok (.iconst 0, 1) := by decide +kernel
theorem dZ_daysBy_1 : decode bZ_daysBy 1 = .ok (.istore_n 2, 1) := by decide +kernel
theorem dZ_daysBy_2 : decode bZ_daysBy 2 = .ok (.iconst 0, 1) := by decide +kernel
theorem dZ_daysBy_3 : decode bZ_daysBy 3 = .ok (.istore_n 3, 1) := by decide +kernel
theorem dZ_daysBy_4 : decode bZ_daysBy 4 = .ok (.iload_n 3, 1) := by decide +kernel
theorem dZ_daysBy_5 : decode bZ_daysBy 5 = .ok (.aload_n 0, 1) := by decide +kernel
theorem dZ_daysBy_6 : decode bZ_daysBy 6 = .ok (.getfield 13, 3) := by decide +kernel
theorem dZ_daysBy_9 : decode bZ_daysBy 9 = .ok (.iconst 0, 1) := by decide +kernel
theorem dZ_daysBy_10 : decode bZ_daysBy 10 = .ok (.iaload, 1) := by decide +kernel
theorem dZ_daysBy_11 : decode bZ_daysBy 11 = .ok (.if_icmp .ge 34, 3) := by decide +kernel
theorem dZ_daysBy_14 : decode bZ_daysBy 14 = .ok (.iload_n 2, 1) := by decide +kernel
theorem dZ_daysBy_15 : decode bZ_daysBy 15 = .ok (.aload_n 0, 1) := by decide +kernel
theorem dZ_daysBy_16 : decode bZ_daysBy 16 = .ok (.getfield 16, 3) := by decide +kernel
theorem dZ_daysBy_19 : decode bZ_daysBy 19 = .ok (.iload_n 3, 1) := by decide +kernel
theorem dZ_daysBy_20 : decode bZ_daysBy 20 = .ok (.iaload, 1) := by decide +kernel
theorem dZ_daysBy_21 : decode bZ_daysBy 21 = .ok (.aload_n 0, 1) := by decide +kernel
theorem dZ_daysBy_22 : decode bZ_daysBy 22 = .ok (.getfield 13, 3) := by decide +kernel
theorem dZ_daysBy_25 : decode bZ_daysBy 25 = .ok (.iconst 2, 1) := by decide +kernel
theorem dZ_daysBy_26 : decode bZ_daysBy 26 = .ok (.iaload, 1) := by decide +kernel
theorem dZ_daysBy_27 : decode bZ_daysBy 27 = .ok (.iadd, 1) := by decide +kernel
theorem dZ_daysBy_28 : decode bZ_daysBy 28 = .ok (.iconst 1, 1) := by decide +kernel
theorem dZ_daysBy_29 : decode bZ_daysBy 29 = .ok (.isub, 1) := by decide +kernel
theorem dZ_daysBy_30 : decode bZ_daysBy 30 = .ok (.aload_n 0, 1) := by decide +kernel
theorem dZ_daysBy_31 : decode bZ_daysBy 31 = .ok (.getfield 13, 3) := by decide +kernel
theorem dZ_daysBy_34 : decode bZ_daysBy 34 = .ok (.iconst 2, 1) := by decide +kernel
theorem dZ_daysBy_35 : decode bZ_daysBy 35 = .ok (.iaload, 1) := by decide +kernel
theorem dZ_daysBy_36 : decode bZ_daysBy 36 = .ok (.idiv, 1) := by decide +kernel
theorem dZ_daysBy_37 : decode bZ_daysBy 37 = .ok (.iadd, 1) := by decide +kernel
theorem dZ_daysBy_38 : decode bZ_daysBy 38 = .ok (.istore_n 2, 1) := by decide +kernel
theorem dZ_daysBy_39 : decode bZ_daysBy 39 = .ok (.iinc 3 1, 3) := by decide +kernel
theorem dZ_daysBy_42 : decode bZ_daysBy 42 = .ok (.goto (-38), 3) := by decide +kernel
theorem dZ_daysBy_45 : decode bZ_daysBy 45 = .ok (.iload_n 2, 1) := by decide +kernel
theorem dZ_daysBy_46 : decode bZ_daysBy 46 = .ok (.iload_n 1, 1) := by decide +kernel
theorem dZ_daysBy_47 : decode bZ_daysBy 47 = .ok (.iadd, 1) := by decide +kernel
theorem dZ_daysBy_48 : decode bZ_daysBy 48 = .ok (.iconst 2, 1) := by decide +kernel
theorem dZ_daysBy_49 : decode bZ_daysBy 49 = .ok (.isub, 1) := by decide +kernel
theorem dZ_daysBy_50 : decode bZ_daysBy 50 = .ok (.iload_n 1, 1) := by decide +kernel
theorem dZ_daysBy_51 : decode bZ_daysBy 51 = .ok (.iconst 1, 1) := by decide +kernel
theorem dZ_daysBy_52 : decode bZ_daysBy 52 = .ok (.isub, 1) := by decide +kernel
theorem dZ_daysBy_53 : decode bZ_daysBy 53 = .ok (.idiv, 1) := by decide +kernel
theorem dZ_daysBy_54 : decode bZ_daysBy 54 = .ok (.ireturn, 1) := by decide +kernel
theorem dZ_goes_0 : decode bZ_goes 0 = .ok (.aload_n 0, 1) := by decide +kernel
theorem dZ_goes_1 : decode bZ_goes 1 = .ok (.iconst 0, 1) := by decide +kernel
theorem dZ_goes_2 : decode bZ_goes 2 = .ok (.putfield 68, 3) := by decide +kernel
theorem dZ_goes_5 : decode bZ_goes 5 = .ok (.aload_n 0, 1) := by decide +kernel
theorem dZ_goes_6 : decode bZ_goes 6 = .ok (.iload_n 1, 1) := by decide +kernel
theorem dZ_goes_7 : decode bZ_goes 7 = .ok (.invokevirtual 143, 3) := by decide +kernel
theorem dZ_goes_10 : decode bZ_goes 10 = .ok (.ifCond .eq 15, 3) := by decide +kernel
theorem dZ_goes_13 : decode bZ_goes 13 = .ok (.iload_n 2, 1) := by decide +kernel
theorem dZ_goes_14 : decode bZ_goes 14 = .ok (.iconst 0, 1) := by decide +kernel
theorem dZ_goes_15 : decode bZ_goes 15 = .ok (.aload_n 0, 1) := by decide +kernel
theorem dZ_goes_16 : decode bZ_goes 16 = .ok (.invokevirtual 146, 3) := by decide +kernel
theorem dZ_goes_19 : decode bZ_goes 19 = .ok (.invokestatic 72, 3) := by decide +kernel
theorem dZ_goes_22 : decode bZ_goes 22 = .ok (.ifCond .ne 5, 3) := by decide +kernel
theorem dZ_goes_25 : decode bZ_goes 25 = .ok (.iconst (-1), 1) := by decide +kernel
theorem dZ_goes_26 : decode bZ_goes 26 = .ok (.ireturn, 1) := by decide +kernel
theorem dZ_goes_27 : decode bZ_goes 27 = .ok (.aload_n 0, 1) := by decide +kernel
theorem dZ_goes_28 : decode bZ_goes 28 = .ok (.getfield 28, 3) := by decide +kernel
theorem dZ_goes_31 : decode bZ_goes 31 = .ok (.iconst 0, 1) := by decide +kernel
theorem dZ_goes_32 : decode bZ_goes 32 = .ok (.iload_n 1, 1) := by decide +kernel
theorem dZ_goes_33 : decode bZ_goes 33 = .ok (.iadd, 1) := by decide +kernel
theorem dZ_goes_34 : decode bZ_goes 34 = .ok (.iaload, 1) := by decide +kernel
theorem dZ_goes_35 : decode bZ_goes 35 = .ok (.istore_n 3, 1) := by decide +kernel
theorem dZ_goes_36 : decode bZ_goes 36 = .ok (.aload_n 0, 1) := by decide +kernel
theorem dZ_goes_37 : decode bZ_goes 37 = .ok (.iload_n 1, 1) := by decide +kernel
theorem dZ_goes_38 : decode bZ_goes 38 = .ok (.invokevirtual 165, 3) := by decide +kernel
theorem dZ_goes_41 : decode bZ_goes 41 = .ok (.ifCond .ne 18, 3) := by decide +kernel
theorem dZ_goes_44 : decode bZ_goes 44 = .ok (.iload_n 3, 1) := by decide +kernel
theorem dZ_goes_45 : decode bZ_goes 45 = .ok (.iload_n 2, 1) := by decide +kernel
theorem dZ_goes_46 : decode bZ_goes 46 = .ok (.if_icmp .eq 13, 3) := by decide +kernel
theorem dZ_goes_49 : decode bZ_goes 49 = .ok (.iload_n 2, 1) := by decide +kernel
theorem dZ_goes_50 : decode bZ_goes 50 = .ok (.aload_n 0, 1) := by decide +kernel
theorem dZ_goes_51 : decode bZ_goes 51 = .ok (.getfield 25, 3) := by decide +kernel
theorem dZ_goes_54 : decode bZ_goes 54 = .ok (.iload_n 1, 1) := by decide +kernel
theorem dZ_goes_55 : decode bZ_goes 55 = .ok (.iaload, 1) := by decide +kernel
theorem dZ_goes_56 : decode bZ_goes 56 = .ok (.if_icmp .le 6, 3) := by decide +kernel
theorem dZ_goes_59 : decode bZ_goes 59 = .ok (.bipush (-2), 2) := by decide +kernel
theorem dZ_goes_61 : decode bZ_goes 61 = .ok (.ireturn, 1) := by decide +kernel
theorem dZ_goes_62 : decode bZ_goes 62 = .ok (.aload_n 0, 1) := by decide +kernel
theorem dZ_goes_63 : decode bZ_goes 63 = .ok (.invokevirtual 168, 3) := by decide +kernel
theorem dZ_goes_66 : decode bZ_goes 66 = .ok (.iload_n 2, 1) := by decide +kernel
theorem dZ_goes_67 : decode bZ_goes 67 = .ok (.iload_n 3, 1) := by decide +kernel
theorem dZ_goes_68 : decode bZ_goes 68 = .ok (.if_icmp .le 7, 3) := by decide +kernel
theorem dZ_goes_71 : decode bZ_goes 71 = .ok (.iconst 0, 1) := by decide +kernel
theorem dZ_goes_72 : decode bZ_goes 72 = .ok (.goto 4, 3) := by decide +kernel
theorem dZ_goes_75 : decode bZ_goes 75 = .ok (.iconst 1, 1) := by decide +kernel
theorem dZ_goes_76 : decode bZ_goes 76 = .ok (.istore 4, 2) := by decide +kernel
theorem dZ_goes_78 : decode bZ_goes 78 = .ok (.iload 4, 2) := by decide +kernel
theorem dZ_goes_80 : decode bZ_goes 80 = .ok (.ifCond .ne 7, 3) := by decide +kernel
theorem dZ_goes_83 : decode bZ_goes 83 = .ok (.iload_n 3, 1) := by decide +kernel
theorem dZ_goes_84 : decode bZ_goes 84 = .ok (.goto 4, 3) := by decide +kernel
theorem dZ_goes_87 : decode bZ_goes 87 = .ok (.iload_n 2, 1) := by decide +kernel
theorem dZ_goes_88 : decode bZ_goes 88 = .ok (.istore 5, 2) := by decide +kernel
theorem dZ_goes_90 : decode bZ_goes 90 = .ok (.iload 4, 2) := by decide +kernel
theorem dZ_goes_92 : decode bZ_goes 92 = .ok (.ifCond .ne 7, 3) := by decide +kernel
theorem dZ_goes_95 : decode bZ_goes 95 = .ok (.iload_n 2, 1) := by decide +kernel
theorem dZ_goes_96 : decode bZ_goes 96 = .ok (.goto 4, 3) := by decide +kernel
theorem dZ_goes_99 : decode bZ_goes 99 = .ok (.iload_n 3, 1) := by decide +kernel
theorem dZ_goes_100 : decode bZ_goes 100 = .ok (.istore 6, 2) := by decide +kernel
theorem dZ_goes_102 : decode bZ_goes 102 = .ok (.iload 5, 2) := by decide +kernel
theorem dZ_goes_104 : decode bZ_goes 104 = .ok (.istore 7, 2) := by decide +kernel
theorem dZ_goes_106 : decode bZ_goes 106 = .ok (.iload 7, 2) := by decide +kernel
theorem dZ_goes_108 : decode bZ_goes 108 = .ok (.iload 6, 2) := by decide +kernel
theorem dZ_goes_110 : decode bZ_goes 110 = .ok (.if_icmp .ge 57, 3) := by decide +kernel
theorem dZ_goes_113 : decode bZ_goes 113 = .ok (.bipush 12, 2) := by decide +kernel
theorem dZ_goes_115 : decode bZ_goes 115 = .ok (.bipush 100, 2) := by decide +kernel
theorem dZ_goes_117 : decode bZ_goes 117 = .ok (.iload 4, 2) := by decide +kernel
theorem dZ_goes_119 : decode bZ_goes 119 = .ok (.imul, 1) := by decide +kernel
theorem dZ_goes_120 : decode bZ_goes 120 = .ok (.iadd, 1) := by decide +kernel
theorem dZ_goes_121 : decode bZ_goes 121 = .ok (.iload 7, 2) := by decide +kernel
theorem dZ_goes_123 : decode bZ_goes 123 = .ok (.iadd, 1) := by decide +kernel
theorem dZ_goes_124 : decode bZ_goes 124 = .ok (.istore 8, 2) := by decide +kernel
theorem dZ_goes_126 : decode bZ_goes 126 = .ok (.aload_n 0, 1) := by decide +kernel
theorem dZ_goes_127 : decode bZ_goes 127 = .ok (.getfield 28, 3) := by decide +kernel
theorem dZ_goes_130 : decode bZ_goes 130 = .ok (.iload 8, 2) := by decide +kernel
theorem dZ_goes_132 : decode bZ_goes 132 = .ok (.aload_n 0, 1) := by decide +kernel
theorem dZ_goes_133 : decode bZ_goes 133 = .ok (.getfield 28, 3) := by decide +kernel
theorem dZ_goes_136 : decode bZ_goes 136 = .ok (.iload 8, 2) := by decide +kernel
theorem dZ_goes_138 : decode bZ_goes 138 = .ok (.iaload, 1) := by decide +kernel
theorem dZ_goes_139 : decode bZ_goes 139 = .ok (.sipush 9999, 3) := by decide +kernel
theorem dZ_goes_142 : decode bZ_goes 142 = .ok (.if_icmp .ge 15, 3) := by decide +kernel
theorem dZ_goes_145 : decode bZ_goes 145 = .ok (.aload_n 0, 1) := by decide +kernel
theorem dZ_goes_146 : decode bZ_goes 146 = .ok (.getfield 28, 3) := by decide +kernel
theorem dZ_goes_149 : decode bZ_goes 149 = .ok (.iload 8, 2) := by decide +kernel
theorem dZ_goes_151 : decode bZ_goes 151 = .ok (.iaload, 1) := by decide +kernel
theorem dZ_goes_152 : decode bZ_goes 152 = .ok (.iconst 1, 1) := by decide +kernel
theorem dZ_goes_153 : decode bZ_goes 153 = .ok (.iadd, 1) := by decide +kernel
theorem dZ_goes_154 : decode bZ_goes 154 = .ok (.goto 6, 3) := by decide +kernel
theorem dZ_goes_157 : decode bZ_goes 157 = .ok (.sipush 9999, 3) := by decide +kernel
theorem dZ_goes_160 : decode bZ_goes 160 = .ok (.iastore, 1) := by decide +kernel
theorem dZ_goes_161 : decode bZ_goes 161 = .ok (.iinc 7 1, 3) := by decide +kernel
theorem dZ_goes_164 : decode bZ_goes 164 = .ok (.goto (-58), 3) := by decide +kernel
theorem dZ_goes_167 : decode bZ_goes 167 = .ok (.aload_n 0, 1) := by decide +kernel
theorem dZ_goes_168 : decode bZ_goes 168 = .ok (.getfield 28, 3) := by decide +kernel
theorem dZ_goes_171 : decode bZ_goes 171 = .ok (.iconst 0, 1) := by decide +kernel
theorem dZ_goes_172 : decode bZ_goes 172 = .ok (.iload_n 1, 1) := by decide +kernel
theorem dZ_goes_173 : decode bZ_goes 173 = .ok (.iadd, 1) := by decide +kernel
theorem dZ_goes_174 : decode bZ_goes 174 = .ok (.iload_n 2, 1) := by decide +kernel
theorem dZ_goes_175 : decode bZ_goes 175 = .ok (.iastore, 1) := by decide +kernel
theorem dZ_goes_176 : decode bZ_goes 176 = .ok (.iload 6, 2) := by decide +kernel
theorem dZ_goes_178 : decode bZ_goes 178 = .ok (.iload 5, 2) := by decide +kernel
theorem dZ_goes_180 : decode bZ_goes 180 = .ok (.isub, 1) := by decide +kernel
theorem dZ_goes_181 : decode bZ_goes 181 = .ok (.ireturn, 1) := by decide +kernel
theorem dZ_isStaying_0 : decode bZ_isStaying 0 = .ok (.aload_n 0, 1) := by decide +kernel
theorem dZ_isStaying_1 : decode bZ_isStaying 1 = .ok (.getfield 28, 3) := by decide +kernel
theorem dZ_isStaying_4 : decode bZ_isStaying 4 = .ok (.iconst 4, 1) := by decide +kernel
theorem dZ_isStaying_5 : decode bZ_isStaying 5 = .ok (.iaload, 1) := by decide +kernel
theorem dZ_isStaying_6 : decode bZ_isStaying 6 = .ok (.iload_n 1, 1) := by decide +kernel
theorem dZ_isStaying_7 : decode bZ_isStaying 7 = .ok (.ishr, 1) := by decide +kernel
theorem dZ_isStaying_8 : decode bZ_isStaying 8 = .ok (.iconst 1, 1) := by decide +kernel
theorem dZ_isStaying_9 : decode bZ_isStaying 9 = .ok (.iand, 1) := by decide +kernel
theorem dZ_isStaying_10 : decode bZ_isStaying 10 = .ok (.iconst 1, 1) := by decide +kernel
theorem dZ_isStaying_11 : decode bZ_isStaying 11 = .ok (.if_icmp .ne 7, 3) := by decide +kernel
theorem dZ_isStaying_14 : decode bZ_isStaying 14 = .ok (.iconst 1, 1) := by decide +kernel
theorem dZ_isStaying_15 : decode bZ_isStaying 15 = .ok (.goto 4, 3) := by decide +kernel
theorem dZ_isStaying_18 : decode bZ_isStaying 18 = .ok (.iconst 0, 1) := by decide +kernel
theorem dZ_isStaying_19 : decode bZ_isStaying 19 = .ok (.ireturn, 1) := by decide +kernel
theorem dZ_notes_0 : decode bZ_notes 0 = .ok (.aload_n 0, 1) := by decide +kernel
theorem dZ_notes_1 : decode bZ_notes 1 = .ok (.getfield 133, 3) := by decide +kernel
theorem dZ_notes_4 : decode bZ_notes 4 = .ok (.bipush 10, 2) := by decide +kernel
theorem dZ_notes_6 : decode bZ_notes 6 = .ok (.if_icmp .ne 40, 3) := by decide +kernel
theorem dZ_notes_9 : decode bZ_notes 9 = .ok (.iconst 0, 1) := by decide +kernel
theorem dZ_notes_10 : decode bZ_notes 10 = .ok (.istore_n 1, 1) := by decide +kernel
theorem dZ_notes_11 : decode bZ_notes 11 = .ok (.iload_n 1, 1) := by decide +kernel
theorem dZ_notes_12 : decode bZ_notes 12 = .ok (.sipush 1908, 3) := by decide +kernel
theorem dZ_notes_15 : decode bZ_notes 15 = .ok (.if_icmp .ge 25, 3) := by decide +kernel
theorem dZ_notes_18 : decode bZ_notes 18 = .ok (.aload_n 0, 1) := by decide +kernel
theorem dZ_notes_19 : decode bZ_notes 19 = .ok (.getfield 38, 3) := by decide +kernel
theorem dZ_notes_22 : decode bZ_notes 22 = .ok (.iload_n 1, 1) := by decide +kernel
theorem dZ_notes_23 : decode bZ_notes 23 = .ok (.aload_n 0, 1) := by decide +kernel
theorem dZ_notes_24 : decode bZ_notes 24 = .ok (.getfield 38, 3) := by decide +kernel
theorem dZ_notes_27 : decode bZ_notes 27 = .ok (.iload_n 1, 1) := by decide +kernel
theorem dZ_notes_28 : decode bZ_notes 28 = .ok (.sipush 212, 3) := by decide +kernel
theorem dZ_notes_31 : decode bZ_notes 31 = .ok (.iadd, 1) := by decide +kernel
theorem dZ_notes_32 : decode bZ_notes 32 = .ok (.iaload, 1) := by decide +kernel
theorem dZ_notes_33 : decode bZ_notes 33 = .ok (.iastore, 1) := by decide +kernel
theorem dZ_notes_34 : decode bZ_notes 34 = .ok (.iinc 1 1, 3) := by decide +kernel
theorem dZ_notes_37 : decode bZ_notes 37 = .ok (.goto (-26), 3) := by decide +kernel
theorem dZ_notes_40 : decode bZ_notes 40 = .ok (.aload_n 0, 1) := by decide +kernel
theorem dZ_notes_41 : decode bZ_notes 41 = .ok (.bipush 9, 2) := by decide +kernel
theorem dZ_notes_43 : decode bZ_notes 43 = .ok (.putfield 133, 3) := by decide +kernel
theorem dZ_notes_46 : decode bZ_notes 46 = .ok (.iconst 0, 1) := by decide +kernel
theorem dZ_notes_47 : decode bZ_notes 47 = .ok (.istore_n 1, 1) := by decide +kernel
theorem dZ_notes_48 : decode bZ_notes 48 = .ok (.iload_n 1, 1) := by decide +kernel
theorem dZ_notes_49 : decode bZ_notes 49 = .ok (.sipush 212, 3) := by decide +kernel
theorem dZ_notes_52 : decode bZ_notes 52 = .ok (.if_icmp .ge 30, 3) := by decide +kernel
theorem dZ_notes_55 : decode bZ_notes 55 = .ok (.aload_n 0, 1) := by decide +kernel
theorem dZ_notes_56 : decode bZ_notes 56 = .ok (.getfield 38, 3) := by decide +kernel
theorem dZ_notes_59 : decode bZ_notes 59 = .ok (.sipush 212, 3) := by decide +kernel
theorem dZ_notes_62 : decode bZ_notes 62 = .ok (.aload_n 0, 1) := by decide +kernel
theorem dZ_notes_63 : decode bZ_notes 63 = .ok (.getfield 133, 3) := by decide +kernel
theorem dZ_notes_66 : decode bZ_notes 66 = .ok (.imul, 1) := by decide +kernel
theorem dZ_notes_67 : decode bZ_notes 67 = .ok (.iload_n 1, 1) := by decide +kernel
theorem dZ_notes_68 : decode bZ_notes 68 = .ok (.iadd, 1) := by decide +kernel
theorem dZ_notes_69 : decode bZ_notes 69 = .ok (.aload_n 0, 1) := by decide +kernel
theorem dZ_notes_70 : decode bZ_notes 70 = .ok (.getfield 28, 3) := by decide +kernel
theorem dZ_notes_73 : decode bZ_notes 73 = .ok (.iload_n 1, 1) := by decide +kernel
theorem dZ_notes_74 : decode bZ_notes 74 = .ok (.iaload, 1) := by decide +kernel
theorem dZ_notes_75 : decode bZ_notes 75 = .ok (.iastore, 1) := by decide +kernel
theorem dZ_notes_76 : decode bZ_notes 76 = .ok (.iinc 1 1, 3) := by decide +kernel
theorem dZ_notes_79 : decode bZ_notes 79 = .ok (.goto (-31), 3) := by decide +kernel
theorem dZ_notes_82 : decode bZ_notes 82 = .ok (.aload_n 0, 1) := by decide +kernel
theorem dZ_notes_83 : decode bZ_notes 83 = .ok (.dup, 1) := by decide +kernel
theorem dZ_notes_84 : decode bZ_notes 84 = .ok (.getfield 133, 3) := by decide +kernel
theorem dZ_notes_87 : decode bZ_notes 87 = .ok (.iconst 1, 1) := by decide +kernel
theorem dZ_notes_88 : decode bZ_notes 88 = .ok (.iadd, 1) := by decide +kernel
theorem dZ_notes_89 : decode bZ_notes 89 = .ok (.putfield 133, 3) := by decide +kernel
theorem dZ_notes_92 : decode bZ_notes 92 = .ok (.return_, 1) := by decide +kernel
end
section
theorem dZ_stays_0 : decode bZ_stays 0 = .ok (.aload_n 0, 1) := by decide +kernel
theorem dZ_stays_1 : decode bZ_stays 1 = .ok (.iconst 0, 1) := by decide +kernel
theorem dZ_stays_2 : decode bZ_stays 2 = .ok (.putfield 68, 3) := by decide +kernel
theorem dZ_stays_5 : decode bZ_stays 5 = .ok (.aload_n 0, 1) := by decide +kernel
theorem dZ_stays_6 : decode bZ_stays 6 = .ok (.iload_n 1, 1) := by decide +kernel
theorem dZ_stays_7 : decode bZ_stays 7 = .ok (.invokevirtual 143, 3) := by decide +kernel
theorem dZ_stays_10 : decode bZ_stays 10 = .ok (.ifCond .ne 5, 3) := by decide +kernel
theorem dZ_stays_13 : decode bZ_stays 13 = .ok (.iconst (-1), 1) := by decide +kernel
theorem dZ_stays_14 : decode bZ_stays 14 = .ok (.ireturn, 1) := by decide +kernel
theorem dZ_stays_15 : decode bZ_stays 15 = .ok (.aload_n 0, 1) := by decide +kernel
theorem dZ_stays_16 : decode bZ_stays 16 = .ok (.iload_n 1, 1) := by decide +kernel
theorem dZ_stays_17 : decode bZ_stays 17 = .ok (.invokevirtual 165, 3) := by decide +kernel
theorem dZ_stays_20 : decode bZ_stays 20 = .ok (.ifCond .eq 6, 3) := by decide +kernel
theorem dZ_stays_23 : decode bZ_stays 23 = .ok (.bipush (-2), 2) := by decide +kernel
theorem dZ_stays_25 : decode bZ_stays 25 = .ok (.ireturn, 1) := by decide +kernel
theorem dZ_stays_26 : decode bZ_stays 26 = .ok (.aload_n 0, 1) := by decide +kernel
theorem dZ_stays_27 : decode bZ_stays 27 = .ok (.invokevirtual 168, 3) := by decide +kernel
theorem dZ_stays_30 : decode bZ_stays 30 = .ok (.aload_n 0, 1) := by decide +kernel
theorem dZ_stays_31 : decode bZ_stays 31 = .ok (.getfield 28, 3) := by decide +kernel
theorem dZ_stays_34 : decode bZ_stays 34 = .ok (.iconst 4, 1) := by decide +kernel
theorem dZ_stays_35 : decode bZ_stays 35 = .ok (.dup2, 1) := by decide +kernel
theorem dZ_stays_36 : decode bZ_stays 36 = .ok (.iaload, 1) := by decide +kernel
theorem dZ_stays_37 : decode bZ_stays 37 = .ok (.iconst 1, 1) := by decide +kernel
theorem dZ_stays_38 : decode bZ_stays 38 = .ok (.iload_n 1, 1) := by decide +kernel
theorem dZ_stays_39 : decode bZ_stays 39 = .ok (.ishl, 1) := by decide +kernel
theorem dZ_stays_40 : decode bZ_stays 40 = .ok (.ior, 1) := by decide +kernel
theorem dZ_stays_41 : decode bZ_stays 41 = .ok (.iastore, 1) := by decide +kernel
theorem dZ_stays_42 : decode bZ_stays 42 = .ok (.aload_n 0, 1) := by decide +kernel
theorem dZ_stays_43 : decode bZ_stays 43 = .ok (.getfield 28, 3) := by decide +kernel
theorem dZ_stays_46 : decode bZ_stays 46 = .ok (.iconst 4, 1) := by decide +kernel
theorem dZ_stays_47 : decode bZ_stays 47 = .ok (.iaload, 1) := by decide +kernel
theorem dZ_stays_48 : decode bZ_stays 48 = .ok (.invokestatic 153, 3) := by decide +kernel
theorem dZ_stays_51 : decode bZ_stays 51 = .ok (.ireturn, 1) := by decide +kernel
theorem dZ_loses_0 : decode bZ_loses 0 = .ok (.aload_n 0, 1) := by decide +kernel
theorem dZ_loses_1 : decode bZ_loses 1 = .ok (.iconst 0, 1) := by decide +kernel
theorem dZ_loses_2 : decode bZ_loses 2 = .ok (.putfield 68, 3) := by decide +kernel
theorem dZ_loses_5 : decode bZ_loses 5 = .ok (.aload_n 0, 1) := by decide +kernel
theorem dZ_loses_6 : decode bZ_loses 6 = .ok (.iload_n 1, 1) := by decide +kernel
theorem dZ_loses_7 : decode bZ_loses 7 = .ok (.invokevirtual 143, 3) := by decide +kernel
theorem dZ_loses_10 : decode bZ_loses 10 = .ok (.ifCond .ne 5, 3) := by decide +kernel
theorem dZ_loses_13 : decode bZ_loses 13 = .ok (.iconst (-1), 1) := by decide +kernel
theorem dZ_loses_14 : decode bZ_loses 14 = .ok (.ireturn, 1) := by decide +kernel
theorem dZ_loses_15 : decode bZ_loses 15 = .ok (.aload_n 0, 1) := by decide +kernel
theorem dZ_loses_16 : decode bZ_loses 16 = .ok (.getfield 28, 3) := by decide +kernel
theorem dZ_loses_19 : decode bZ_loses 19 = .ok (.iconst 5, 1) := by decide +kernel
theorem dZ_loses_20 : decode bZ_loses 20 = .ok (.iaload, 1) := by decide +kernel
theorem dZ_loses_21 : decode bZ_loses 21 = .ok (.bipush 6, 2) := by decide +kernel
theorem dZ_loses_23 : decode bZ_loses 23 = .ok (.if_icmp .ne 6, 3) := by decide +kernel
theorem dZ_loses_26 : decode bZ_loses 26 = .ok (.bipush (-3), 2) := by decide +kernel
theorem dZ_loses_28 : decode bZ_loses 28 = .ok (.ireturn, 1) := by decide +kernel
theorem dZ_loses_29 : decode bZ_loses 29 = .ok (.aload_n 0, 1) := by decide +kernel
theorem dZ_loses_30 : decode bZ_loses 30 = .ok (.invokevirtual 168, 3) := by decide +kernel
theorem dZ_loses_33 : decode bZ_loses 33 = .ok (.aload_n 0, 1) := by decide +kernel
theorem dZ_loses_34 : decode bZ_loses 34 = .ok (.getfield 28, 3) := by decide +kernel
theorem dZ_loses_37 : decode bZ_loses 37 = .ok (.bipush 6, 2) := by decide +kernel
theorem dZ_loses_39 : decode bZ_loses 39 = .ok (.aload_n 0, 1) := by decide +kernel
theorem dZ_loses_40 : decode bZ_loses 40 = .ok (.getfield 28, 3) := by decide +kernel
theorem dZ_loses_43 : decode bZ_loses 43 = .ok (.iconst 5, 1) := by decide +kernel
theorem dZ_loses_44 : decode bZ_loses 44 = .ok (.iaload, 1) := by decide +kernel
theorem dZ_loses_45 : decode bZ_loses 45 = .ok (.iadd, 1) := by decide +kernel
theorem dZ_loses_46 : decode bZ_loses 46 = .ok (.aload_n 0, 1) := by decide +kernel
theorem dZ_loses_47 : decode bZ_loses 47 = .ok (.getfield 28, 3) := by decide +kernel
theorem dZ_loses_50 : decode bZ_loses 50 = .ok (.iconst 0, 1) := by decide +kernel
theorem dZ_loses_51 : decode bZ_loses 51 = .ok (.iload_n 1, 1) := by decide +kernel
theorem dZ_loses_52 : decode bZ_loses 52 = .ok (.iadd, 1) := by decide +kernel
theorem dZ_loses_53 : decode bZ_loses 53 = .ok (.iaload, 1) := by decide +kernel
theorem dZ_loses_54 : decode bZ_loses 54 = .ok (.iastore, 1) := by decide +kernel
theorem dZ_loses_55 : decode bZ_loses 55 = .ok (.aload_n 0, 1) := by decide +kernel
theorem dZ_loses_56 : decode bZ_loses 56 = .ok (.getfield 28, 3) := by decide +kernel
theorem dZ_loses_59 : decode bZ_loses 59 = .ok (.iconst 5, 1) := by decide +kernel
theorem dZ_loses_60 : decode bZ_loses 60 = .ok (.dup2, 1) := by decide +kernel
theorem dZ_loses_61 : decode bZ_loses 61 = .ok (.iaload, 1) := by decide +kernel
theorem dZ_loses_62 : decode bZ_loses 62 = .ok (.iconst 1, 1) := by decide +kernel
theorem dZ_loses_63 : decode bZ_loses 63 = .ok (.iadd, 1) := by decide +kernel
theorem dZ_loses_64 : decode bZ_loses 64 = .ok (.iastore, 1) := by decide +kernel
theorem dZ_loses_65 : decode bZ_loses 65 = .ok (.aload_n 0, 1) := by decide +kernel
theorem dZ_loses_66 : decode bZ_loses 66 = .ok (.getfield 28, 3) := by decide +kernel
theorem dZ_loses_69 : decode bZ_loses 69 = .ok (.iconst 5, 1) := by decide +kernel
theorem dZ_loses_70 : decode bZ_loses 70 = .ok (.iaload, 1) := by decide +kernel
theorem dZ_loses_71 : decode bZ_loses 71 = .ok (.ireturn, 1) := by decide +kernel
theorem dZ_picks_0 : decode bZ_picks 0 = .ok (.aload_n 0, 1) := by decide +kernel
theorem dZ_picks_1 : decode bZ_picks 1 = .ok (.iconst 0, 1) := by decide +kernel
theorem dZ_picks_2 : decode bZ_picks 2 = .ok (.putfield 68, 3) := by decide +kernel
theorem dZ_picks_5 : decode bZ_picks 5 = .ok (.aload_n 0, 1) := by decide +kernel
theorem dZ_picks_6 : decode bZ_picks 6 = .ok (.iload_n 1, 1) := by decide +kernel
theorem dZ_picks_7 : decode bZ_picks 7 = .ok (.invokevirtual 143, 3) := by decide +kernel
theorem dZ_picks_10 : decode bZ_picks 10 = .ok (.ifCond .ne 5, 3) := by decide +kernel
theorem dZ_picks_13 : decode bZ_picks 13 = .ok (.iconst (-1), 1) := by decide +kernel
theorem dZ_picks_14 : decode bZ_picks 14 = .ok (.ireturn, 1) := by decide +kernel
theorem dZ_picks_15 : decode bZ_picks 15 = .ok (.aload_n 0, 1) := by decide +kernel
theorem dZ_picks_16 : decode bZ_picks 16 = .ok (.aload_n 0, 1) := by decide +kernel
theorem dZ_picks_17 : decode bZ_picks 17 = .ok (.getfield 28, 3) := by decide +kernel
theorem dZ_picks_20 : decode bZ_picks 20 = .ok (.iconst 0, 1) := by decide +kernel
theorem dZ_picks_21 : decode bZ_picks 21 = .ok (.iload_n 1, 1) := by decide +kernel
theorem dZ_picks_22 : decode bZ_picks 22 = .ok (.iadd, 1) := by decide +kernel
theorem dZ_picks_23 : decode bZ_picks 23 = .ok (.iaload, 1) := by decide +kernel
theorem dZ_picks_24 : decode bZ_picks 24 = .ok (.invokevirtual 171, 3) := by decide +kernel
theorem dZ_picks_27 : decode bZ_picks 27 = .ok (.istore_n 2, 1) := by decide +kernel
theorem dZ_picks_28 : decode bZ_picks 28 = .ok (.aload_n 0, 1) := by decide +kernel
theorem dZ_picks_29 : decode bZ_picks 29 = .ok (.iload_n 1, 1) := by decide +kernel
theorem dZ_picks_30 : decode bZ_picks 30 = .ok (.invokevirtual 165, 3) := by decide +kernel
theorem dZ_picks_33 : decode bZ_picks 33 = .ok (.ifCond .ne 9, 3) := by decide +kernel
theorem dZ_picks_36 : decode bZ_picks 36 = .ok (.iload_n 2, 1) := by decide +kernel
theorem dZ_picks_37 : decode bZ_picks 37 = .ok (.bipush (-9), 2) := by decide +kernel
theorem dZ_picks_39 : decode bZ_picks 39 = .ok (.if_icmp .ne 6, 3) := by decide +kernel
theorem dZ_picks_42 : decode bZ_picks 42 = .ok (.bipush (-2), 2) := by decide +kernel
theorem dZ_picks_44 : decode bZ_picks 44 = .ok (.ireturn, 1) := by decide +kernel
theorem dZ_picks_45 : decode bZ_picks 45 = .ok (.aload_n 0, 1) := by decide +kernel
theorem dZ_picks_46 : decode bZ_picks 46 = .ok (.invokevirtual 168, 3) := by decide +kernel
theorem dZ_picks_49 : decode bZ_picks 49 = .ok (.iload_n 2, 1) := by decide +kernel
theorem dZ_picks_50 : decode bZ_picks 50 = .ok (.istore_n 3, 1) := by decide +kernel
theorem dZ_picks_51 : decode bZ_picks 51 = .ok (.iload_n 3, 1) := by decide +kernel
theorem dZ_picks_52 : decode bZ_picks 52 = .ok (.iconst 5, 1) := by decide +kernel
theorem dZ_picks_53 : decode bZ_picks 53 = .ok (.if_icmp .ge 29, 3) := by decide +kernel
theorem dZ_picks_56 : decode bZ_picks 56 = .ok (.aload_n 0, 1) := by decide +kernel
theorem dZ_picks_57 : decode bZ_picks 57 = .ok (.getfield 28, 3) := by decide +kernel
theorem dZ_picks_60 : decode bZ_picks 60 = .ok (.bipush 6, 2) := by decide +kernel
theorem dZ_picks_62 : decode bZ_picks 62 = .ok (.iload_n 3, 1) := by decide +kernel
theorem dZ_picks_63 : decode bZ_picks 63 = .ok (.iadd, 1) := by decide +kernel
theorem dZ_picks_64 : decode bZ_picks 64 = .ok (.aload_n 0, 1) := by decide +kernel
theorem dZ_picks_65 : decode bZ_picks 65 = .ok (.getfield 28, 3) := by decide +kernel
theorem dZ_picks_68 : decode bZ_picks 68 = .ok (.bipush 6, 2) := by decide +kernel
theorem dZ_picks_70 : decode bZ_picks 70 = .ok (.iload_n 3, 1) := by decide +kernel
theorem dZ_picks_71 : decode bZ_picks 71 = .ok (.iadd, 1) := by decide +kernel
theorem dZ_picks_72 : decode bZ_picks 72 = .ok (.iconst 1, 1) := by decide +kernel
theorem dZ_picks_73 : decode bZ_picks 73 = .ok (.iadd, 1) := by decide +kernel
theorem dZ_picks_74 : decode bZ_picks 74 = .ok (.iaload, 1) := by decide +kernel
theorem dZ_picks_75 : decode bZ_picks 75 = .ok (.iastore, 1) := by decide +kernel
theorem dZ_picks_76 : decode bZ_picks 76 = .ok (.iinc 3 1, 3) := by decide +kernel
theorem dZ_picks_79 : decode bZ_picks 79 = .ok (.goto (-28), 3) := by decide +kernel
theorem dZ_picks_82 : decode bZ_picks 82 = .ok (.aload_n 0, 1) := by decide +kernel
theorem dZ_picks_83 : decode bZ_picks 83 = .ok (.getfield 28, 3) := by decide +kernel
theorem dZ_picks_86 : decode bZ_picks 86 = .ok (.iconst 5, 1) := by decide +kernel
theorem dZ_picks_87 : decode bZ_picks 87 = .ok (.dup2, 1) := by decide +kernel
theorem dZ_picks_88 : decode bZ_picks 88 = .ok (.iaload, 1) := by decide +kernel
theorem dZ_picks_89 : decode bZ_picks 89 = .ok (.iconst 1, 1) := by decide +kernel
theorem dZ_picks_90 : decode bZ_picks 90 = .ok (.isub, 1) := by decide +kernel
theorem dZ_picks_91 : decode bZ_picks 91 = .ok (.iastore, 1) := by decide +kernel
theorem dZ_picks_92 : decode bZ_picks 92 = .ok (.aload_n 0, 1) := by decide +kernel
theorem dZ_picks_93 : decode bZ_picks 93 = .ok (.getfield 28, 3) := by decide +kernel
theorem dZ_picks_96 : decode bZ_picks 96 = .ok (.iconst 5, 1) := by decide +kernel
theorem dZ_picks_97 : decode bZ_picks 97 = .ok (.iaload, 1) := by decide +kernel
theorem dZ_picks_98 : decode bZ_picks 98 = .ok (.ireturn, 1) := by decide +kernel
theorem dZ_oldestAt_0 : decode bZ_oldestAt 0 = .ok (.bipush (-9), 2) := by decide +kernel
theorem dZ_oldestAt_2 : decode bZ_oldestAt 2 = .ok (.istore_n 2, 1) := by decide +kernel
theorem dZ_oldestAt_3 : decode bZ_oldestAt 3 = .ok (.aload_n 0, 1) := by decide +kernel
theorem dZ_oldestAt_4 : decode bZ_oldestAt 4 = .ok (.getfield 28, 3) := by decide +kernel
theorem dZ_oldestAt_7 : decode bZ_oldestAt 7 = .ok (.iconst 5, 1) := by decide +kernel
theorem dZ_oldestAt_8 : decode bZ_oldestAt 8 = .ok (.iaload, 1) := by decide +kernel
theorem dZ_oldestAt_9 : decode bZ_oldestAt 9 = .ok (.iconst 1, 1) := by decide +kernel
theorem dZ_oldestAt_10 : decode bZ_oldestAt 10 = .ok (.isub, 1) := by decide +kernel
theorem dZ_oldestAt_11 : decode bZ_oldestAt 11 = .ok (.istore_n 3, 1) := by decide +kernel
theorem dZ_oldestAt_12 : decode bZ_oldestAt 12 = .ok (.iload_n 3, 1) := by decide +kernel
theorem dZ_oldestAt_13 : decode bZ_oldestAt 13 = .ok (.ifCond .lt 28, 3) := by decide +kernel
theorem dZ_oldestAt_16 : decode bZ_oldestAt 16 = .ok (.aload_n 0, 1) := by decide +kernel
theorem dZ_oldestAt_17 : decode bZ_oldestAt 17 = .ok (.getfield 28, 3) := by decide +kernel
theorem dZ_oldestAt_20 : decode bZ_oldestAt 20 = .ok (.bipush 6, 2) := by decide +kernel
theorem dZ_oldestAt_22 : decode bZ_oldestAt 22 = .ok (.iload_n 3, 1) := by decide +kernel
theorem dZ_oldestAt_23 : decode bZ_oldestAt 23 = .ok (.iadd, 1) := by decide +kernel
theorem dZ_oldestAt_24 : decode bZ_oldestAt 24 = .ok (.iaload, 1) := by decide +kernel
theorem dZ_oldestAt_25 : decode bZ_oldestAt 25 = .ok (.iload_n 1, 1) := by decide +kernel
theorem dZ_oldestAt_26 : decode bZ_oldestAt 26 = .ok (.if_icmp .ne 7, 3) := by decide +kernel
theorem dZ_oldestAt_29 : decode bZ_oldestAt 29 = .ok (.iload_n 3, 1) := by decide +kernel
theorem dZ_oldestAt_30 : decode bZ_oldestAt 30 = .ok (.goto 4, 3) := by decide +kernel
theorem dZ_oldestAt_33 : decode bZ_oldestAt 33 = .ok (.iload_n 2, 1) := by decide +kernel
theorem dZ_oldestAt_34 : decode bZ_oldestAt 34 = .ok (.istore_n 2, 1) := by decide +kernel
theorem dZ_oldestAt_35 : decode bZ_oldestAt 35 = .ok (.iinc 3 (-1), 3) := by decide +kernel
theorem dZ_oldestAt_38 : decode bZ_oldestAt 38 = .ok (.goto (-26), 3) := by decide +kernel
theorem dZ_oldestAt_41 : decode bZ_oldestAt 41 = .ok (.iload_n 2, 1) := by decide +kernel
theorem dZ_oldestAt_42 : decode bZ_oldestAt 42 = .ok (.ireturn, 1) := by decide +kernel
theorem dZ_undo_0 : decode bZ_undo 0 = .ok (.aload_n 0, 1) := by decide +kernel
theorem dZ_undo_1 : decode bZ_undo 1 = .ok (.iconst 0, 1) := by decide +kernel
theorem dZ_undo_2 : decode bZ_undo 2 = .ok (.putfield 68, 3) := by decide +kernel
theorem dZ_undo_5 : decode bZ_undo 5 = .ok (.aload_n 0, 1) := by decide +kernel
theorem dZ_undo_6 : decode bZ_undo 6 = .ok (.getfield 133, 3) := by decide +kernel
theorem dZ_undo_9 : decode bZ_undo 9 = .ok (.ifCond .ne 6, 3) := by decide +kernel
theorem dZ_undo_12 : decode bZ_undo 12 = .ok (.bipush (-2), 2) := by decide +kernel
theorem dZ_undo_14 : decode bZ_undo 14 = .ok (.ireturn, 1) := by decide +kernel
theorem dZ_undo_15 : decode bZ_undo 15 = .ok (.aload_n 0, 1) := by decide +kernel
theorem dZ_undo_16 : decode bZ_undo 16 = .ok (.dup, 1) := by decide +kernel
theorem dZ_undo_17 : decode bZ_undo 17 = .ok (.getfield 133, 3) := by decide +kernel
theorem dZ_undo_20 : decode bZ_undo 20 = .ok (.iconst 1, 1) := by decide +kernel
theorem dZ_undo_21 : decode bZ_undo 21 = .ok (.isub, 1) := by decide +kernel
theorem dZ_undo_22 : decode bZ_undo 22 = .ok (.putfield 133, 3) := by decide +kernel
theorem dZ_undo_25 : decode bZ_undo 25 = .ok (.iconst 0, 1) := by decide +kernel
theorem dZ_undo_26 : decode bZ_undo 26 = .ok (.istore_n 1, 1) := by decide +kernel
theorem dZ_undo_27 : decode bZ_undo 27 = .ok (.iload_n 1, 1) := by decide +kernel
theorem dZ_undo_28 : decode bZ_undo 28 = .ok (.sipush 212, 3) := by decide +kernel
theorem dZ_undo_31 : decode bZ_undo 31 = .ok (.if_icmp .ge 30, 3) := by decide +kernel
theorem dZ_undo_34 : decode bZ_undo 34 = .ok (.aload_n 0, 1) := by decide +kernel
theorem dZ_undo_35 : decode bZ_undo 35 = .ok (.getfield 28, 3) := by decide +kernel
theorem dZ_undo_38 : decode bZ_undo 38 = .ok (.iload_n 1, 1) := by decide +kernel
theorem dZ_undo_39 : decode bZ_undo 39 = .ok (.aload_n 0, 1) := by decide +kernel
theorem dZ_undo_40 : decode bZ_undo 40 = .ok (.getfield 38, 3) := by decide +kernel
theorem dZ_undo_43 : decode bZ_undo 43 = .ok (.sipush 212, 3) := by decide +kernel
theorem dZ_undo_46 : decode bZ_undo 46 = .ok (.aload_n 0, 1) := by decide +kernel
theorem dZ_undo_47 : decode bZ_undo 47 = .ok (.getfield 133, 3) := by decide +kernel
theorem dZ_undo_50 : decode bZ_undo 50 = .ok (.imul, 1) := by decide +kernel
theorem dZ_undo_51 : decode bZ_undo 51 = .ok (.iload_n 1, 1) := by decide +kernel
theorem dZ_undo_52 : decode bZ_undo 52 = .ok (.iadd, 1) := by decide +kernel
theorem dZ_undo_53 : decode bZ_undo 53 = .ok (.iaload, 1) := by decide +kernel
theorem dZ_undo_54 : decode bZ_undo 54 = .ok (.iastore, 1) := by decide +kernel
theorem dZ_undo_55 : decode bZ_undo 55 = .ok (.iinc 1 1, 3) := by decide +kernel
theorem dZ_undo_58 : decode bZ_undo 58 = .ok (.goto (-31), 3) := by decide +kernel
theorem dZ_undo_61 : decode bZ_undo 61 = .ok (.aload_n 0, 1) := by decide +kernel
theorem dZ_undo_62 : decode bZ_undo 62 = .ok (.getfield 133, 3) := by decide +kernel
theorem dZ_undo_65 : decode bZ_undo 65 = .ok (.ireturn, 1) := by decide +kernel
theorem dZ_altitude_0 : decode bZ_altitude 0 = .ok (.aload_n 0, 1) := by decide +kernel
theorem dZ_altitude_1 : decode bZ_altitude 1 = .ok (.iconst 0, 1) := by decide +kernel
theorem dZ_altitude_2 : decode bZ_altitude 2 = .ok (.putfield 68, 3) := by decide +kernel
theorem dZ_altitude_5 : decode bZ_altitude 5 = .ok (.iload_n 1, 1) := by decide +kernel
theorem dZ_altitude_6 : decode bZ_altitude 6 = .ok (.iconst 0, 1) := by decide +kernel
theorem dZ_altitude_7 : decode bZ_altitude 7 = .ok (.sipush 1000, 3) := by decide +kernel
theorem dZ_altitude_10 : decode bZ_altitude 10 = .ok (.aload_n 0, 1) := by decide +kernel
theorem dZ_altitude_11 : decode bZ_altitude 11 = .ok (.invokevirtual 146, 3) := by decide +kernel
theorem dZ_altitude_14 : decode bZ_altitude 14 = .ok (.imul, 1) := by decide +kernel
theorem dZ_altitude_15 : decode bZ_altitude 15 = .ok (.invokestatic 72, 3) := by decide +kernel
theorem dZ_altitude_18 : decode bZ_altitude 18 = .ok (.ifCond .eq 11, 3) := by decide +kernel
theorem dZ_altitude_21 : decode bZ_altitude 21 = .ok (.aload_n 0, 1) := by decide +kernel
theorem dZ_altitude_22 : decode bZ_altitude 22 = .ok (.iload_n 1, 1) := by decide +kernel
theorem dZ_altitude_23 : decode bZ_altitude 23 = .ok (.invokevirtual 174, 3) := by decide +kernel
theorem dZ_altitude_26 : decode bZ_altitude 26 = .ok (.goto 4, 3) := by decide +kernel
theorem dZ_altitude_29 : decode bZ_altitude 29 = .ok (.iconst (-1), 1) := by decide +kernel
theorem dZ_altitude_30 : decode bZ_altitude 30 = .ok (.ireturn, 1) := by decide +kernel
theorem dZ_altitudeOf_0 : decode bZ_altitudeOf 0 = .ok (.iconst 0, 1) := by decide +kernel
theorem dZ_altitudeOf_1 : decode bZ_altitudeOf 1 = .ok (.istore_n 2, 1) := by decide +kernel
theorem dZ_altitudeOf_2 : decode bZ_altitudeOf 2 = .ok (.iconst 0, 1) := by decide +kernel
theorem dZ_altitudeOf_3 : decode bZ_altitudeOf 3 = .ok (.istore_n 3, 1) := by decide +kernel
theorem dZ_altitudeOf_4 : decode bZ_altitudeOf 4 = .ok (.iload_n 3, 1) := by decide +kernel
theorem dZ_altitudeOf_5 : decode bZ_altitudeOf 5 = .ok (.iload_n 1, 1) := by decide +kernel
theorem dZ_altitudeOf_6 : decode bZ_altitudeOf 6 = .ok (.sipush 1000, 3) := by decide +kernel
theorem dZ_altitudeOf_9 : decode bZ_altitudeOf 9 = .ok (.idiv, 1) := by decide +kernel
theorem dZ_altitudeOf_10 : decode bZ_altitudeOf 10 = .ok (.if_icmp .ge 21, 3) := by decide +kernel
theorem dZ_altitudeOf_13 : decode bZ_altitudeOf 13 = .ok (.iload_n 2, 1) := by decide +kernel
theorem dZ_altitudeOf_14 : decode bZ_altitudeOf 14 = .ok (.sipush 1000, 3) := by decide +kernel
theorem dZ_altitudeOf_17 : decode bZ_altitudeOf 17 = .ok (.aload_n 0, 1) := by decide +kernel
theorem dZ_altitudeOf_18 : decode bZ_altitudeOf 18 = .ok (.iload_n 3, 1) := by decide +kernel
theorem dZ_altitudeOf_19 : decode bZ_altitudeOf 19 = .ok (.invokevirtual 150, 3) := by decide +kernel
theorem dZ_altitudeOf_22 : decode bZ_altitudeOf 22 = .ok (.imul, 1) := by decide +kernel
theorem dZ_altitudeOf_23 : decode bZ_altitudeOf 23 = .ok (.iadd, 1) := by decide +kernel
theorem dZ_altitudeOf_24 : decode bZ_altitudeOf 24 = .ok (.istore_n 2, 1) := by decide +kernel
theorem dZ_altitudeOf_25 : decode bZ_altitudeOf 25 = .ok (.iinc 3 1, 3) := by decide +kernel
theorem dZ_altitudeOf_28 : decode bZ_altitudeOf 28 = .ok (.goto (-24), 3) := by decide +kernel
theorem dZ_altitudeOf_31 : decode bZ_altitudeOf 31 = .ok (.iload_n 1, 1) := by decide +kernel
theorem dZ_altitudeOf_32 : decode bZ_altitudeOf 32 = .ok (.sipush 1000, 3) := by decide +kernel
theorem dZ_altitudeOf_35 : decode bZ_altitudeOf 35 = .ok (.irem, 1) := by decide +kernel
theorem dZ_altitudeOf_36 : decode bZ_altitudeOf 36 = .ok (.istore_n 3, 1) := by decide +kernel
theorem dZ_altitudeOf_37 : decode bZ_altitudeOf 37 = .ok (.iload_n 3, 1) := by decide +kernel
theorem dZ_altitudeOf_38 : decode bZ_altitudeOf 38 = .ok (.ifCond .ne 7, 3) := by decide +kernel
theorem dZ_altitudeOf_41 : decode bZ_altitudeOf 41 = .ok (.iload_n 2, 1) := by decide +kernel
theorem dZ_altitudeOf_42 : decode bZ_altitudeOf 42 = .ok (.goto 16, 3) := by decide +kernel
theorem dZ_altitudeOf_45 : decode bZ_altitudeOf 45 = .ok (.iload_n 2, 1) := by decide +kernel
theorem dZ_altitudeOf_46 : decode bZ_altitudeOf 46 = .ok (.iload_n 3, 1) := by decide +kernel
theorem dZ_altitudeOf_47 : decode bZ_altitudeOf 47 = .ok (.aload_n 0, 1) := by decide +kernel
theorem dZ_altitudeOf_48 : decode bZ_altitudeOf 48 = .ok (.iload_n 1, 1) := by decide +kernel
theorem dZ_altitudeOf_49 : decode bZ_altitudeOf 49 = .ok (.sipush 1000, 3) := by decide +kernel
theorem dZ_altitudeOf_52 : decode bZ_altitudeOf 52 = .ok (.idiv, 1) := by decide +kernel
theorem dZ_altitudeOf_53 : decode bZ_altitudeOf 53 = .ok (.invokevirtual 150, 3) := by decide +kernel
theorem dZ_altitudeOf_56 : decode bZ_altitudeOf 56 = .ok (.imul, 1) := by decide +kernel
theorem dZ_altitudeOf_57 : decode bZ_altitudeOf 57 = .ok (.iadd, 1) := by decide +kernel
theorem dZ_altitudeOf_58 : decode bZ_altitudeOf 58 = .ok (.ireturn, 1) := by decide +kernel
theorem dZ_step_0 : decode bZ_step 0 = .ok (.aload_n 0, 1) := by decide +kernel
theorem dZ_step_1 : decode bZ_step 1 = .ok (.iconst 0, 1) := by decide +kernel
theorem dZ_step_2 : decode bZ_step 2 = .ok (.putfield 68, 3) := by decide +kernel
theorem dZ_step_5 : decode bZ_step 5 = .ok (.iload_n 1, 1) := by decide +kernel
theorem dZ_step_6 : decode bZ_step 6 = .ok (.iconst 0, 1) := by decide +kernel
theorem dZ_step_7 : decode bZ_step 7 = .ok (.ldc 177, 2) := by decide +kernel
theorem dZ_step_9 : decode bZ_step 9 = .ok (.invokestatic 72, 3) := by decide +kernel
theorem dZ_step_12 : decode bZ_step 12 = .ok (.ifCond .ne 5, 3) := by decide +kernel
theorem dZ_step_15 : decode bZ_step 15 = .ok (.iconst (-1), 1) := by decide +kernel
theorem dZ_step_16 : decode bZ_step 16 = .ok (.ireturn, 1) := by decide +kernel
theorem dZ_step_17 : decode bZ_step 17 = .ok (.iload_n 1, 1) := by decide +kernel
theorem dZ_step_18 : decode bZ_step 18 = .ok (.istore_n 2, 1) := by decide +kernel
theorem dZ_step_19 : decode bZ_step 19 = .ok (.iconst 0, 1) := by decide +kernel
theorem dZ_step_20 : decode bZ_step 20 = .ok (.istore_n 3, 1) := by decide +kernel
theorem dZ_step_21 : decode bZ_step 21 = .ok (.iload_n 3, 1) := by decide +kernel
theorem dZ_step_22 : decode bZ_step 22 = .ok (.aload_n 0, 1) := by decide +kernel
theorem dZ_step_23 : decode bZ_step 23 = .ok (.invokevirtual 146, 3) := by decide +kernel
theorem dZ_step_26 : decode bZ_step 26 = .ok (.if_icmp .ge 51, 3) := by decide +kernel
theorem dZ_step_29 : decode bZ_step 29 = .ok (.aload_n 0, 1) := by decide +kernel
theorem dZ_step_30 : decode bZ_step 30 = .ok (.iload_n 3, 1) := by decide +kernel
theorem dZ_step_31 : decode bZ_step 31 = .ok (.invokevirtual 150, 3) := by decide +kernel
theorem dZ_step_34 : decode bZ_step 34 = .ok (.istore 4, 2) := by decide +kernel
theorem dZ_step_36 : decode bZ_step 36 = .ok (.iload_n 2, 1) := by decide +kernel
theorem dZ_step_37 : decode bZ_step 37 = .ok (.sipush 1000, 3) := by decide +kernel
theorem dZ_step_40 : decode bZ_step 40 = .ok (.iload 4, 2) := by decide +kernel
theorem dZ_step_42 : decode bZ_step 42 = .ok (.imul, 1) := by decide +kernel
theorem dZ_step_43 : decode bZ_step 43 = .ok (.if_icmp .gt 19, 3) := by decide +kernel
theorem dZ_step_46 : decode bZ_step 46 = .ok (.sipush 1000, 3) := by decide +kernel
theorem dZ_step_49 : decode bZ_step 49 = .ok (.iload_n 3, 1) := by decide +kernel
theorem dZ_step_50 : decode bZ_step 50 = .ok (.imul, 1) := by decide +kernel
theorem dZ_step_51 : decode bZ_step 51 = .ok (.iload_n 2, 1) := by decide +kernel
theorem dZ_step_52 : decode bZ_step 52 = .ok (.iload 4, 2) := by decide +kernel
theorem dZ_step_54 : decode bZ_step 54 = .ok (.iadd, 1) := by decide +kernel
theorem dZ_step_55 : decode bZ_step 55 = .ok (.iconst 1, 1) := by decide +kernel
theorem dZ_step_56 : decode bZ_step 56 = .ok (.isub, 1) := by decide +kernel
theorem dZ_step_57 : decode bZ_step 57 = .ok (.iload 4, 2) := by decide +kernel
theorem dZ_step_59 : decode bZ_step 59 = .ok (.idiv, 1) := by decide +kernel
theorem dZ_step_60 : decode bZ_step 60 = .ok (.iadd, 1) := by decide +kernel
theorem dZ_step_61 : decode bZ_step 61 = .ok (.ireturn, 1) := by decide +kernel
theorem dZ_step_62 : decode bZ_step 62 = .ok (.iload_n 2, 1) := by decide +kernel
theorem dZ_step_63 : decode bZ_step 63 = .ok (.sipush 1000, 3) := by decide +kernel
theorem dZ_step_66 : decode bZ_step 66 = .ok (.iload 4, 2) := by decide +kernel
theorem dZ_step_68 : decode bZ_step 68 = .ok (.imul, 1) := by decide +kernel
theorem dZ_step_69 : decode bZ_step 69 = .ok (.isub, 1) := by decide +kernel
theorem dZ_step_70 : decode bZ_step 70 = .ok (.istore_n 2, 1) := by decide +kernel
theorem dZ_step_71 : decode bZ_step 71 = .ok (.iinc 3 1, 3) := by decide +kernel
theorem dZ_step_74 : decode bZ_step 74 = .ok (.goto (-53), 3) := by decide +kernel
theorem dZ_step_77 : decode bZ_step 77 = .ok (.iload_n 2, 1) := by decide +kernel
theorem dZ_step_78 : decode bZ_step 78 = .ok (.ifCond .ne 14, 3) := by decide +kernel
theorem dZ_step_81 : decode bZ_step 81 = .ok (.sipush 1000, 3) := by decide +kernel
theorem dZ_step_84 : decode bZ_step 84 = .ok (.aload_n 0, 1) := by decide +kernel
theorem dZ_step_85 : decode bZ_step 85 = .ok (.invokevirtual 146, 3) := by decide +kernel
theorem dZ_step_88 : decode bZ_step 88 = .ok (.imul, 1) := by decide +kernel
theorem dZ_step_89 : decode bZ_step 89 = .ok (.goto 5, 3) := by decide +kernel
theorem dZ_step_92 : decode bZ_step 92 = .ok (.bipush (-9), 2) := by decide +kernel
theorem dZ_step_94 : decode bZ_step 94 = .ok (.ireturn, 1) := by decide +kernel
theorem dZ_hands_0 : decode bZ_hands 0 = .ok (.aload_n 0, 1) := by decide +kernel
theorem dZ_hands_1 : decode bZ_hands 1 = .ok (.iconst 0, 1) := by decide +kernel
theorem dZ_hands_2 : decode bZ_hands 2 = .ok (.putfield 68, 3) := by decide +kernel
theorem dZ_hands_5 : decode bZ_hands 5 = .ok (.iload_n 1, 1) := by decide +kernel
theorem dZ_hands_6 : decode bZ_hands 6 = .ok (.iconst 1, 1) := by decide +kernel
theorem dZ_hands_7 : decode bZ_hands 7 = .ok (.bipush 99, 2) := by decide +kernel
theorem dZ_hands_9 : decode bZ_hands 9 = .ok (.invokestatic 72, 3) := by decide +kernel
theorem dZ_hands_12 : decode bZ_hands 12 = .ok (.ifCond .ne 5, 3) := by decide +kernel
theorem dZ_hands_15 : decode bZ_hands 15 = .ok (.iconst (-1), 1) := by decide +kernel
theorem dZ_hands_16 : decode bZ_hands 16 = .ok (.ireturn, 1) := by decide +kernel
theorem dZ_hands_17 : decode bZ_hands 17 = .ok (.bipush (-9), 2) := by decide +kernel
theorem dZ_hands_19 : decode bZ_hands 19 = .ok (.istore_n 2, 1) := by decide +kernel
theorem dZ_hands_20 : decode bZ_hands 20 = .ok (.bipush 9, 2) := by decide +kernel
theorem dZ_hands_22 : decode bZ_hands 22 = .ok (.istore_n 3, 1) := by decide +kernel
theorem dZ_hands_23 : decode bZ_hands 23 = .ok (.iload_n 3, 1) := by decide +kernel
theorem dZ_hands_24 : decode bZ_hands 24 = .ok (.iconst 2, 1) := by decide +kernel
theorem dZ_hands_25 : decode bZ_hands 25 = .ok (.if_icmp .lt 24, 3) := by decide +kernel
theorem dZ_hands_28 : decode bZ_hands 28 = .ok (.aload_n 0, 1) := by decide +kernel
theorem dZ_hands_29 : decode bZ_hands 29 = .ok (.iload_n 3, 1) := by decide +kernel
theorem dZ_hands_30 : decode bZ_hands 30 = .ok (.invokevirtual 162, 3) := by decide +kernel
theorem dZ_hands_33 : decode bZ_hands 33 = .ok (.iload_n 1, 1) := by decide +kernel
theorem dZ_hands_34 : decode bZ_hands 34 = .ok (.if_icmp .gt 7, 3) := by decide +kernel
theorem dZ_hands_37 : decode bZ_hands 37 = .ok (.iload_n 3, 1) := by decide +kernel
theorem dZ_hands_38 : decode bZ_hands 38 = .ok (.goto 4, 3) := by decide +kernel
theorem dZ_hands_41 : decode bZ_hands 41 = .ok (.iload_n 2, 1) := by decide +kernel
theorem dZ_hands_42 : decode bZ_hands 42 = .ok (.istore_n 2, 1) := by decide +kernel
theorem dZ_hands_43 : decode bZ_hands 43 = .ok (.iinc 3 (-1), 3) := by decide +kernel
theorem dZ_hands_46 : decode bZ_hands 46 = .ok (.goto (-23), 3) := by decide +kernel
theorem dZ_hands_49 : decode bZ_hands 49 = .ok (.iload_n 2, 1) := by decide +kernel
theorem dZ_hands_50 : decode bZ_hands 50 = .ok (.ireturn, 1) := by decide +kernel
theorem dZ_sees_0 : decode bZ_sees 0 = .ok (.aload_n 0, 1) := by decide +kernel
theorem dZ_sees_1 : decode bZ_sees 1 = .ok (.iconst 0, 1) := by decide +kernel
theorem dZ_sees_2 : decode bZ_sees 2 = .ok (.putfield 68, 3) := by decide +kernel
theorem dZ_sees_5 : decode bZ_sees 5 = .ok (.iload_n 1, 1) := by decide +kernel
theorem dZ_sees_6 : decode bZ_sees 6 = .ok (.iconst 0, 1) := by decide +kernel
theorem dZ_sees_7 : decode bZ_sees 7 = .ok (.aload_n 0, 1) := by decide +kernel
theorem dZ_sees_8 : decode bZ_sees 8 = .ok (.invokevirtual 146, 3) := by decide +kernel
theorem dZ_sees_11 : decode bZ_sees 11 = .ok (.iconst 1, 1) := by decide +kernel
theorem dZ_sees_12 : decode bZ_sees 12 = .ok (.isub, 1) := by decide +kernel
theorem dZ_sees_13 : decode bZ_sees 13 = .ok (.invokestatic 72, 3) := by decide +kernel
theorem dZ_sees_16 : decode bZ_sees 16 = .ok (.ifCond .eq 13, 3) := by decide +kernel
theorem dZ_sees_19 : decode bZ_sees 19 = .ok (.iload_n 2, 1) := by decide +kernel
theorem dZ_sees_20 : decode bZ_sees 20 = .ok (.iconst 0, 1) := by decide +kernel
theorem dZ_sees_21 : decode bZ_sees 21 = .ok (.bipush 40, 2) := by decide +kernel
theorem dZ_sees_23 : decode bZ_sees 23 = .ok (.invokestatic 72, 3) := by decide +kernel
theorem dZ_sees_26 : decode bZ_sees 26 = .ok (.ifCond .ne 5, 3) := by decide +kernel
theorem dZ_sees_29 : decode bZ_sees 29 = .ok (.iconst (-1), 1) := by decide +kernel
theorem dZ_sees_30 : decode bZ_sees 30 = .ok (.ireturn, 1) := by decide +kernel
theorem dZ_sees_31 : decode bZ_sees 31 = .ok (.aload_n 0, 1) := by decide +kernel
theorem dZ_sees_32 : decode bZ_sees 32 = .ok (.getfield 127, 3) := by decide +kernel
theorem dZ_sees_35 : decode bZ_sees 35 = .ok (.bipush 6, 2) := by decide +kernel
theorem dZ_sees_37 : decode bZ_sees 37 = .ok (.if_icmp .ne 6, 3) := by decide +kernel
theorem dZ_sees_40 : decode bZ_sees 40 = .ok (.bipush (-3), 2) := by decide +kernel
theorem dZ_sees_42 : decode bZ_sees 42 = .ok (.ireturn, 1) := by decide +kernel
theorem dZ_sees_43 : decode bZ_sees 43 = .ok (.aload_n 0, 1) := by decide +kernel
theorem dZ_sees_44 : decode bZ_sees 44 = .ok (.getfield 41, 3) := by decide +kernel
theorem dZ_sees_47 : decode bZ_sees 47 = .ok (.aload_n 0, 1) := by decide +kernel
theorem dZ_sees_48 : decode bZ_sees 48 = .ok (.getfield 127, 3) := by decide +kernel
theorem dZ_sees_51 : decode bZ_sees 51 = .ok (.iload_n 1, 1) := by decide +kernel
theorem dZ_sees_52 : decode bZ_sees 52 = .ok (.iastore, 1) := by decide +kernel
theorem dZ_sees_53 : decode bZ_sees 53 = .ok (.aload_n 0, 1) := by decide +kernel
theorem dZ_sees_54 : decode bZ_sees 54 = .ok (.getfield 44, 3) := by decide +kernel
theorem dZ_sees_57 : decode bZ_sees 57 = .ok (.aload_n 0, 1) := by decide +kernel
theorem dZ_sees_58 : decode bZ_sees 58 = .ok (.getfield 127, 3) := by decide +kernel
theorem dZ_sees_61 : decode bZ_sees 61 = .ok (.iload_n 2, 1) := by decide +kernel
theorem dZ_sees_62 : decode bZ_sees 62 = .ok (.iastore, 1) := by decide +kernel
theorem dZ_sees_63 : decode bZ_sees 63 = .ok (.aload_n 0, 1) := by decide +kernel
theorem dZ_sees_64 : decode bZ_sees 64 = .ok (.dup, 1) := by decide +kernel
theorem dZ_sees_65 : decode bZ_sees 65 = .ok (.getfield 127, 3) := by decide +kernel
theorem dZ_sees_68 : decode bZ_sees 68 = .ok (.iconst 1, 1) := by decide +kernel
theorem dZ_sees_69 : decode bZ_sees 69 = .ok (.iadd, 1) := by decide +kernel
theorem dZ_sees_70 : decode bZ_sees 70 = .ok (.putfield 127, 3) := by decide +kernel
theorem dZ_sees_73 : decode bZ_sees 73 = .ok (.aload_n 0, 1) := by decide +kernel
theorem dZ_sees_74 : decode bZ_sees 74 = .ok (.getfield 127, 3) := by decide +kernel
theorem dZ_sees_77 : decode bZ_sees 77 = .ok (.ireturn, 1) := by decide +kernel
theorem dZ_can_0 : decode bZ_can 0 = .ok (.aload_n 0, 1) := by decide +kernel
theorem dZ_can_1 : decode bZ_can 1 = .ok (.iconst 0, 1) := by decide +kernel
theorem dZ_can_2 : decode bZ_can 2 = .ok (.putfield 68, 3) := by decide +kernel
theorem dZ_can_5 : decode bZ_can 5 = .ok (.iload_n 1, 1) := by decide +kernel
theorem dZ_can_6 : decode bZ_can 6 = .ok (.bipush (-2), 2) := by decide +kernel
theorem dZ_can_8 : decode bZ_can 8 = .ok (.aload_n 0, 1) := by decide +kernel
theorem dZ_can_9 : decode bZ_can 9 = .ok (.getfield 13, 3) := by decide +kernel
theorem dZ_can_12 : decode bZ_can 12 = .ok (.iconst 1, 1) := by decide +kernel
theorem dZ_can_13 : decode bZ_can 13 = .ok (.iaload, 1) := by decide +kernel
theorem dZ_can_14 : decode bZ_can 14 = .ok (.iconst 1, 1) := by decide +kernel
theorem dZ_can_15 : decode bZ_can 15 = .ok (.isub, 1) := by decide +kernel
theorem dZ_can_16 : decode bZ_can 16 = .ok (.invokestatic 72, 3) := by decide +kernel
theorem dZ_can_19 : decode bZ_can 19 = .ok (.ifCond .ne 5, 3) := by decide +kernel
theorem dZ_can_22 : decode bZ_can 22 = .ok (.iconst (-1), 1) := by decide +kernel
theorem dZ_can_23 : decode bZ_can 23 = .ok (.ireturn, 1) := by decide +kernel
theorem dZ_can_24 : decode bZ_can 24 = .ok (.iconst 0, 1) := by decide +kernel
theorem dZ_can_25 : decode bZ_can 25 = .ok (.istore_n 2, 1) := by decide +kernel
theorem dZ_can_26 : decode bZ_can 26 = .ok (.bipush (-9), 2) := by decide +kernel
theorem dZ_can_28 : decode bZ_can 28 = .ok (.istore_n 3, 1) := by decide +kernel
theorem dZ_can_29 : decode bZ_can 29 = .ok (.bipush (-9), 2) := by decide +kernel
theorem dZ_can_31 : decode bZ_can 31 = .ok (.istore 4, 2) := by decide +kernel
theorem dZ_can_33 : decode bZ_can 33 = .ok (.iconst 0, 1) := by decide +kernel
theorem dZ_can_34 : decode bZ_can 34 = .ok (.istore 5, 2) := by decide +kernel
theorem dZ_can_36 : decode bZ_can 36 = .ok (.iload 5, 2) := by decide +kernel
theorem dZ_can_38 : decode bZ_can 38 = .ok (.aload_n 0, 1) := by decide +kernel
theorem dZ_can_39 : decode bZ_can 39 = .ok (.getfield 13, 3) := by decide +kernel
theorem dZ_can_42 : decode bZ_can 42 = .ok (.iconst 1, 1) := by decide +kernel
theorem dZ_can_43 : decode bZ_can 43 = .ok (.iaload, 1) := by decide +kernel
theorem dZ_can_44 : decode bZ_can 44 = .ok (.invokestatic 178, 3) := by decide +kernel
theorem dZ_can_47 : decode bZ_can 47 = .ok (.if_icmp .ge 83, 3) := by decide +kernel
theorem dZ_can_50 : decode bZ_can 50 = .ok (.aload_n 0, 1) := by decide +kernel
theorem dZ_can_51 : decode bZ_can 51 = .ok (.iload 5, 2) := by decide +kernel
theorem dZ_can_53 : decode bZ_can 53 = .ok (.invokevirtual 181, 3) := by decide +kernel
theorem dZ_can_56 : decode bZ_can 56 = .ok (.ifCond .eq 68, 3) := by decide +kernel
theorem dZ_can_59 : decode bZ_can 59 = .ok (.iload_n 1, 1) := by decide +kernel
theorem dZ_can_60 : decode bZ_can 60 = .ok (.ifCond .ge 7, 3) := by decide +kernel
theorem dZ_can_63 : decode bZ_can 63 = .ok (.iconst 0, 1) := by decide +kernel
theorem dZ_can_64 : decode bZ_can 64 = .ok (.goto 13, 3) := by decide +kernel
theorem dZ_can_67 : decode bZ_can 67 = .ok (.iload 5, 2) := by decide +kernel
theorem dZ_can_69 : decode bZ_can 69 = .ok (.iload_n 1, 1) := by decide +kernel
theorem dZ_can_70 : decode bZ_can 70 = .ok (.invokestatic 178, 3) := by decide +kernel
theorem dZ_can_73 : decode bZ_can 73 = .ok (.idiv, 1) := by decide +kernel
theorem dZ_can_74 : decode bZ_can 74 = .ok (.bipush 10, 2) := by decide +kernel
theorem dZ_can_76 : decode bZ_can 76 = .ok (.irem, 1) := by decide +kernel
theorem dZ_can_77 : decode bZ_can 77 = .ok (.istore 6, 2) := by decide +kernel
theorem dZ_can_79 : decode bZ_can 79 = .ok (.iload_n 2, 1) := by decide +kernel
theorem dZ_can_80 : decode bZ_can 80 = .ok (.ifCond .eq 10, 3) := by decide +kernel
theorem dZ_can_83 : decode bZ_can 83 = .ok (.iload 4, 2) := by decide +kernel
theorem dZ_can_85 : decode bZ_can 85 = .ok (.iload 6, 2) := by decide +kernel
theorem dZ_can_87 : decode bZ_can 87 = .ok (.if_icmp .ne 8, 3) := by decide +kernel
theorem dZ_can_90 : decode bZ_can 90 = .ok (.iload 6, 2) := by decide +kernel
theorem dZ_can_92 : decode bZ_can 92 = .ok (.goto 4, 3) := by decide +kernel
theorem dZ_can_95 : decode bZ_can 95 = .ok (.iconst (-1), 1) := by decide +kernel
theorem dZ_can_96 : decode bZ_can 96 = .ok (.istore 4, 2) := by decide +kernel
theorem dZ_can_98 : decode bZ_can 98 = .ok (.iload_n 2, 1) := by decide +kernel
theorem dZ_can_99 : decode bZ_can 99 = .ok (.ifCond .eq 12, 3) := by decide +kernel
theorem dZ_can_102 : decode bZ_can 102 = .ok (.iload 5, 2) := by decide +kernel
theorem dZ_can_104 : decode bZ_can 104 = .ok (.invokestatic 184, 3) := by decide +kernel
theorem dZ_can_107 : decode bZ_can 107 = .ok (.iload_n 3, 1) := by decide +kernel
theorem dZ_can_108 : decode bZ_can 108 = .ok (.if_icmp .ge 11, 3) := by decide +kernel
theorem dZ_can_111 : decode bZ_can 111 = .ok (.iload 5, 2) := by decide +kernel
theorem dZ_can_113 : decode bZ_can 113 = .ok (.invokestatic 184, 3) := by decide +kernel
theorem dZ_can_116 : decode bZ_can 116 = .ok (.goto 4, 3) := by decide +kernel
theorem dZ_can_119 : decode bZ_can 119 = .ok (.iload_n 3, 1) := by decide +kernel
theorem dZ_can_120 : decode bZ_can 120 = .ok (.istore_n 3, 1) := by decide +kernel
theorem dZ_can_121 : decode bZ_can 121 = .ok (.iinc 2 1, 3) := by decide +kernel
theorem dZ_can_124 : decode bZ_can 124 = .ok (.iinc 5 1, 3) := by decide +kernel
theorem dZ_can_127 : decode bZ_can 127 = .ok (.goto (-91), 3) := by decide +kernel
theorem dZ_can_130 : decode bZ_can 130 = .ok (.iload_n 1, 1) := by decide +kernel
theorem dZ_can_131 : decode bZ_can 131 = .ok (.iconst (-1), 1) := by decide +kernel
theorem dZ_can_132 : decode bZ_can 132 = .ok (.if_icmp .ne 7, 3) := by decide +kernel
theorem dZ_can_135 : decode bZ_can 135 = .ok (.iload_n 2, 1) := by decide +kernel
theorem dZ_can_136 : decode bZ_can 136 = .ok (.goto 25, 3) := by decide +kernel
theorem dZ_can_139 : decode bZ_can 139 = .ok (.iload_n 1, 1) := by decide +kernel
theorem dZ_can_140 : decode bZ_can 140 = .ok (.bipush (-2), 2) := by decide +kernel
theorem dZ_can_142 : decode bZ_can 142 = .ok (.if_icmp .ne 7, 3) := by decide +kernel
theorem dZ_can_145 : decode bZ_can 145 = .ok (.iload_n 3, 1) := by decide +kernel
theorem dZ_can_146 : decode bZ_can 146 = .ok (.goto 15, 3) := by decide +kernel
theorem dZ_can_149 : decode bZ_can 149 = .ok (.iload 4, 2) := by decide +kernel
theorem dZ_can_151 : decode bZ_can 151 = .ok (.ifCond .ge 8, 3) := by decide +kernel
theorem dZ_can_154 : decode bZ_can 154 = .ok (.bipush (-9), 2) := by decide +kernel
theorem dZ_can_156 : decode bZ_can 156 = .ok (.goto 5, 3) := by decide +kernel
theorem dZ_can_159 : decode bZ_can 159 = .ok (.iload 4, 2) := by decide +kernel
theorem dZ_can_161 : decode bZ_can 161 = .ok (.ireturn, 1) := by decide +kernel
theorem dZ_tens_0 : decode bZ_tens 0 = .ok (.iconst 1, 1) := by decide +kernel
theorem dZ_tens_1 : decode bZ_tens 1 = .ok (.istore_n 1, 1) := by decide +kernel
theorem dZ_tens_2 : decode bZ_tens 2 = .ok (.iconst 0, 1) := by decide +kernel
theorem dZ_tens_3 : decode bZ_tens 3 = .ok (.istore_n 2, 1) := by decide +kernel
theorem dZ_tens_4 : decode bZ_tens 4 = .ok (.iload_n 2, 1) := by decide +kernel
theorem dZ_tens_5 : decode bZ_tens 5 = .ok (.iload_n 0, 1) := by decide +kernel
theorem dZ_tens_6 : decode bZ_tens 6 = .ok (.if_icmp .ge 14, 3) := by decide +kernel
theorem dZ_tens_9 : decode bZ_tens 9 = .ok (.iload_n 1, 1) := by decide +kernel
theorem dZ_tens_10 : decode bZ_tens 10 = .ok (.bipush 10, 2) := by decide +kernel
theorem dZ_tens_12 : decode bZ_tens 12 = .ok (.imul, 1) := by decide +kernel
theorem dZ_tens_13 : decode bZ_tens 13 = .ok (.istore_n 1, 1) := by decide +kernel
theorem dZ_tens_14 : decode bZ_tens 14 = .ok (.iinc 2 1, 3) := by decide +kernel
theorem dZ_tens_17 : decode bZ_tens 17 = .ok (.goto (-13), 3) := by decide +kernel
theorem dZ_tens_20 : decode bZ_tens 20 = .ok (.iload_n 1, 1) := by decide +kernel
theorem dZ_tens_21 : decode bZ_tens 21 = .ok (.ireturn, 1) := by decide +kernel
theorem dZ_isAsSeen_0 : decode bZ_isAsSeen 0 = .ok (.iconst 1, 1) := by decide +kernel
theorem dZ_isAsSeen_1 : decode bZ_isAsSeen 1 = .ok (.istore_n 2, 1) := by decide +kernel
theorem dZ_isAsSeen_2 : decode bZ_isAsSeen 2 = .ok (.iconst 0, 1) := by decide +kernel
theorem dZ_isAsSeen_3 : decode bZ_isAsSeen 3 = .ok (.istore_n 3, 1) := by decide +kernel
theorem dZ_isAsSeen_4 : decode bZ_isAsSeen 4 = .ok (.iload_n 3, 1) := by decide +kernel
theorem dZ_isAsSeen_5 : decode bZ_isAsSeen 5 = .ok (.aload_n 0, 1) := by decide +kernel
theorem dZ_isAsSeen_6 : decode bZ_isAsSeen 6 = .ok (.getfield 127, 3) := by decide +kernel
theorem dZ_isAsSeen_9 : decode bZ_isAsSeen 9 = .ok (.if_icmp .ge 88, 3) := by decide +kernel
theorem dZ_isAsSeen_12 : decode bZ_isAsSeen 12 = .ok (.iconst 0, 1) := by decide +kernel
theorem dZ_isAsSeen_13 : decode bZ_isAsSeen 13 = .ok (.istore 4, 2) := by decide +kernel
theorem dZ_isAsSeen_15 : decode bZ_isAsSeen 15 = .ok (.iconst 0, 1) := by decide +kernel
theorem dZ_isAsSeen_16 : decode bZ_isAsSeen 16 = .ok (.istore 5, 2) := by decide +kernel
theorem dZ_isAsSeen_18 : decode bZ_isAsSeen 18 = .ok (.iload 5, 2) := by decide +kernel
theorem dZ_isAsSeen_20 : decode bZ_isAsSeen 20 = .ok (.aload_n 0, 1) := by decide +kernel
theorem dZ_isAsSeen_21 : decode bZ_isAsSeen 21 = .ok (.getfield 13, 3) := by decide +kernel
theorem dZ_isAsSeen_24 : decode bZ_isAsSeen 24 = .ok (.iconst 1, 1) := by decide +kernel
theorem dZ_isAsSeen_25 : decode bZ_isAsSeen 25 = .ok (.iaload, 1) := by decide +kernel
theorem dZ_isAsSeen_26 : decode bZ_isAsSeen 26 = .ok (.if_icmp .ge 44, 3) := by decide +kernel
theorem dZ_isAsSeen_29 : decode bZ_isAsSeen 29 = .ok (.iload 4, 2) := by decide +kernel
theorem dZ_isAsSeen_31 : decode bZ_isAsSeen 31 = .ok (.aload_n 0, 1) := by decide +kernel
theorem dZ_isAsSeen_32 : decode bZ_isAsSeen 32 = .ok (.getfield 25, 3) := by decide +kernel
theorem dZ_isAsSeen_35 : decode bZ_isAsSeen 35 = .ok (.iload 5, 2) := by decide +kernel
theorem dZ_isAsSeen_37 : decode bZ_isAsSeen 37 = .ok (.iaload, 1) := by decide +kernel
theorem dZ_isAsSeen_38 : decode bZ_isAsSeen 38 = .ok (.aload_n 0, 1) := by decide +kernel
theorem dZ_isAsSeen_39 : decode bZ_isAsSeen 39 = .ok (.getfield 41, 3) := by decide +kernel
theorem dZ_isAsSeen_42 : decode bZ_isAsSeen 42 = .ok (.iload_n 3, 1) := by decide +kernel
theorem dZ_isAsSeen_43 : decode bZ_isAsSeen 43 = .ok (.iaload, 1) := by decide +kernel
theorem dZ_isAsSeen_44 : decode bZ_isAsSeen 44 = .ok (.if_icmp .le 16, 3) := by decide +kernel
theorem dZ_isAsSeen_47 : decode bZ_isAsSeen 47 = .ok (.iload_n 1, 1) := by decide +kernel
theorem dZ_isAsSeen_48 : decode bZ_isAsSeen 48 = .ok (.iload 5, 2) := by decide +kernel
theorem dZ_isAsSeen_50 : decode bZ_isAsSeen 50 = .ok (.invokestatic 178, 3) := by decide +kernel
theorem dZ_isAsSeen_53 : decode bZ_isAsSeen 53 = .ok (.idiv, 1) := by decide +kernel
theorem dZ_isAsSeen_54 : decode bZ_isAsSeen 54 = .ok (.bipush 10, 2) := by decide +kernel
theorem dZ_isAsSeen_56 : decode bZ_isAsSeen 56 = .ok (.irem, 1) := by decide +kernel
theorem dZ_isAsSeen_57 : decode bZ_isAsSeen 57 = .ok (.goto 4, 3) := by decide +kernel
theorem dZ_isAsSeen_60 : decode bZ_isAsSeen 60 = .ok (.iconst 0, 1) := by decide +kernel
theorem dZ_isAsSeen_61 : decode bZ_isAsSeen 61 = .ok (.iadd, 1) := by decide +kernel
theorem dZ_isAsSeen_62 : decode bZ_isAsSeen 62 = .ok (.istore 4, 2) := by decide +kernel
theorem dZ_isAsSeen_64 : decode bZ_isAsSeen 64 = .ok (.iinc 5 1, 3) := by decide +kernel
theorem dZ_isAsSeen_67 : decode bZ_isAsSeen 67 = .ok (.goto (-49), 3) := by decide +kernel
theorem dZ_isAsSeen_70 : decode bZ_isAsSeen 70 = .ok (.iload_n 2, 1) := by decide +kernel
theorem dZ_isAsSeen_71 : decode bZ_isAsSeen 71 = .ok (.ifCond .eq 18, 3) := by decide +kernel
theorem dZ_isAsSeen_74 : decode bZ_isAsSeen 74 = .ok (.iload 4, 2) := by decide +kernel
theorem dZ_isAsSeen_76 : decode bZ_isAsSeen 76 = .ok (.aload_n 0, 1) := by decide +kernel
theorem dZ_isAsSeen_77 : decode bZ_isAsSeen 77 = .ok (.getfield 44, 3) := by decide +kernel
theorem dZ_isAsSeen_80 : decode bZ_isAsSeen 80 = .ok (.iload_n 3, 1) := by decide +kernel
theorem dZ_isAsSeen_81 : decode bZ_isAsSeen 81 = .ok (.iaload, 1) := by decide +kernel
theorem dZ_isAsSeen_82 : decode bZ_isAsSeen 82 = .ok (.if_icmp .ne 7, 3) := by decide +kernel
theorem dZ_isAsSeen_85 : decode bZ_isAsSeen 85 = .ok (.iconst 1, 1) := by decide +kernel
theorem dZ_isAsSeen_86 : decode bZ_isAsSeen 86 = .ok (.goto 4, 3) := by decide +kernel
theorem dZ_isAsSeen_89 : decode bZ_isAsSeen 89 = .ok (.iconst 0, 1) := by decide +kernel
theorem dZ_isAsSeen_90 : decode bZ_isAsSeen 90 = .ok (.istore_n 2, 1) := by decide +kernel
theorem dZ_isAsSeen_91 : decode bZ_isAsSeen 91 = .ok (.iinc 3 1, 3) := by decide +kernel
theorem dZ_isAsSeen_94 : decode bZ_isAsSeen 94 = .ok (.goto (-90), 3) := by decide +kernel
theorem dZ_isAsSeen_97 : decode bZ_isAsSeen 97 = .ok (.iload_n 2, 1) := by decide +kernel
theorem dZ_isAsSeen_98 : decode bZ_isAsSeen 98 = .ok (.ireturn, 1) := by decide +kernel
theorem dZ_goings_0 : decode bZ_goings 0 = .ok (.iload_n 0, 1) := by decide +kernel
theorem dZ_goings_1 : decode bZ_goings 1 = .ok (.bipush 10, 2) := by decide +kernel
theorem dZ_goings_3 : decode bZ_goings 3 = .ok (.irem, 1) := by decide +kernel
theorem dZ_goings_4 : decode bZ_goings 4 = .ok (.iload_n 0, 1) := by decide +kernel
theorem dZ_goings_5 : decode bZ_goings 5 = .ok (.bipush 10, 2) := by decide +kernel
theorem dZ_goings_7 : decode bZ_goings 7 = .ok (.idiv, 1) := by decide +kernel
theorem dZ_goings_8 : decode bZ_goings 8 = .ok (.bipush 10, 2) := by decide +kernel
theorem dZ_goings_10 : decode bZ_goings 10 = .ok (.irem, 1) := by decide +kernel
theorem dZ_goings_11 : decode bZ_goings 11 = .ok (.iadd, 1) := by decide +kernel
theorem dZ_goings_12 : decode bZ_goings 12 = .ok (.iload_n 0, 1) := by decide +kernel
theorem dZ_goings_13 : decode bZ_goings 13 = .ok (.bipush 100, 2) := by decide +kernel
theorem dZ_goings_15 : decode bZ_goings 15 = .ok (.idiv, 1) := by decide +kernel
theorem dZ_goings_16 : decode bZ_goings 16 = .ok (.bipush 10, 2) := by decide +kernel
theorem dZ_goings_18 : decode bZ_goings 18 = .ok (.irem, 1) := by decide +kernel
theorem dZ_goings_19 : decode bZ_goings 19 = .ok (.iadd, 1) := by decide +kernel
theorem dZ_goings_20 : decode bZ_goings 20 = .ok (.iload_n 0, 1) := by decide +kernel
theorem dZ_goings_21 : decode bZ_goings 21 = .ok (.sipush 1000, 3) := by decide +kernel
theorem dZ_goings_24 : decode bZ_goings 24 = .ok (.idiv, 1) := by decide +kernel
theorem dZ_goings_25 : decode bZ_goings 25 = .ok (.iadd, 1) := by decide +kernel
theorem dZ_goings_26 : decode bZ_goings 26 = .ok (.ireturn, 1) := by decide +kernel
theorem dZ_measures_0 : decode bZ_measures 0 = .ok (.aload_n 0, 1) := by decide +kernel
theorem dZ_measures_1 : decode bZ_measures 1 = .ok (.iconst 0, 1) := by decide +kernel
theorem dZ_measures_2 : decode bZ_measures 2 = .ok (.putfield 68, 3) := by decide +kernel
theorem dZ_measures_5 : decode bZ_measures 5 = .ok (.iload_n 1, 1) := by decide +kernel
theorem dZ_measures_6 : decode bZ_measures 6 = .ok (.iconst 0, 1) := by decide +kernel
theorem dZ_measures_7 : decode bZ_measures 7 = .ok (.aload_n 0, 1) := by decide +kernel
theorem dZ_measures_8 : decode bZ_measures 8 = .ok (.getfield 13, 3) := by decide +kernel
theorem dZ_measures_11 : decode bZ_measures 11 = .ok (.iconst 0, 1) := by decide +kernel
theorem dZ_measures_12 : decode bZ_measures 12 = .ok (.iaload, 1) := by decide +kernel
theorem dZ_measures_13 : decode bZ_measures 13 = .ok (.invokestatic 72, 3) := by decide +kernel
theorem dZ_measures_16 : decode bZ_measures 16 = .ok (.ifCond .eq 29, 3) := by decide +kernel
theorem dZ_measures_19 : decode bZ_measures 19 = .ok (.iload_n 2, 1) := by decide +kernel
theorem dZ_measures_20 : decode bZ_measures 20 = .ok (.iload_n 1, 1) := by decide +kernel
theorem dZ_measures_21 : decode bZ_measures 21 = .ok (.iconst 1, 1) := by decide +kernel
theorem dZ_measures_22 : decode bZ_measures 22 = .ok (.iadd, 1) := by decide +kernel
theorem dZ_measures_23 : decode bZ_measures 23 = .ok (.aload_n 0, 1) := by decide +kernel
theorem dZ_measures_24 : decode bZ_measures 24 = .ok (.getfield 13, 3) := by decide +kernel
theorem dZ_measures_27 : decode bZ_measures 27 = .ok (.iconst 0, 1) := by decide +kernel
theorem dZ_measures_28 : decode bZ_measures 28 = .ok (.iaload, 1) := by decide +kernel
theorem dZ_measures_29 : decode bZ_measures 29 = .ok (.invokestatic 72, 3) := by decide +kernel
theorem dZ_measures_32 : decode bZ_measures 32 = .ok (.ifCond .eq 13, 3) := by decide +kernel
theorem dZ_measures_35 : decode bZ_measures 35 = .ok (.iload_n 3, 1) := by decide +kernel
theorem dZ_measures_36 : decode bZ_measures 36 = .ok (.iconst 0, 1) := by decide +kernel
theorem dZ_measures_37 : decode bZ_measures 37 = .ok (.ldc 187, 2) := by decide +kernel
theorem dZ_measures_39 : decode bZ_measures 39 = .ok (.invokestatic 72, 3) := by decide +kernel
theorem dZ_measures_42 : decode bZ_measures 42 = .ok (.ifCond .ne 5, 3) := by decide +kernel
theorem dZ_measures_45 : decode bZ_measures 45 = .ok (.iconst (-1), 1) := by decide +kernel
theorem dZ_measures_46 : decode bZ_measures 46 = .ok (.ireturn, 1) := by decide +kernel
theorem dZ_measures_47 : decode bZ_measures 47 = .ok (.aload_n 0, 1) := by decide +kernel
theorem dZ_measures_48 : decode bZ_measures 48 = .ok (.getfield 130, 3) := by decide +kernel
theorem dZ_measures_51 : decode bZ_measures 51 = .ok (.bipush 6, 2) := by decide +kernel
theorem dZ_measures_53 : decode bZ_measures 53 = .ok (.if_icmp .ne 6, 3) := by decide +kernel
theorem dZ_measures_56 : decode bZ_measures 56 = .ok (.bipush (-3), 2) := by decide +kernel
theorem dZ_measures_58 : decode bZ_measures 58 = .ok (.ireturn, 1) := by decide +kernel
theorem dZ_measures_59 : decode bZ_measures 59 = .ok (.aload_n 0, 1) := by decide +kernel
theorem dZ_measures_60 : decode bZ_measures 60 = .ok (.getfield 47, 3) := by decide +kernel
theorem dZ_measures_63 : decode bZ_measures 63 = .ok (.aload_n 0, 1) := by decide +kernel
theorem dZ_measures_64 : decode bZ_measures 64 = .ok (.getfield 130, 3) := by decide +kernel
theorem dZ_measures_67 : decode bZ_measures 67 = .ok (.iload_n 1, 1) := by decide +kernel
theorem dZ_measures_68 : decode bZ_measures 68 = .ok (.iastore, 1) := by decide +kernel
theorem dZ_measures_69 : decode bZ_measures 69 = .ok (.aload_n 0, 1) := by decide +kernel
theorem dZ_measures_70 : decode bZ_measures 70 = .ok (.getfield 50, 3) := by decide +kernel
theorem dZ_measures_73 : decode bZ_measures 73 = .ok (.aload_n 0, 1) := by decide +kernel
theorem dZ_measures_74 : decode bZ_measures 74 = .ok (.getfield 130, 3) := by decide +kernel
theorem dZ_measures_77 : decode bZ_measures 77 = .ok (.iload_n 2, 1) := by decide +kernel
theorem dZ_measures_78 : decode bZ_measures 78 = .ok (.iastore, 1) := by decide +kernel
theorem dZ_measures_79 : decode bZ_measures 79 = .ok (.aload_n 0, 1) := by decide +kernel
theorem dZ_measures_80 : decode bZ_measures 80 = .ok (.getfield 53, 3) := by decide +kernel
theorem dZ_measures_83 : decode bZ_measures 83 = .ok (.aload_n 0, 1) := by decide +kernel
theorem dZ_measures_84 : decode bZ_measures 84 = .ok (.getfield 130, 3) := by decide +kernel
theorem dZ_measures_87 : decode bZ_measures 87 = .ok (.iload_n 3, 1) := by decide +kernel
theorem dZ_measures_88 : decode bZ_measures 88 = .ok (.iastore, 1) := by decide +kernel
theorem dZ_measures_89 : decode bZ_measures 89 = .ok (.aload_n 0, 1) := by decide +kernel
theorem dZ_measures_90 : decode bZ_measures 90 = .ok (.dup, 1) := by decide +kernel
theorem dZ_measures_91 : decode bZ_measures 91 = .ok (.getfield 130, 3) := by decide +kernel
theorem dZ_measures_94 : decode bZ_measures 94 = .ok (.iconst 1, 1) := by decide +kernel
theorem dZ_measures_95 : decode bZ_measures 95 = .ok (.iadd, 1) := by decide +kernel
theorem dZ_measures_96 : decode bZ_measures 96 = .ok (.putfield 130, 3) := by decide +kernel
theorem dZ_measures_99 : decode bZ_measures 99 = .ok (.aload_n 0, 1) := by decide +kernel
theorem dZ_measures_100 : decode bZ_measures 100 = .ok (.getfield 130, 3) := by decide +kernel
theorem dZ_measures_103 : decode bZ_measures 103 = .ok (.ireturn, 1) := by decide +kernel
theorem dZ_agree_0 : decode bZ_agree 0 = .ok (.aload_n 0, 1) := by decide +kernel
theorem dZ_agree_1 : decode bZ_agree 1 = .ok (.iconst 0, 1) := by decide +kernel
theorem dZ_agree_2 : decode bZ_agree 2 = .ok (.putfield 68, 3) := by decide +kernel
theorem dZ_agree_5 : decode bZ_agree 5 = .ok (.iload_n 1, 1) := by decide +kernel
theorem dZ_agree_6 : decode bZ_agree 6 = .ok (.iconst 0, 1) := by decide +kernel
theorem dZ_agree_7 : decode bZ_agree 7 = .ok (.iconst 1, 1) := by decide +kernel
theorem dZ_agree_8 : decode bZ_agree 8 = .ok (.invokestatic 72, 3) := by decide +kernel
theorem dZ_agree_11 : decode bZ_agree 11 = .ok (.ifCond .ne 5, 3) := by decide +kernel
theorem dZ_agree_14 : decode bZ_agree 14 = .ok (.iconst (-1), 1) := by decide +kernel
theorem dZ_agree_15 : decode bZ_agree 15 = .ok (.ireturn, 1) := by decide +kernel
theorem dZ_agree_16 : decode bZ_agree 16 = .ok (.iload_n 1, 1) := by decide +kernel
theorem dZ_agree_17 : decode bZ_agree 17 = .ok (.ifCond .ne 8, 3) := by decide +kernel
theorem dZ_agree_20 : decode bZ_agree 20 = .ok (.aload_n 0, 1) := by decide +kernel
theorem dZ_agree_21 : decode bZ_agree 21 = .ok (.invokevirtual 195, 3) := by decide +kernel
theorem dZ_agree_24 : decode bZ_agree 24 = .ok (.ireturn, 1) := by decide +kernel
theorem dZ_agree_25 : decode bZ_agree 25 = .ok (.iconst 0, 1) := by decide +kernel
theorem dZ_agree_26 : decode bZ_agree 26 = .ok (.istore_n 2, 1) := by decide +kernel
theorem dZ_agree_27 : decode bZ_agree 27 = .ok (.iconst 0, 1) := by decide +kernel
theorem dZ_agree_28 : decode bZ_agree 28 = .ok (.istore_n 3, 1) := by decide +kernel
theorem dZ_agree_29 : decode bZ_agree 29 = .ok (.iload_n 3, 1) := by decide +kernel
theorem dZ_agree_30 : decode bZ_agree 30 = .ok (.aload_n 0, 1) := by decide +kernel
theorem dZ_agree_31 : decode bZ_agree 31 = .ok (.getfield 130, 3) := by decide +kernel
theorem dZ_agree_34 : decode bZ_agree 34 = .ok (.if_icmp .ge 58, 3) := by decide +kernel
theorem dZ_agree_37 : decode bZ_agree 37 = .ok (.iload_n 2, 1) := by decide +kernel
theorem dZ_agree_38 : decode bZ_agree 38 = .ok (.aload_n 0, 1) := by decide +kernel
theorem dZ_agree_39 : decode bZ_agree 39 = .ok (.sipush 1000, 3) := by decide +kernel
theorem dZ_agree_42 : decode bZ_agree 42 = .ok (.aload_n 0, 1) := by decide +kernel
theorem dZ_agree_43 : decode bZ_agree 43 = .ok (.aload_n 0, 1) := by decide +kernel
theorem dZ_agree_44 : decode bZ_agree 44 = .ok (.getfield 50, 3) := by decide +kernel
theorem dZ_agree_47 : decode bZ_agree 47 = .ok (.iload_n 3, 1) := by decide +kernel
theorem dZ_agree_48 : decode bZ_agree 48 = .ok (.iaload, 1) := by decide +kernel
theorem dZ_agree_49 : decode bZ_agree 49 = .ok (.invokevirtual 136, 3) := by decide +kernel
theorem dZ_agree_52 : decode bZ_agree 52 = .ok (.imul, 1) := by decide +kernel
theorem dZ_agree_53 : decode bZ_agree 53 = .ok (.invokevirtual 174, 3) := by decide +kernel
theorem dZ_agree_56 : decode bZ_agree 56 = .ok (.aload_n 0, 1) := by decide +kernel
theorem dZ_agree_57 : decode bZ_agree 57 = .ok (.sipush 1000, 3) := by decide +kernel
theorem dZ_agree_60 : decode bZ_agree 60 = .ok (.aload_n 0, 1) := by decide +kernel
theorem dZ_agree_61 : decode bZ_agree 61 = .ok (.aload_n 0, 1) := by decide +kernel
theorem dZ_agree_62 : decode bZ_agree 62 = .ok (.getfield 47, 3) := by decide +kernel
theorem dZ_agree_65 : decode bZ_agree 65 = .ok (.iload_n 3, 1) := by decide +kernel
theorem dZ_agree_66 : decode bZ_agree 66 = .ok (.iaload, 1) := by decide +kernel
theorem dZ_agree_67 : decode bZ_agree 67 = .ok (.invokevirtual 136, 3) := by decide +kernel
theorem dZ_agree_70 : decode bZ_agree 70 = .ok (.imul, 1) := by decide +kernel
theorem dZ_agree_71 : decode bZ_agree 71 = .ok (.invokevirtual 174, 3) := by decide +kernel
theorem dZ_agree_74 : decode bZ_agree 74 = .ok (.isub, 1) := by decide +kernel
theorem dZ_agree_75 : decode bZ_agree 75 = .ok (.aload_n 0, 1) := by decide +kernel
theorem dZ_agree_76 : decode bZ_agree 76 = .ok (.getfield 53, 3) := by decide +kernel
theorem dZ_agree_79 : decode bZ_agree 79 = .ok (.iload_n 3, 1) := by decide +kernel
theorem dZ_agree_80 : decode bZ_agree 80 = .ok (.iaload, 1) := by decide +kernel
theorem dZ_agree_81 : decode bZ_agree 81 = .ok (.invokestatic 192, 3) := by decide +kernel
theorem dZ_agree_84 : decode bZ_agree 84 = .ok (.iadd, 1) := by decide +kernel
theorem dZ_agree_85 : decode bZ_agree 85 = .ok (.istore_n 2, 1) := by decide +kernel
theorem dZ_agree_86 : decode bZ_agree 86 = .ok (.iinc 3 1, 3) := by decide +kernel
theorem dZ_agree_89 : decode bZ_agree 89 = .ok (.goto (-60), 3) := by decide +kernel
theorem dZ_agree_92 : decode bZ_agree 92 = .ok (.iload_n 2, 1) := by decide +kernel
theorem dZ_agree_93 : decode bZ_agree 93 = .ok (.ireturn, 1) := by decide +kernel
theorem dZ_leastChanges_0 : decode bZ_leastChanges 0 = .ok (.ldc 188, 2) := by decide +kernel
theorem dZ_leastChanges_2 : decode bZ_leastChanges 2 = .ok (.istore_n 1, 1) := by decide +kernel
theorem dZ_leastChanges_3 : decode bZ_leastChanges 3 = .ok (.iconst 0, 1) := by decide +kernel
theorem dZ_leastChanges_4 : decode bZ_leastChanges 4 = .ok (.istore_n 2, 1) := by decide +kernel
theorem dZ_leastChanges_5 : decode bZ_leastChanges 5 = .ok (.iload_n 2, 1) := by decide +kernel
theorem dZ_leastChanges_6 : decode bZ_leastChanges 6 = .ok (.iconst 1, 1) := by decide +kernel
theorem dZ_leastChanges_7 : decode bZ_leastChanges 7 = .ok (.aload_n 0, 1) := by decide +kernel
theorem dZ_leastChanges_8 : decode bZ_leastChanges 8 = .ok (.getfield 130, 3) := by decide +kernel
theorem dZ_leastChanges_11 : decode bZ_leastChanges 11 = .ok (.ishl, 1) := by decide +kernel
theorem dZ_leastChanges_12 : decode bZ_leastChanges 12 = .ok (.if_icmp .ge 86, 3) := by decide +kernel
theorem dZ_leastChanges_15 : decode bZ_leastChanges 15 = .ok (.aload_n 0, 1) := by decide +kernel
theorem dZ_leastChanges_16 : decode bZ_leastChanges 16 = .ok (.iload_n 2, 1) := by decide +kernel
theorem dZ_leastChanges_17 : decode bZ_leastChanges 17 = .ok (.invokevirtual 189, 3) := by decide +kernel
theorem dZ_leastChanges_20 : decode bZ_leastChanges 20 = .ok (.ifCond .eq 72, 3) := by decide +kernel
theorem dZ_leastChanges_23 : decode bZ_leastChanges 23 = .ok (.iconst 0, 1) := by decide +kernel
theorem dZ_leastChanges_24 : decode bZ_leastChanges 24 = .ok (.istore_n 3, 1) := by decide +kernel
theorem dZ_leastChanges_25 : decode bZ_leastChanges 25 = .ok (.iconst 0, 1) := by decide +kernel
theorem dZ_leastChanges_26 : decode bZ_leastChanges 26 = .ok (.istore 4, 2) := by decide +kernel
theorem dZ_leastChanges_28 : decode bZ_leastChanges 28 = .ok (.iload 4, 2) := by decide +kernel
theorem dZ_leastChanges_30 : decode bZ_leastChanges 30 = .ok (.aload_n 0, 1) := by decide +kernel
theorem dZ_leastChanges_31 : decode bZ_leastChanges 31 = .ok (.getfield 130, 3) := by decide +kernel
theorem dZ_leastChanges_34 : decode bZ_leastChanges 34 = .ok (.if_icmp .ge 47, 3) := by decide +kernel
theorem dZ_leastChanges_37 : decode bZ_leastChanges 37 = .ok (.iload_n 3, 1) := by decide +kernel
theorem dZ_leastChanges_38 : decode bZ_leastChanges 38 = .ok (.aload_n 0, 1) := by decide +kernel
theorem dZ_leastChanges_39 : decode bZ_leastChanges 39 = .ok (.getfield 56, 3) := by decide +kernel
theorem dZ_leastChanges_42 : decode bZ_leastChanges 42 = .ok (.aload_n 0, 1) := by decide +kernel
theorem dZ_leastChanges_43 : decode bZ_leastChanges 43 = .ok (.getfield 50, 3) := by decide +kernel
theorem dZ_leastChanges_46 : decode bZ_leastChanges 46 = .ok (.iload 4, 2) := by decide +kernel
theorem dZ_leastChanges_48 : decode bZ_leastChanges 48 = .ok (.iaload, 1) := by decide +kernel
theorem dZ_leastChanges_49 : decode bZ_leastChanges 49 = .ok (.iaload, 1) := by decide +kernel
theorem dZ_leastChanges_50 : decode bZ_leastChanges 50 = .ok (.aload_n 0, 1) := by decide +kernel
theorem dZ_leastChanges_51 : decode bZ_leastChanges 51 = .ok (.getfield 56, 3) := by decide +kernel
theorem dZ_leastChanges_54 : decode bZ_leastChanges 54 = .ok (.aload_n 0, 1) := by decide +kernel
theorem dZ_leastChanges_55 : decode bZ_leastChanges 55 = .ok (.getfield 47, 3) := by decide +kernel
theorem dZ_leastChanges_58 : decode bZ_leastChanges 58 = .ok (.iload 4, 2) := by decide +kernel
theorem dZ_leastChanges_60 : decode bZ_leastChanges 60 = .ok (.iaload, 1) := by decide +kernel
theorem dZ_leastChanges_61 : decode bZ_leastChanges 61 = .ok (.iaload, 1) := by decide +kernel
theorem dZ_leastChanges_62 : decode bZ_leastChanges 62 = .ok (.isub, 1) := by decide +kernel
theorem dZ_leastChanges_63 : decode bZ_leastChanges 63 = .ok (.aload_n 0, 1) := by decide +kernel
theorem dZ_leastChanges_64 : decode bZ_leastChanges 64 = .ok (.getfield 53, 3) := by decide +kernel
theorem dZ_leastChanges_67 : decode bZ_leastChanges 67 = .ok (.iload 4, 2) := by decide +kernel
theorem dZ_leastChanges_69 : decode bZ_leastChanges 69 = .ok (.iaload, 1) := by decide +kernel
theorem dZ_leastChanges_70 : decode bZ_leastChanges 70 = .ok (.invokestatic 192, 3) := by decide +kernel
theorem dZ_leastChanges_73 : decode bZ_leastChanges 73 = .ok (.iadd, 1) := by decide +kernel
theorem dZ_leastChanges_74 : decode bZ_leastChanges 74 = .ok (.istore_n 3, 1) := by decide +kernel
theorem dZ_leastChanges_75 : decode bZ_leastChanges 75 = .ok (.iinc 4 1, 3) := by decide +kernel
theorem dZ_leastChanges_78 : decode bZ_leastChanges 78 = .ok (.goto (-50), 3) := by decide +kernel
theorem dZ_leastChanges_81 : decode bZ_leastChanges 81 = .ok (.iload_n 3, 1) := by decide +kernel
theorem dZ_leastChanges_82 : decode bZ_leastChanges 82 = .ok (.iload_n 1, 1) := by decide +kernel
theorem dZ_leastChanges_83 : decode bZ_leastChanges 83 = .ok (.if_icmp .ge 7, 3) := by decide +kernel
theorem dZ_leastChanges_86 : decode bZ_leastChanges 86 = .ok (.iload_n 3, 1) := by decide +kernel
theorem dZ_leastChanges_87 : decode bZ_leastChanges 87 = .ok (.goto 4, 3) := by decide +kernel
theorem dZ_leastChanges_90 : decode bZ_leastChanges 90 = .ok (.iload_n 1, 1) := by decide +kernel
theorem dZ_leastChanges_91 : decode bZ_leastChanges 91 = .ok (.istore_n 1, 1) := by decide +kernel
theorem dZ_leastChanges_92 : decode bZ_leastChanges 92 = .ok (.iinc 2 1, 3) := by decide +kernel
theorem dZ_leastChanges_95 : decode bZ_leastChanges 95 = .ok (.goto (-90), 3) := by decide +kernel
theorem dZ_leastChanges_98 : decode bZ_leastChanges 98 = .ok (.iload_n 1, 1) := by decide +kernel
theorem dZ_leastChanges_99 : decode bZ_leastChanges 99 = .ok (.ireturn, 1) := by decide +kernel
theorem dZ_hangs_0 : decode bZ_hangs 0 = .ok (.iconst 0, 1) := by decide +kernel
theorem dZ_hangs_1 : decode bZ_hangs 1 = .ok (.istore_n 2, 1) := by decide +kernel
theorem dZ_hangs_2 : decode bZ_hangs 2 = .ok (.iload_n 2, 1) := by decide +kernel
theorem dZ_hangs_3 : decode bZ_hangs 3 = .ok (.bipush 6, 2) := by decide +kernel
theorem dZ_hangs_5 : decode bZ_hangs 5 = .ok (.if_icmp .ge 23, 3) := by decide +kernel
theorem dZ_hangs_8 : decode bZ_hangs 8 = .ok (.aload_n 0, 1) := by decide +kernel
theorem dZ_hangs_9 : decode bZ_hangs 9 = .ok (.getfield 56, 3) := by decide +kernel
theorem dZ_hangs_12 : decode bZ_hangs 12 = .ok (.iload_n 2, 1) := by decide +kernel
theorem dZ_hangs_13 : decode bZ_hangs 13 = .ok (.iconst 0, 1) := by decide +kernel
theorem dZ_hangs_14 : decode bZ_hangs 14 = .ok (.iastore, 1) := by decide +kernel
theorem dZ_hangs_15 : decode bZ_hangs 15 = .ok (.aload_n 0, 1) := by decide +kernel
theorem dZ_hangs_16 : decode bZ_hangs 16 = .ok (.getfield 59, 3) := by decide +kernel
theorem dZ_hangs_19 : decode bZ_hangs 19 = .ok (.iload_n 2, 1) := by decide +kernel
theorem dZ_hangs_20 : decode bZ_hangs 20 = .ok (.iload_n 2, 1) := by decide +kernel
theorem dZ_hangs_21 : decode bZ_hangs 21 = .ok (.iastore, 1) := by decide +kernel
theorem dZ_hangs_22 : decode bZ_hangs 22 = .ok (.iinc 2 1, 3) := by decide +kernel
theorem dZ_hangs_25 : decode bZ_hangs 25 = .ok (.goto (-23), 3) := by decide +kernel
theorem dZ_hangs_28 : decode bZ_hangs 28 = .ok (.iconst 1, 1) := by decide +kernel
theorem dZ_hangs_29 : decode bZ_hangs 29 = .ok (.istore_n 2, 1) := by decide +kernel
theorem dZ_hangs_30 : decode bZ_hangs 30 = .ok (.iconst 0, 1) := by decide +kernel
theorem dZ_hangs_31 : decode bZ_hangs 31 = .ok (.istore_n 3, 1) := by decide +kernel
theorem dZ_hangs_32 : decode bZ_hangs 32 = .ok (.iload_n 3, 1) := by decide +kernel
theorem dZ_hangs_33 : decode bZ_hangs 33 = .ok (.aload_n 0, 1) := by decide +kernel
theorem dZ_hangs_34 : decode bZ_hangs 34 = .ok (.getfield 130, 3) := by decide +kernel
theorem dZ_hangs_37 : decode bZ_hangs 37 = .ok (.if_icmp .ge 149, 3) := by decide +kernel
theorem dZ_hangs_40 : decode bZ_hangs 40 = .ok (.iload_n 1, 1) := by decide +kernel
theorem dZ_hangs_41 : decode bZ_hangs 41 = .ok (.iload_n 3, 1) := by decide +kernel
theorem dZ_hangs_42 : decode bZ_hangs 42 = .ok (.ishr, 1) := by decide +kernel
theorem dZ_hangs_43 : decode bZ_hangs 43 = .ok (.iconst 1, 1) := by decide +kernel
theorem dZ_hangs_44 : decode bZ_hangs 44 = .ok (.iand, 1) := by decide +kernel
theorem dZ_hangs_45 : decode bZ_hangs 45 = .ok (.iconst 1, 1) := by decide +kernel
theorem dZ_hangs_46 : decode bZ_hangs 46 = .ok (.if_icmp .ne 134, 3) := by decide +kernel
theorem dZ_hangs_49 : decode bZ_hangs 49 = .ok (.aload_n 0, 1) := by decide +kernel
theorem dZ_hangs_50 : decode bZ_hangs 50 = .ok (.getfield 59, 3) := by decide +kernel
theorem dZ_hangs_53 : decode bZ_hangs 53 = .ok (.aload_n 0, 1) := by decide +kernel
theorem dZ_hangs_54 : decode bZ_hangs 54 = .ok (.getfield 47, 3) := by decide +kernel
theorem dZ_hangs_57 : decode bZ_hangs 57 = .ok (.iload_n 3, 1) := by decide +kernel
theorem dZ_hangs_58 : decode bZ_hangs 58 = .ok (.iaload, 1) := by decide +kernel
theorem dZ_hangs_59 : decode bZ_hangs 59 = .ok (.iaload, 1) := by decide +kernel
theorem dZ_hangs_60 : decode bZ_hangs 60 = .ok (.istore 4, 2) := by decide +kernel
theorem dZ_hangs_62 : decode bZ_hangs 62 = .ok (.aload_n 0, 1) := by decide +kernel
theorem dZ_hangs_63 : decode bZ_hangs 63 = .ok (.getfield 59, 3) := by decide +kernel
theorem dZ_hangs_66 : decode bZ_hangs 66 = .ok (.aload_n 0, 1) := by decide +kernel
theorem dZ_hangs_67 : decode bZ_hangs 67 = .ok (.getfield 50, 3) := by decide +kernel
theorem dZ_hangs_70 : decode bZ_hangs 70 = .ok (.iload_n 3, 1) := by decide +kernel
theorem dZ_hangs_71 : decode bZ_hangs 71 = .ok (.iaload, 1) := by decide +kernel
theorem dZ_hangs_72 : decode bZ_hangs 72 = .ok (.iaload, 1) := by decide +kernel
theorem dZ_hangs_73 : decode bZ_hangs 73 = .ok (.istore 5, 2) := by decide +kernel
theorem dZ_hangs_75 : decode bZ_hangs 75 = .ok (.iload_n 2, 1) := by decide +kernel
theorem dZ_hangs_76 : decode bZ_hangs 76 = .ok (.ifCond .eq 14, 3) := by decide +kernel
theorem dZ_hangs_79 : decode bZ_hangs 79 = .ok (.iload 4, 2) := by decide +kernel
theorem dZ_hangs_81 : decode bZ_hangs 81 = .ok (.iload 5, 2) := by decide +kernel
theorem dZ_hangs_83 : decode bZ_hangs 83 = .ok (.if_icmp .eq 7, 3) := by decide +kernel
theorem dZ_hangs_86 : decode bZ_hangs 86 = .ok (.iconst 1, 1) := by decide +kernel
theorem dZ_hangs_87 : decode bZ_hangs 87 = .ok (.goto 4, 3) := by decide +kernel
theorem dZ_hangs_90 : decode bZ_hangs 90 = .ok (.iconst 0, 1) := by decide +kernel
theorem dZ_hangs_91 : decode bZ_hangs 91 = .ok (.istore_n 2, 1) := by decide +kernel
theorem dZ_hangs_92 : decode bZ_hangs 92 = .ok (.aload_n 0, 1) := by decide +kernel
theorem dZ_hangs_93 : decode bZ_hangs 93 = .ok (.getfield 56, 3) := by decide +kernel
theorem dZ_hangs_96 : decode bZ_hangs 96 = .ok (.aload_n 0, 1) := by decide +kernel
theorem dZ_hangs_97 : decode bZ_hangs 97 = .ok (.getfield 47, 3) := by decide +kernel
theorem dZ_hangs_100 : decode bZ_hangs 100 = .ok (.iload_n 3, 1) := by decide +kernel
theorem dZ_hangs_101 : decode bZ_hangs 101 = .ok (.iaload, 1) := by decide +kernel
theorem dZ_hangs_102 : decode bZ_hangs 102 = .ok (.iaload, 1) := by decide +kernel
theorem dZ_hangs_103 : decode bZ_hangs 103 = .ok (.aload_n 0, 1) := by decide +kernel
theorem dZ_hangs_104 : decode bZ_hangs 104 = .ok (.getfield 53, 3) := by decide +kernel
theorem dZ_hangs_107 : decode bZ_hangs 107 = .ok (.iload_n 3, 1) := by decide +kernel
theorem dZ_hangs_108 : decode bZ_hangs 108 = .ok (.iaload, 1) := by decide +kernel
theorem dZ_hangs_109 : decode bZ_hangs 109 = .ok (.iadd, 1) := by decide +kernel
theorem dZ_hangs_110 : decode bZ_hangs 110 = .ok (.aload_n 0, 1) := by decide +kernel
theorem dZ_hangs_111 : decode bZ_hangs 111 = .ok (.getfield 56, 3) := by decide +kernel
theorem dZ_hangs_114 : decode bZ_hangs 114 = .ok (.aload_n 0, 1) := by decide +kernel
theorem dZ_hangs_115 : decode bZ_hangs 115 = .ok (.getfield 50, 3) := by decide +kernel
theorem dZ_hangs_118 : decode bZ_hangs 118 = .ok (.iload_n 3, 1) := by decide +kernel
theorem dZ_hangs_119 : decode bZ_hangs 119 = .ok (.iaload, 1) := by decide +kernel
theorem dZ_hangs_120 : decode bZ_hangs 120 = .ok (.iaload, 1) := by decide +kernel
theorem dZ_hangs_121 : decode bZ_hangs 121 = .ok (.isub, 1) := by decide +kernel
theorem dZ_hangs_122 : decode bZ_hangs 122 = .ok (.istore 6, 2) := by decide +kernel
theorem dZ_hangs_124 : decode bZ_hangs 124 = .ok (.iconst 0, 1) := by decide +kernel
theorem dZ_hangs_125 : decode bZ_hangs 125 = .ok (.istore 7, 2) := by decide +kernel
theorem dZ_hangs_127 : decode bZ_hangs 127 = .ok (.iload 7, 2) := by decide +kernel
theorem dZ_hangs_129 : decode bZ_hangs 129 = .ok (.bipush 6, 2) := by decide +kernel
theorem dZ_hangs_131 : decode bZ_hangs 131 = .ok (.if_icmp .ge 49, 3) := by decide +kernel
theorem dZ_hangs_134 : decode bZ_hangs 134 = .ok (.aload_n 0, 1) := by decide +kernel
theorem dZ_hangs_135 : decode bZ_hangs 135 = .ok (.getfield 59, 3) := by decide +kernel
theorem dZ_hangs_138 : decode bZ_hangs 138 = .ok (.iload 7, 2) := by decide +kernel
theorem dZ_hangs_140 : decode bZ_hangs 140 = .ok (.iaload, 1) := by decide +kernel
theorem dZ_hangs_141 : decode bZ_hangs 141 = .ok (.iload 5, 2) := by decide +kernel
theorem dZ_hangs_143 : decode bZ_hangs 143 = .ok (.if_icmp .ne 31, 3) := by decide +kernel
theorem dZ_hangs_146 : decode bZ_hangs 146 = .ok (.iload 4, 2) := by decide +kernel
theorem dZ_hangs_148 : decode bZ_hangs 148 = .ok (.iload 5, 2) := by decide +kernel
theorem dZ_hangs_150 : decode bZ_hangs 150 = .ok (.if_icmp .eq 24, 3) := by decide +kernel
theorem dZ_hangs_153 : decode bZ_hangs 153 = .ok (.aload_n 0, 1) := by decide +kernel
theorem dZ_hangs_154 : decode bZ_hangs 154 = .ok (.getfield 59, 3) := by decide +kernel
theorem dZ_hangs_157 : decode bZ_hangs 157 = .ok (.iload 7, 2) := by decide +kernel
theorem dZ_hangs_159 : decode bZ_hangs 159 = .ok (.iload 4, 2) := by decide +kernel
theorem dZ_hangs_161 : decode bZ_hangs 161 = .ok (.iastore, 1) := by decide +kernel
theorem dZ_hangs_162 : decode bZ_hangs 162 = .ok (.aload_n 0, 1) := by decide +kernel
theorem dZ_hangs_163 : decode bZ_hangs 163 = .ok (.getfield 56, 3) := by decide +kernel
theorem dZ_hangs_166 : decode bZ_hangs 166 = .ok (.iload 7, 2) := by decide +kernel
theorem dZ_hangs_168 : decode bZ_hangs 168 = .ok (.dup2, 1) := by decide +kernel
theorem dZ_hangs_169 : decode bZ_hangs 169 = .ok (.iaload, 1) := by decide +kernel
theorem dZ_hangs_170 : decode bZ_hangs 170 = .ok (.iload 6, 2) := by decide +kernel
theorem dZ_hangs_172 : decode bZ_hangs 172 = .ok (.iadd, 1) := by decide +kernel
theorem dZ_hangs_173 : decode bZ_hangs 173 = .ok (.iastore, 1) := by decide +kernel
theorem dZ_hangs_174 : decode bZ_hangs 174 = .ok (.iinc 7 1, 3) := by decide +kernel
theorem dZ_hangs_177 : decode bZ_hangs 177 = .ok (.goto (-50), 3) := by decide +kernel
theorem dZ_hangs_180 : decode bZ_hangs 180 = .ok (.iinc 3 1, 3) := by decide +kernel
theorem dZ_hangs_183 : decode bZ_hangs 183 = .ok (.goto (-151), 3) := by decide +kernel
theorem dZ_hangs_186 : decode bZ_hangs 186 = .ok (.iconst 1, 1) := by decide +kernel
theorem dZ_hangs_187 : decode bZ_hangs 187 = .ok (.istore_n 3, 1) := by decide +kernel
theorem dZ_hangs_188 : decode bZ_hangs 188 = .ok (.iconst 0, 1) := by decide +kernel
theorem dZ_hangs_189 : decode bZ_hangs 189 = .ok (.istore 4, 2) := by decide +kernel
theorem dZ_hangs_191 : decode bZ_hangs 191 = .ok (.iload 4, 2) := by decide +kernel
theorem dZ_hangs_193 : decode bZ_hangs 193 = .ok (.aload_n 0, 1) := by decide +kernel
theorem dZ_hangs_194 : decode bZ_hangs 194 = .ok (.getfield 130, 3) := by decide +kernel
theorem dZ_hangs_197 : decode bZ_hangs 197 = .ok (.if_icmp .ge 46, 3) := by decide +kernel
theorem dZ_hangs_200 : decode bZ_hangs 200 = .ok (.iload_n 3, 1) := by decide +kernel
theorem dZ_hangs_201 : decode bZ_hangs 201 = .ok (.ifCond .eq 34, 3) := by decide +kernel
theorem dZ_hangs_204 : decode bZ_hangs 204 = .ok (.aload_n 0, 1) := by decide +kernel
theorem dZ_hangs_205 : decode bZ_hangs 205 = .ok (.getfield 59, 3) := by decide +kernel
theorem dZ_hangs_208 : decode bZ_hangs 208 = .ok (.aload_n 0, 1) := by decide +kernel
theorem dZ_hangs_209 : decode bZ_hangs 209 = .ok (.getfield 47, 3) := by decide +kernel
theorem dZ_hangs_212 : decode bZ_hangs 212 = .ok (.iload 4, 2) := by decide +kernel
theorem dZ_hangs_214 : decode bZ_hangs 214 = .ok (.iaload, 1) := by decide +kernel
theorem dZ_hangs_215 : decode bZ_hangs 215 = .ok (.iaload, 1) := by decide +kernel
theorem dZ_hangs_216 : decode bZ_hangs 216 = .ok (.aload_n 0, 1) := by decide +kernel
theorem dZ_hangs_217 : decode bZ_hangs 217 = .ok (.getfield 59, 3) := by decide +kernel
theorem dZ_hangs_220 : decode bZ_hangs 220 = .ok (.aload_n 0, 1) := by decide +kernel
theorem dZ_hangs_221 : decode bZ_hangs 221 = .ok (.getfield 50, 3) := by decide +kernel
theorem dZ_hangs_224 : decode bZ_hangs 224 = .ok (.iload 4, 2) := by decide +kernel
theorem dZ_hangs_226 : decode bZ_hangs 226 = .ok (.iaload, 1) := by decide +kernel
theorem dZ_hangs_227 : decode bZ_hangs 227 = .ok (.iaload, 1) := by decide +kernel
theorem dZ_hangs_228 : decode bZ_hangs 228 = .ok (.if_icmp .ne 7, 3) := by decide +kernel
theorem dZ_hangs_231 : decode bZ_hangs 231 = .ok (.iconst 1, 1) := by decide +kernel
theorem dZ_hangs_232 : decode bZ_hangs 232 = .ok (.goto 4, 3) := by decide +kernel
theorem dZ_hangs_235 : decode bZ_hangs 235 = .ok (.iconst 0, 1) := by decide +kernel
theorem dZ_hangs_236 : decode bZ_hangs 236 = .ok (.istore_n 3, 1) := by decide +kernel
theorem dZ_hangs_237 : decode bZ_hangs 237 = .ok (.iinc 4 1, 3) := by decide +kernel
theorem dZ_hangs_240 : decode bZ_hangs 240 = .ok (.goto (-49), 3) := by decide +kernel
theorem dZ_hangs_243 : decode bZ_hangs 243 = .ok (.iload_n 2, 1) := by decide +kernel
theorem dZ_hangs_244 : decode bZ_hangs 244 = .ok (.ifCond .eq 11, 3) := by decide +kernel
theorem dZ_hangs_247 : decode bZ_hangs 247 = .ok (.iload_n 3, 1) := by decide +kernel
theorem dZ_hangs_248 : decode bZ_hangs 248 = .ok (.ifCond .eq 7, 3) := by decide +kernel
theorem dZ_hangs_251 : decode bZ_hangs 251 = .ok (.iconst 1, 1) := by decide +kernel
theorem dZ_hangs_252 : decode bZ_hangs 252 = .ok (.goto 4, 3) := by decide +kernel
theorem dZ_hangs_255 : decode bZ_hangs 255 = .ok (.iconst 0, 1) := by decide +kernel
theorem dZ_hangs_256 : decode bZ_hangs 256 = .ok (.ireturn, 1) := by decide +kernel
theorem dZ_apart_0 : decode bZ_apart 0 = .ok (.iload_n 0, 1) := by decide +kernel
theorem dZ_apart_1 : decode bZ_apart 1 = .ok (.iload_n 1, 1) := by decide +kernel
theorem dZ_apart_2 : decode bZ_apart 2 = .ok (.if_icmp .le 9, 3) := by decide +kernel
theorem dZ_apart_5 : decode bZ_apart 5 = .ok (.iload_n 0, 1) := by decide +kernel
theorem dZ_apart_6 : decode bZ_apart 6 = .ok (.iload_n 1, 1) := by decide +kernel
theorem dZ_apart_7 : decode bZ_apart 7 = .ok (.isub, 1) := by decide +kernel
theorem dZ_apart_8 : decode bZ_apart 8 = .ok (.goto 6, 3) := by decide +kernel
theorem dZ_apart_11 : decode bZ_apart 11 = .ok (.iload_n 1, 1) := by decide +kernel
theorem dZ_apart_12 : decode bZ_apart 12 = .ok (.iload_n 0, 1) := by decide +kernel
theorem dZ_apart_13 : decode bZ_apart 13 = .ok (.isub, 1) := by decide +kernel
theorem dZ_apart_14 : decode bZ_apart 14 = .ok (.ireturn, 1) := by decide +kernel
theorem dZ_forget_0 : decode bZ_forget 0 = .ok (.aload_n 0, 1) := by decide +kernel
theorem dZ_forget_1 : decode bZ_forget 1 = .ok (.iconst 0, 1) := by decide +kernel
theorem dZ_forget_2 : decode bZ_forget 2 = .ok (.putfield 68, 3) := by decide +kernel
theorem dZ_forget_5 : decode bZ_forget 5 = .ok (.aload_n 0, 1) := by decide +kernel
theorem dZ_forget_6 : decode bZ_forget 6 = .ok (.getfield 127, 3) := by decide +kernel
theorem dZ_forget_9 : decode bZ_forget 9 = .ok (.aload_n 0, 1) := by decide +kernel
theorem dZ_forget_10 : decode bZ_forget 10 = .ok (.getfield 130, 3) := by decide +kernel
theorem dZ_forget_13 : decode bZ_forget 13 = .ok (.iadd, 1) := by decide +kernel
theorem dZ_forget_14 : decode bZ_forget 14 = .ok (.istore_n 1, 1) := by decide +kernel
theorem dZ_forget_15 : decode bZ_forget 15 = .ok (.aload_n 0, 1) := by decide +kernel
theorem dZ_forget_16 : decode bZ_forget 16 = .ok (.iconst 0, 1) := by decide +kernel
theorem dZ_forget_17 : decode bZ_forget 17 = .ok (.putfield 127, 3) := by decide +kernel
theorem dZ_forget_20 : decode bZ_forget 20 = .ok (.aload_n 0, 1) := by decide +kernel
theorem dZ_forget_21 : decode bZ_forget 21 = .ok (.iconst 0, 1) := by decide +kernel
theorem dZ_forget_22 : decode bZ_forget 22 = .ok (.putfield 130, 3) := by decide +kernel
theorem dZ_forget_25 : decode bZ_forget 25 = .ok (.iload_n 1, 1) := by decide +kernel
theorem dZ_forget_26 : decode bZ_forget 26 = .ok (.ireturn, 1) := by decide +kernel
theorem dZ_whose_0 : decode bZ_whose 0 = .ok (.aload_n 0, 1) := by decide +kernel
theorem dZ_whose_1 : decode bZ_whose 1 = .ok (.iconst 0, 1) := by decide +kernel
theorem dZ_whose_2 : decode bZ_whose 2 = .ok (.putfield 68, 3) := by decide +kernel
theorem dZ_whose_5 : decode bZ_whose 5 = .ok (.iload_n 1, 1) := by decide +kernel
theorem dZ_whose_6 : decode bZ_whose 6 = .ok (.iconst (-1), 1) := by decide +kernel
theorem dZ_whose_7 : decode bZ_whose 7 = .ok (.aload_n 0, 1) := by decide +kernel
theorem dZ_whose_8 : decode bZ_whose 8 = .ok (.getfield 28, 3) := by decide +kernel
theorem dZ_whose_11 : decode bZ_whose 11 = .ok (.iconst 5, 1) := by decide +kernel
theorem dZ_whose_12 : decode bZ_whose 12 = .ok (.iaload, 1) := by decide +kernel
theorem dZ_whose_13 : decode bZ_whose 13 = .ok (.iconst 1, 1) := by decide +kernel
theorem dZ_whose_14 : decode bZ_whose 14 = .ok (.isub, 1) := by decide +kernel
theorem dZ_whose_15 : decode bZ_whose 15 = .ok (.invokestatic 72, 3) := by decide +kernel
theorem dZ_whose_18 : decode bZ_whose 18 = .ok (.ifCond .ne 5, 3) := by decide +kernel
theorem dZ_whose_21 : decode bZ_whose 21 = .ok (.iconst (-1), 1) := by decide +kernel
theorem dZ_whose_22 : decode bZ_whose 22 = .ok (.ireturn, 1) := by decide +kernel
theorem dZ_whose_23 : decode bZ_whose 23 = .ok (.iconst 0, 1) := by decide +kernel
theorem dZ_whose_24 : decode bZ_whose 24 = .ok (.istore_n 2, 1) := by decide +kernel
theorem dZ_whose_25 : decode bZ_whose 25 = .ok (.bipush (-9), 2) := by decide +kernel
theorem dZ_whose_27 : decode bZ_whose 27 = .ok (.istore_n 3, 1) := by decide +kernel
theorem dZ_whose_28 : decode bZ_whose 28 = .ok (.iconst 0, 1) := by decide +kernel
theorem dZ_whose_29 : decode bZ_whose 29 = .ok (.istore 4, 2) := by decide +kernel
theorem dZ_whose_31 : decode bZ_whose 31 = .ok (.iload 4, 2) := by decide +kernel
theorem dZ_whose_33 : decode bZ_whose 33 = .ok (.iconst 1, 1) := by decide +kernel
theorem dZ_whose_34 : decode bZ_whose 34 = .ok (.iconst 2, 1) := by decide +kernel
theorem dZ_whose_35 : decode bZ_whose 35 = .ok (.aload_n 0, 1) := by decide +kernel
theorem dZ_whose_36 : decode bZ_whose 36 = .ok (.getfield 28, 3) := by decide +kernel
theorem dZ_whose_39 : decode bZ_whose 39 = .ok (.iconst 5, 1) := by decide +kernel
theorem dZ_whose_40 : decode bZ_whose 40 = .ok (.iaload, 1) := by decide +kernel
theorem dZ_whose_41 : decode bZ_whose 41 = .ok (.imul, 1) := by decide +kernel
theorem dZ_whose_42 : decode bZ_whose 42 = .ok (.ishl, 1) := by decide +kernel
theorem dZ_whose_43 : decode bZ_whose 43 = .ok (.if_icmp .ge 54, 3) := by decide +kernel
theorem dZ_whose_46 : decode bZ_whose 46 = .ok (.aload_n 0, 1) := by decide +kernel
theorem dZ_whose_47 : decode bZ_whose 47 = .ok (.iload 4, 2) := by decide +kernel
theorem dZ_whose_49 : decode bZ_whose 49 = .ok (.invokevirtual 201, 3) := by decide +kernel
theorem dZ_whose_52 : decode bZ_whose 52 = .ok (.ifCond .eq 39, 3) := by decide +kernel
theorem dZ_whose_55 : decode bZ_whose 55 = .ok (.iload_n 1, 1) := by decide +kernel
theorem dZ_whose_56 : decode bZ_whose 56 = .ok (.ifCond .ge 7, 3) := by decide +kernel
theorem dZ_whose_59 : decode bZ_whose 59 = .ok (.iconst 0, 1) := by decide +kernel
theorem dZ_whose_60 : decode bZ_whose 60 = .ok (.goto 9, 3) := by decide +kernel
theorem dZ_whose_63 : decode bZ_whose 63 = .ok (.iload 4, 2) := by decide +kernel
theorem dZ_whose_65 : decode bZ_whose 65 = .ok (.iload_n 1, 1) := by decide +kernel
theorem dZ_whose_66 : decode bZ_whose 66 = .ok (.invokestatic 198, 3) := by decide +kernel
theorem dZ_whose_69 : decode bZ_whose 69 = .ok (.istore 5, 2) := by decide +kernel
theorem dZ_whose_71 : decode bZ_whose 71 = .ok (.iload_n 2, 1) := by decide +kernel
theorem dZ_whose_72 : decode bZ_whose 72 = .ok (.ifCond .eq 9, 3) := by decide +kernel
theorem dZ_whose_75 : decode bZ_whose 75 = .ok (.iload_n 3, 1) := by decide +kernel
theorem dZ_whose_76 : decode bZ_whose 76 = .ok (.iload 5, 2) := by decide +kernel
theorem dZ_whose_78 : decode bZ_whose 78 = .ok (.if_icmp .ne 8, 3) := by decide +kernel
theorem dZ_whose_81 : decode bZ_whose 81 = .ok (.iload 5, 2) := by decide +kernel
theorem dZ_whose_83 : decode bZ_whose 83 = .ok (.goto 4, 3) := by decide +kernel
theorem dZ_whose_86 : decode bZ_whose 86 = .ok (.iconst (-1), 1) := by decide +kernel
theorem dZ_whose_87 : decode bZ_whose 87 = .ok (.istore_n 3, 1) := by decide +kernel
theorem dZ_whose_88 : decode bZ_whose 88 = .ok (.iinc 2 1, 3) := by decide +kernel
theorem dZ_whose_91 : decode bZ_whose 91 = .ok (.iinc 4 1, 3) := by decide +kernel
theorem dZ_whose_94 : decode bZ_whose 94 = .ok (.goto (-63), 3) := by decide +kernel
theorem dZ_whose_97 : decode bZ_whose 97 = .ok (.iload_n 1, 1) := by decide +kernel
theorem dZ_whose_98 : decode bZ_whose 98 = .ok (.ifCond .ge 7, 3) := by decide +kernel
theorem dZ_whose_101 : decode bZ_whose 101 = .ok (.iload_n 2, 1) := by decide +kernel
theorem dZ_whose_102 : decode bZ_whose 102 = .ok (.goto 13, 3) := by decide +kernel
theorem dZ_whose_105 : decode bZ_whose 105 = .ok (.iload_n 3, 1) := by decide +kernel
theorem dZ_whose_106 : decode bZ_whose 106 = .ok (.ifCond .ge 8, 3) := by decide +kernel
theorem dZ_whose_109 : decode bZ_whose 109 = .ok (.bipush (-9), 2) := by decide +kernel
theorem dZ_whose_111 : decode bZ_whose 111 = .ok (.goto 4, 3) := by decide +kernel
theorem dZ_whose_114 : decode bZ_whose 114 = .ok (.iload_n 3, 1) := by decide +kernel
theorem dZ_whose_115 : decode bZ_whose 115 = .ok (.ireturn, 1) := by decide +kernel
theorem dZ_canOwn_0 : decode bZ_canOwn 0 = .ok (.iconst 1, 1) := by decide +kernel
theorem dZ_canOwn_1 : decode bZ_canOwn 1 = .ok (.istore_n 2, 1) := by decide +kernel
theorem dZ_canOwn_2 : decode bZ_canOwn 2 = .ok (.iconst 0, 1) := by decide +kernel
theorem dZ_canOwn_3 : decode bZ_canOwn 3 = .ok (.istore_n 3, 1) := by decide +kernel
theorem dZ_canOwn_4 : decode bZ_canOwn 4 = .ok (.iconst 0, 1) := by decide +kernel
theorem dZ_canOwn_5 : decode bZ_canOwn 5 = .ok (.istore 4, 2) := by decide +kernel
theorem dZ_canOwn_7 : decode bZ_canOwn 7 = .ok (.iload 4, 2) := by decide +kernel
theorem dZ_canOwn_9 : decode bZ_canOwn 9 = .ok (.aload_n 0, 1) := by decide +kernel
theorem dZ_canOwn_10 : decode bZ_canOwn 10 = .ok (.getfield 28, 3) := by decide +kernel
theorem dZ_canOwn_13 : decode bZ_canOwn 13 = .ok (.iconst 5, 1) := by decide +kernel
theorem dZ_canOwn_14 : decode bZ_canOwn 14 = .ok (.iaload, 1) := by decide +kernel
theorem dZ_canOwn_15 : decode bZ_canOwn 15 = .ok (.if_icmp .ge 74, 3) := by decide +kernel
theorem dZ_canOwn_18 : decode bZ_canOwn 18 = .ok (.iload_n 1, 1) := by decide +kernel
theorem dZ_canOwn_19 : decode bZ_canOwn 19 = .ok (.iload 4, 2) := by decide +kernel
theorem dZ_canOwn_21 : decode bZ_canOwn 21 = .ok (.invokestatic 198, 3) := by decide +kernel
theorem dZ_canOwn_24 : decode bZ_canOwn 24 = .ok (.istore 5, 2) := by decide +kernel
theorem dZ_canOwn_26 : decode bZ_canOwn 26 = .ok (.iload_n 2, 1) := by decide +kernel
theorem dZ_canOwn_27 : decode bZ_canOwn 27 = .ok (.ifCond .eq 47, 3) := by decide +kernel
theorem dZ_canOwn_30 : decode bZ_canOwn 30 = .ok (.iload 5, 2) := by decide +kernel
theorem dZ_canOwn_32 : decode bZ_canOwn 32 = .ok (.aload_n 0, 1) := by decide +kernel
theorem dZ_canOwn_33 : decode bZ_canOwn 33 = .ok (.getfield 13, 3) := by decide +kernel
theorem dZ_canOwn_36 : decode bZ_canOwn 36 = .ok (.iconst 1, 1) := by decide +kernel
theorem dZ_canOwn_37 : decode bZ_canOwn 37 = .ok (.iaload, 1) := by decide +kernel
theorem dZ_canOwn_38 : decode bZ_canOwn 38 = .ok (.if_icmp .ge 36, 3) := by decide +kernel
theorem dZ_canOwn_41 : decode bZ_canOwn 41 = .ok (.iload_n 3, 1) := by decide +kernel
theorem dZ_canOwn_42 : decode bZ_canOwn 42 = .ok (.iload 5, 2) := by decide +kernel
theorem dZ_canOwn_44 : decode bZ_canOwn 44 = .ok (.ishr, 1) := by decide +kernel
theorem dZ_canOwn_45 : decode bZ_canOwn 45 = .ok (.iconst 1, 1) := by decide +kernel
theorem dZ_canOwn_46 : decode bZ_canOwn 46 = .ok (.iand, 1) := by decide +kernel
theorem dZ_canOwn_47 : decode bZ_canOwn 47 = .ok (.ifCond .ne 27, 3) := by decide +kernel
theorem dZ_canOwn_50 : decode bZ_canOwn 50 = .ok (.aload_n 0, 1) := by decide +kernel
theorem dZ_canOwn_51 : decode bZ_canOwn 51 = .ok (.getfield 25, 3) := by decide +kernel
theorem dZ_canOwn_54 : decode bZ_canOwn 54 = .ok (.iload 5, 2) := by decide +kernel
theorem dZ_canOwn_56 : decode bZ_canOwn 56 = .ok (.iaload, 1) := by decide +kernel
theorem dZ_canOwn_57 : decode bZ_canOwn 57 = .ok (.aload_n 0, 1) := by decide +kernel
theorem dZ_canOwn_58 : decode bZ_canOwn 58 = .ok (.getfield 28, 3) := by decide +kernel
theorem dZ_canOwn_61 : decode bZ_canOwn 61 = .ok (.bipush 6, 2) := by decide +kernel
theorem dZ_canOwn_63 : decode bZ_canOwn 63 = .ok (.iload 4, 2) := by decide +kernel
theorem dZ_canOwn_65 : decode bZ_canOwn 65 = .ok (.iadd, 1) := by decide +kernel
theorem dZ_canOwn_66 : decode bZ_canOwn 66 = .ok (.iaload, 1) := by decide +kernel
theorem dZ_canOwn_67 : decode bZ_canOwn 67 = .ok (.if_icmp .lt 7, 3) := by decide +kernel
theorem dZ_canOwn_70 : decode bZ_canOwn 70 = .ok (.iconst 1, 1) := by decide +kernel
theorem dZ_canOwn_71 : decode bZ_canOwn 71 = .ok (.goto 4, 3) := by decide +kernel
theorem dZ_canOwn_74 : decode bZ_canOwn 74 = .ok (.iconst 0, 1) := by decide +kernel
theorem dZ_canOwn_75 : decode bZ_canOwn 75 = .ok (.istore_n 2, 1) := by decide +kernel
theorem dZ_canOwn_76 : decode bZ_canOwn 76 = .ok (.iload_n 3, 1) := by decide +kernel
theorem dZ_canOwn_77 : decode bZ_canOwn 77 = .ok (.iconst 1, 1) := by decide +kernel
theorem dZ_canOwn_78 : decode bZ_canOwn 78 = .ok (.iload 5, 2) := by decide +kernel
theorem dZ_canOwn_80 : decode bZ_canOwn 80 = .ok (.ishl, 1) := by decide +kernel
theorem dZ_canOwn_81 : decode bZ_canOwn 81 = .ok (.ior, 1) := by decide +kernel
theorem dZ_canOwn_82 : decode bZ_canOwn 82 = .ok (.istore_n 3, 1) := by decide +kernel
theorem dZ_canOwn_83 : decode bZ_canOwn 83 = .ok (.iinc 4 1, 3) := by decide +kernel
theorem dZ_canOwn_86 : decode bZ_canOwn 86 = .ok (.goto (-79), 3) := by decide +kernel
theorem dZ_canOwn_89 : decode bZ_canOwn 89 = .ok (.iload_n 2, 1) := by decide +kernel
theorem dZ_canOwn_90 : decode bZ_canOwn 90 = .ok (.ireturn, 1) := by decide +kernel
theorem dZ_ownerOf_0 : decode bZ_ownerOf 0 = .ok (.iload_n 0, 1) := by decide +kernel
theorem dZ_ownerOf_1 : decode bZ_ownerOf 1 = .ok (.iconst 2, 1) := by decide +kernel
theorem dZ_ownerOf_2 : decode bZ_ownerOf 2 = .ok (.iload_n 1, 1) := by decide +kernel
theorem dZ_ownerOf_3 : decode bZ_ownerOf 3 = .ok (.imul, 1) := by decide +kernel
theorem dZ_ownerOf_4 : decode bZ_ownerOf 4 = .ok (.ishr, 1) := by decide +kernel
theorem dZ_ownerOf_5 : decode bZ_ownerOf 5 = .ok (.iconst 3, 1) := by decide +kernel
theorem dZ_ownerOf_6 : decode bZ_ownerOf 6 = .ok (.iand, 1) := by decide +kernel
theorem dZ_ownerOf_7 : decode bZ_ownerOf 7 = .ok (.ireturn, 1) := by decide +kernel
theorem dZ_odds_0 : decode bZ_odds 0 = .ok (.aload_n 0, 1) := by decide +kernel
theorem dZ_odds_1 : decode bZ_odds 1 = .ok (.iconst 0, 1) := by decide +kernel
theorem dZ_odds_2 : decode bZ_odds 2 = .ok (.putfield 68, 3) := by decide +kernel
theorem dZ_odds_5 : decode bZ_odds 5 = .ok (.iload_n 1, 1) := by decide +kernel
theorem dZ_odds_6 : decode bZ_odds 6 = .ok (.iconst 0, 1) := by decide +kernel
theorem dZ_odds_7 : decode bZ_odds 7 = .ok (.bipush 10, 2) := by decide +kernel
theorem dZ_odds_9 : decode bZ_odds 9 = .ok (.invokestatic 72, 3) := by decide +kernel
theorem dZ_odds_12 : decode bZ_odds 12 = .ok (.ifCond .eq 21, 3) := by decide +kernel
theorem dZ_odds_15 : decode bZ_odds 15 = .ok (.iload_n 2, 1) := by decide +kernel
theorem dZ_odds_16 : decode bZ_odds 16 = .ok (.iconst 0, 1) := by decide +kernel
theorem dZ_odds_17 : decode bZ_odds 17 = .ok (.iconst 4, 1) := by decide +kernel
theorem dZ_odds_18 : decode bZ_odds 18 = .ok (.invokestatic 72, 3) := by decide +kernel
theorem dZ_odds_21 : decode bZ_odds 21 = .ok (.ifCond .eq 12, 3) := by decide +kernel
theorem dZ_odds_24 : decode bZ_odds 24 = .ok (.iload_n 3, 1) := by decide +kernel
theorem dZ_odds_25 : decode bZ_odds 25 = .ok (.iconst 0, 1) := by decide +kernel
theorem dZ_odds_26 : decode bZ_odds 26 = .ok (.iconst 1, 1) := by decide +kernel
theorem dZ_odds_27 : decode bZ_odds 27 = .ok (.invokestatic 72, 3) := by decide +kernel
theorem dZ_odds_30 : decode bZ_odds 30 = .ok (.ifCond .ne 5, 3) := by decide +kernel
theorem dZ_odds_33 : decode bZ_odds 33 = .ok (.iconst (-1), 1) := by decide +kernel
theorem dZ_odds_34 : decode bZ_odds 34 = .ok (.ireturn, 1) := by decide +kernel
theorem dZ_odds_35 : decode bZ_odds 35 = .ok (.aload_n 0, 1) := by decide +kernel
theorem dZ_odds_36 : decode bZ_odds 36 = .ok (.getfield 13, 3) := by decide +kernel
theorem dZ_odds_39 : decode bZ_odds 39 = .ok (.iconst 1, 1) := by decide +kernel
theorem dZ_odds_40 : decode bZ_odds 40 = .ok (.iaload, 1) := by decide +kernel
theorem dZ_odds_41 : decode bZ_odds 41 = .ok (.aload_n 0, 1) := by decide +kernel
theorem dZ_odds_42 : decode bZ_odds 42 = .ok (.getfield 28, 3) := by decide +kernel
theorem dZ_odds_45 : decode bZ_odds 45 = .ok (.iconst 4, 1) := by decide +kernel
theorem dZ_odds_46 : decode bZ_odds 46 = .ok (.iaload, 1) := by decide +kernel
theorem dZ_odds_47 : decode bZ_odds 47 = .ok (.invokestatic 153, 3) := by decide +kernel
theorem dZ_odds_50 : decode bZ_odds 50 = .ok (.isub, 1) := by decide +kernel
theorem dZ_odds_51 : decode bZ_odds 51 = .ok (.istore 4, 2) := by decide +kernel
theorem dZ_odds_53 : decode bZ_odds 53 = .ok (.iconst 0, 1) := by decide +kernel
theorem dZ_odds_54 : decode bZ_odds 54 = .ok (.istore 5, 2) := by decide +kernel
theorem dZ_odds_56 : decode bZ_odds 56 = .ok (.iconst 0, 1) := by decide +kernel
theorem dZ_odds_57 : decode bZ_odds 57 = .ok (.istore 6, 2) := by decide +kernel
theorem dZ_odds_59 : decode bZ_odds 59 = .ok (.iload 6, 2) := by decide +kernel
theorem dZ_odds_61 : decode bZ_odds 61 = .ok (.iconst 1, 1) := by decide +kernel
theorem dZ_odds_62 : decode bZ_odds 62 = .ok (.iload 4, 2) := by decide +kernel
theorem dZ_odds_64 : decode bZ_odds 64 = .ok (.ishl, 1) := by decide +kernel
theorem dZ_odds_65 : decode bZ_odds 65 = .ok (.if_icmp .ge 52, 3) := by decide +kernel
theorem dZ_odds_68 : decode bZ_odds 68 = .ok (.iload 5, 2) := by decide +kernel
theorem dZ_odds_70 : decode bZ_odds 70 = .ok (.iload 6, 2) := by decide +kernel
theorem dZ_odds_72 : decode bZ_odds 72 = .ok (.invokestatic 153, 3) := by decide +kernel
theorem dZ_odds_75 : decode bZ_odds 75 = .ok (.iload_n 2, 1) := by decide +kernel
theorem dZ_odds_76 : decode bZ_odds 76 = .ok (.if_icmp .gt 31, 3) := by decide +kernel
theorem dZ_odds_79 : decode bZ_odds 79 = .ok (.iload_n 1, 1) := by decide +kernel
theorem dZ_odds_80 : decode bZ_odds 80 = .ok (.iload 6, 2) := by decide +kernel
theorem dZ_odds_82 : decode bZ_odds 82 = .ok (.invokestatic 153, 3) := by decide +kernel
theorem dZ_odds_85 : decode bZ_odds 85 = .ok (.invokestatic 204, 3) := by decide +kernel
theorem dZ_odds_88 : decode bZ_odds 88 = .ok (.bipush 10, 2) := by decide +kernel
theorem dZ_odds_90 : decode bZ_odds 90 = .ok (.iload_n 1, 1) := by decide +kernel
theorem dZ_odds_91 : decode bZ_odds 91 = .ok (.isub, 1) := by decide +kernel
theorem dZ_odds_92 : decode bZ_odds 92 = .ok (.iload 4, 2) := by decide +kernel
theorem dZ_odds_94 : decode bZ_odds 94 = .ok (.iload 6, 2) := by decide +kernel
theorem dZ_odds_96 : decode bZ_odds 96 = .ok (.invokestatic 153, 3) := by decide +kernel
theorem dZ_odds_99 : decode bZ_odds 99 = .ok (.isub, 1) := by decide +kernel
theorem dZ_odds_100 : decode bZ_odds 100 = .ok (.invokestatic 204, 3) := by decide +kernel
theorem dZ_odds_103 : decode bZ_odds 103 = .ok (.imul, 1) := by decide +kernel
theorem dZ_odds_104 : decode bZ_odds 104 = .ok (.goto 4, 3) := by decide +kernel
theorem dZ_odds_107 : decode bZ_odds 107 = .ok (.iconst 0, 1) := by decide +kernel
theorem dZ_odds_108 : decode bZ_odds 108 = .ok (.iadd, 1) := by decide +kernel
theorem dZ_odds_109 : decode bZ_odds 109 = .ok (.istore 5, 2) := by decide +kernel
theorem dZ_odds_111 : decode bZ_odds 111 = .ok (.iinc 6 1, 3) := by decide +kernel
theorem dZ_odds_114 : decode bZ_odds 114 = .ok (.goto (-55), 3) := by decide +kernel
theorem dZ_odds_117 : decode bZ_odds 117 = .ok (.bipush 10, 2) := by decide +kernel
theorem dZ_odds_119 : decode bZ_odds 119 = .ok (.iload 4, 2) := by decide +kernel
theorem dZ_odds_121 : decode bZ_odds 121 = .ok (.invokestatic 204, 3) := by decide +kernel
theorem dZ_odds_124 : decode bZ_odds 124 = .ok (.istore 6, 2) := by decide +kernel
theorem dZ_odds_126 : decode bZ_odds 126 = .ok (.iload 5, 2) := by decide +kernel
theorem dZ_odds_128 : decode bZ_odds 128 = .ok (.iload 6, 2) := by decide +kernel
theorem dZ_odds_130 : decode bZ_odds 130 = .ok (.invokestatic 207, 3) := by decide +kernel
theorem dZ_odds_133 : decode bZ_odds 133 = .ok (.istore 7, 2) := by decide +kernel
theorem dZ_odds_135 : decode bZ_odds 135 = .ok (.iload_n 3, 1) := by decide +kernel
theorem dZ_odds_136 : decode bZ_odds 136 = .ok (.ifCond .ne 11, 3) := by decide +kernel
theorem dZ_odds_139 : decode bZ_odds 139 = .ok (.iload 5, 2) := by decide +kernel
theorem dZ_odds_141 : decode bZ_odds 141 = .ok (.iload 7, 2) := by decide +kernel
theorem dZ_odds_143 : decode bZ_odds 143 = .ok (.idiv, 1) := by decide +kernel
theorem dZ_odds_144 : decode bZ_odds 144 = .ok (.goto 8, 3) := by decide +kernel
theorem dZ_odds_147 : decode bZ_odds 147 = .ok (.iload 6, 2) := by decide +kernel
theorem dZ_odds_149 : decode bZ_odds 149 = .ok (.iload 7, 2) := by decide +kernel
theorem dZ_odds_151 : decode bZ_odds 151 = .ok (.idiv, 1) := by decide +kernel
theorem dZ_odds_152 : decode bZ_odds 152 = .ok (.ireturn, 1) := by decide +kernel
theorem dZ_power_0 : decode bZ_power 0 = .ok (.iconst 1, 1) := by decide +kernel
theorem dZ_power_1 : decode bZ_power 1 = .ok (.istore_n 2, 1) := by decide +kernel
theorem dZ_power_2 : decode bZ_power 2 = .ok (.iconst 0, 1) := by decide +kernel
theorem dZ_power_3 : decode bZ_power 3 = .ok (.istore_n 3, 1) := by decide +kernel
theorem dZ_power_4 : decode bZ_power 4 = .ok (.iload_n 3, 1) := by decide +kernel
theorem dZ_power_5 : decode bZ_power 5 = .ok (.iload_n 1, 1) := by decide +kernel
theorem dZ_power_6 : decode bZ_power 6 = .ok (.if_icmp .ge 13, 3) := by decide +kernel
theorem dZ_power_9 : decode bZ_power 9 = .ok (.iload_n 2, 1) := by decide +kernel
theorem dZ_power_10 : decode bZ_power 10 = .ok (.iload_n 0, 1) := by decide +kernel
theorem dZ_power_11 : decode bZ_power 11 = .ok (.imul, 1) := by decide +kernel
theorem dZ_power_12 : decode bZ_power 12 = .ok (.istore_n 2, 1) := by decide +kernel
theorem dZ_power_13 : decode bZ_power 13 = .ok (.iinc 3 1, 3) := by decide +kernel
theorem dZ_power_16 : decode bZ_power 16 = .ok (.goto (-12), 3) := by decide +kernel
theorem dZ_power_19 : decode bZ_power 19 = .ok (.iload_n 2, 1) := by decide +kernel
theorem dZ_power_20 : decode bZ_power 20 = .ok (.ireturn, 1) := by decide +kernel
theorem dZ_gcd_0 : decode bZ_gcd 0 = .ok (.iload_n 0, 1) := by decide +kernel
theorem dZ_gcd_1 : decode bZ_gcd 1 = .ok (.istore_n 2, 1) := by decide +kernel
theorem dZ_gcd_2 : decode bZ_gcd 2 = .ok (.iload_n 1, 1) := by decide +kernel
theorem dZ_gcd_3 : decode bZ_gcd 3 = .ok (.istore_n 3, 1) := by decide +kernel
theorem dZ_gcd_4 : decode bZ_gcd 4 = .ok (.iload_n 3, 1) := by decide +kernel
theorem dZ_gcd_5 : decode bZ_gcd 5 = .ok (.ifCond .eq 16, 3) := by decide +kernel
theorem dZ_gcd_8 : decode bZ_gcd 8 = .ok (.iload_n 2, 1) := by decide +kernel
theorem dZ_gcd_9 : decode bZ_gcd 9 = .ok (.iload_n 3, 1) := by decide +kernel
theorem dZ_gcd_10 : decode bZ_gcd 10 = .ok (.irem, 1) := by decide +kernel
theorem dZ_gcd_11 : decode bZ_gcd 11 = .ok (.istore 4, 2) := by decide +kernel
theorem dZ_gcd_13 : decode bZ_gcd 13 = .ok (.iload_n 3, 1) := by decide +kernel
theorem dZ_gcd_14 : decode bZ_gcd 14 = .ok (.istore_n 2, 1) := by decide +kernel
theorem dZ_gcd_15 : decode bZ_gcd 15 = .ok (.iload 4, 2) := by decide +kernel
theorem dZ_gcd_17 : decode bZ_gcd 17 = .ok (.istore_n 3, 1) := by decide +kernel
theorem dZ_gcd_18 : decode bZ_gcd 18 = .ok (.goto (-14), 3) := by decide +kernel
theorem dZ_gcd_21 : decode bZ_gcd 21 = .ok (.iload_n 2, 1) := by decide +kernel
theorem dZ_gcd_22 : decode bZ_gcd 22 = .ok (.ireturn, 1) := by decide +kernel
theorem dZ_rate_0 : decode bZ_rate 0 = .ok (.aload_n 0, 1) := by decide +kernel
theorem dZ_rate_1 : decode bZ_rate 1 = .ok (.iconst 0, 1) := by decide +kernel
theorem dZ_rate_2 : decode bZ_rate 2 = .ok (.putfield 68, 3) := by decide +kernel
theorem dZ_rate_5 : decode bZ_rate 5 = .ok (.iload_n 1, 1) := by decide +kernel
theorem dZ_rate_6 : decode bZ_rate 6 = .ok (.iconst 0, 1) := by decide +kernel
theorem dZ_rate_7 : decode bZ_rate 7 = .ok (.iconst 5, 1) := by decide +kernel
theorem dZ_rate_8 : decode bZ_rate 8 = .ok (.invokestatic 72, 3) := by decide +kernel
theorem dZ_rate_11 : decode bZ_rate 11 = .ok (.ifCond .eq 11, 3) := by decide +kernel
theorem dZ_rate_14 : decode bZ_rate 14 = .ok (.aload_n 0, 1) := by decide +kernel
theorem dZ_rate_15 : decode bZ_rate 15 = .ok (.iload_n 2, 1) := by decide +kernel
theorem dZ_rate_16 : decode bZ_rate 16 = .ok (.invokevirtual 139, 3) := by decide +kernel
theorem dZ_rate_19 : decode bZ_rate 19 = .ok (.ifCond .ne 6, 3) := by decide +kernel
theorem dZ_rate_22 : decode bZ_rate 22 = .ok (.ldc 142, 2) := by decide +kernel
theorem dZ_rate_24 : decode bZ_rate 24 = .ok (.ireturn, 1) := by decide +kernel
theorem dZ_rate_25 : decode bZ_rate 25 = .ok (.aload_n 0, 1) := by decide +kernel
theorem dZ_rate_26 : decode bZ_rate 26 = .ok (.getfield 19, 3) := by decide +kernel
theorem dZ_rate_29 : decode bZ_rate 29 = .ok (.iload_n 2, 1) := by decide +kernel
theorem dZ_rate_30 : decode bZ_rate 30 = .ok (.iaload, 1) := by decide +kernel
theorem dZ_rate_31 : decode bZ_rate 31 = .ok (.istore_n 3, 1) := by decide +kernel
theorem dZ_rate_32 : decode bZ_rate 32 = .ok (.iload_n 3, 1) := by decide +kernel
theorem dZ_rate_33 : decode bZ_rate 33 = .ok (.aload_n 0, 1) := by decide +kernel
theorem dZ_rate_34 : decode bZ_rate 34 = .ok (.iload_n 2, 1) := by decide +kernel
theorem dZ_rate_35 : decode bZ_rate 35 = .ok (.invokevirtual 210, 3) := by decide +kernel
theorem dZ_rate_38 : decode bZ_rate 38 = .ok (.iadd, 1) := by decide +kernel
theorem dZ_rate_39 : decode bZ_rate 39 = .ok (.istore 4, 2) := by decide +kernel
theorem dZ_rate_41 : decode bZ_rate 41 = .ok (.iload_n 3, 1) := by decide +kernel
theorem dZ_rate_42 : decode bZ_rate 42 = .ok (.aload_n 0, 1) := by decide +kernel
theorem dZ_rate_43 : decode bZ_rate 43 = .ok (.getfield 16, 3) := by decide +kernel
theorem dZ_rate_46 : decode bZ_rate 46 = .ok (.iload_n 2, 1) := by decide +kernel
theorem dZ_rate_47 : decode bZ_rate 47 = .ok (.iaload, 1) := by decide +kernel
theorem dZ_rate_48 : decode bZ_rate 48 = .ok (.isub, 1) := by decide +kernel
theorem dZ_rate_49 : decode bZ_rate 49 = .ok (.istore 5, 2) := by decide +kernel
theorem dZ_rate_51 : decode bZ_rate 51 = .ok (.aload_n 0, 1) := by decide +kernel
theorem dZ_rate_52 : decode bZ_rate 52 = .ok (.dup, 1) := by decide +kernel
theorem dZ_rate_53 : decode bZ_rate 53 = .ok (.getfield 213, 3) := by decide +kernel
theorem dZ_rate_56 : decode bZ_rate 56 = .ok (.iload_n 1, 1) := by decide +kernel
theorem dZ_rate_57 : decode bZ_rate 57 = .ok (.ifCond .ne 7, 3) := by decide +kernel
theorem dZ_rate_60 : decode bZ_rate 60 = .ok (.lconst 1, 1) := by decide +kernel
theorem dZ_rate_61 : decode bZ_rate 61 = .ok (.goto 50, 3) := by decide +kernel
theorem dZ_rate_64 : decode bZ_rate 64 = .ok (.iload_n 1, 1) := by decide +kernel
theorem dZ_rate_65 : decode bZ_rate 65 = .ok (.iconst 1, 1) := by decide +kernel
theorem dZ_rate_66 : decode bZ_rate 66 = .ok (.if_icmp .ne 9, 3) := by decide +kernel
theorem dZ_rate_69 : decode bZ_rate 69 = .ok (.ldc2_w 217, 3) := by decide +kernel
theorem dZ_rate_72 : decode bZ_rate 72 = .ok (.goto 39, 3) := by decide +kernel
theorem dZ_rate_75 : decode bZ_rate 75 = .ok (.iload_n 1, 1) := by decide +kernel
theorem dZ_rate_76 : decode bZ_rate 76 = .ok (.iconst 2, 1) := by decide +kernel
theorem dZ_rate_77 : decode bZ_rate 77 = .ok (.if_icmp .ne 9, 3) := by decide +kernel
theorem dZ_rate_80 : decode bZ_rate 80 = .ok (.ldc2_w 219, 3) := by decide +kernel
theorem dZ_rate_83 : decode bZ_rate 83 = .ok (.goto 28, 3) := by decide +kernel
theorem dZ_rate_86 : decode bZ_rate 86 = .ok (.iload_n 1, 1) := by decide +kernel
theorem dZ_rate_87 : decode bZ_rate 87 = .ok (.iconst 3, 1) := by decide +kernel
theorem dZ_rate_88 : decode bZ_rate 88 = .ok (.if_icmp .ne 9, 3) := by decide +kernel
theorem dZ_rate_91 : decode bZ_rate 91 = .ok (.ldc2_w 221, 3) := by decide +kernel
theorem dZ_rate_94 : decode bZ_rate 94 = .ok (.goto 17, 3) := by decide +kernel
theorem dZ_rate_97 : decode bZ_rate 97 = .ok (.iload_n 1, 1) := by decide +kernel
theorem dZ_rate_98 : decode bZ_rate 98 = .ok (.iconst 4, 1) := by decide +kernel
theorem dZ_rate_99 : decode bZ_rate 99 = .ok (.if_icmp .ne 9, 3) := by decide +kernel
theorem dZ_rate_102 : decode bZ_rate 102 = .ok (.ldc2_w 223, 3) := by decide +kernel
theorem dZ_rate_105 : decode bZ_rate 105 = .ok (.goto 6, 3) := by decide +kernel
theorem dZ_rate_108 : decode bZ_rate 108 = .ok (.ldc2_w 225, 3) := by decide +kernel
theorem dZ_rate_111 : decode bZ_rate 111 = .ok (.ladd, 1) := by decide +kernel
theorem dZ_rate_112 : decode bZ_rate 112 = .ok (.putfield 213, 3) := by decide +kernel
theorem dZ_rate_115 : decode bZ_rate 115 = .ok (.iload_n 1, 1) := by decide +kernel
theorem dZ_rate_116 : decode bZ_rate 116 = .ok (.ifCond .ne 7, 3) := by decide +kernel
theorem dZ_rate_119 : decode bZ_rate 119 = .ok (.iload_n 3, 1) := by decide +kernel
theorem dZ_rate_120 : decode bZ_rate 120 = .ok (.goto 58, 3) := by decide +kernel
theorem dZ_rate_123 : decode bZ_rate 123 = .ok (.iload_n 1, 1) := by decide +kernel
theorem dZ_rate_124 : decode bZ_rate 124 = .ok (.iconst 1, 1) := by decide +kernel
theorem dZ_rate_125 : decode bZ_rate 125 = .ok (.if_icmp .ne 8, 3) := by decide +kernel
theorem dZ_rate_128 : decode bZ_rate 128 = .ok (.iload 4, 2) := by decide +kernel
theorem dZ_rate_130 : decode bZ_rate 130 = .ok (.goto 48, 3) := by decide +kernel
theorem dZ_rate_133 : decode bZ_rate 133 = .ok (.iload_n 1, 1) := by decide +kernel
theorem dZ_rate_134 : decode bZ_rate 134 = .ok (.iconst 2, 1) := by decide +kernel
theorem dZ_rate_135 : decode bZ_rate 135 = .ok (.if_icmp .ne 8, 3) := by decide +kernel
theorem dZ_rate_138 : decode bZ_rate 138 = .ok (.iload 5, 2) := by decide +kernel
theorem dZ_rate_140 : decode bZ_rate 140 = .ok (.goto 38, 3) := by decide +kernel
theorem dZ_rate_143 : decode bZ_rate 143 = .ok (.iload_n 1, 1) := by decide +kernel
theorem dZ_rate_144 : decode bZ_rate 144 = .ok (.iconst 3, 1) := by decide +kernel
theorem dZ_rate_145 : decode bZ_rate 145 = .ok (.if_icmp .ne 10, 3) := by decide +kernel
theorem dZ_rate_148 : decode bZ_rate 148 = .ok (.iconst 2, 1) := by decide +kernel
theorem dZ_rate_149 : decode bZ_rate 149 = .ok (.iload 4, 2) := by decide +kernel
theorem dZ_rate_151 : decode bZ_rate 151 = .ok (.imul, 1) := by decide +kernel
theorem dZ_rate_152 : decode bZ_rate 152 = .ok (.goto 26, 3) := by decide +kernel
theorem dZ_rate_155 : decode bZ_rate 155 = .ok (.iload_n 1, 1) := by decide +kernel
theorem dZ_rate_156 : decode bZ_rate 156 = .ok (.iconst 4, 1) := by decide +kernel
theorem dZ_rate_157 : decode bZ_rate 157 = .ok (.if_icmp .ne 10, 3) := by decide +kernel
theorem dZ_rate_160 : decode bZ_rate 160 = .ok (.iload 5, 2) := by decide +kernel
theorem dZ_rate_162 : decode bZ_rate 162 = .ok (.iload_n 2, 1) := by decide +kernel
theorem dZ_rate_163 : decode bZ_rate 163 = .ok (.iadd, 1) := by decide +kernel
theorem dZ_rate_164 : decode bZ_rate 164 = .ok (.goto 14, 3) := by decide +kernel
theorem dZ_rate_167 : decode bZ_rate 167 = .ok (.iload_n 3, 1) := by decide +kernel
theorem dZ_rate_168 : decode bZ_rate 168 = .ok (.aload_n 0, 1) := by decide +kernel
theorem dZ_rate_169 : decode bZ_rate 169 = .ok (.getfield 28, 3) := by decide +kernel
theorem dZ_rate_172 : decode bZ_rate 172 = .ok (.iconst 4, 1) := by decide +kernel
theorem dZ_rate_173 : decode bZ_rate 173 = .ok (.iaload, 1) := by decide +kernel
theorem dZ_rate_174 : decode bZ_rate 174 = .ok (.invokestatic 153, 3) := by decide +kernel
theorem dZ_rate_177 : decode bZ_rate 177 = .ok (.iadd, 1) := by decide +kernel
theorem dZ_rate_178 : decode bZ_rate 178 = .ok (.ireturn, 1) := by decide +kernel
theorem dZ_thingsOn_0 : decode bZ_thingsOn 0 = .ok (.iconst 0, 1) := by decide +kernel
theorem dZ_thingsOn_1 : decode bZ_thingsOn 1 = .ok (.istore_n 2, 1) := by decide +kernel
theorem dZ_thingsOn_2 : decode bZ_thingsOn 2 = .ok (.iconst 0, 1) := by decide +kernel
theorem dZ_thingsOn_3 : decode bZ_thingsOn 3 = .ok (.istore_n 3, 1) := by decide +kernel
theorem dZ_thingsOn_4 : decode bZ_thingsOn 4 = .ok (.iload_n 3, 1) := by decide +kernel
theorem dZ_thingsOn_5 : decode bZ_thingsOn 5 = .ok (.aload_n 0, 1) := by decide +kernel
theorem dZ_thingsOn_6 : decode bZ_thingsOn 6 = .ok (.getfield 28, 3) := by decide +kernel
theorem dZ_thingsOn_9 : decode bZ_thingsOn 9 = .ok (.iconst 5, 1) := by decide +kernel
theorem dZ_thingsOn_10 : decode bZ_thingsOn 10 = .ok (.iaload, 1) := by decide +kernel
theorem dZ_thingsOn_11 : decode bZ_thingsOn 11 = .ok (.if_icmp .ge 46, 3) := by decide +kernel
theorem dZ_thingsOn_14 : decode bZ_thingsOn 14 = .ok (.iload_n 2, 1) := by decide +kernel
theorem dZ_thingsOn_15 : decode bZ_thingsOn 15 = .ok (.aload_n 0, 1) := by decide +kernel
theorem dZ_thingsOn_16 : decode bZ_thingsOn 16 = .ok (.getfield 28, 3) := by decide +kernel
theorem dZ_thingsOn_19 : decode bZ_thingsOn 19 = .ok (.bipush 6, 2) := by decide +kernel
theorem dZ_thingsOn_21 : decode bZ_thingsOn 21 = .ok (.iload_n 3, 1) := by decide +kernel
theorem dZ_thingsOn_22 : decode bZ_thingsOn 22 = .ok (.iadd, 1) := by decide +kernel
theorem dZ_thingsOn_23 : decode bZ_thingsOn 23 = .ok (.iaload, 1) := by decide +kernel
theorem dZ_thingsOn_24 : decode bZ_thingsOn 24 = .ok (.aload_n 0, 1) := by decide +kernel
theorem dZ_thingsOn_25 : decode bZ_thingsOn 25 = .ok (.iload_n 1, 1) := by decide +kernel
theorem dZ_thingsOn_26 : decode bZ_thingsOn 26 = .ok (.invokevirtual 136, 3) := by decide +kernel
theorem dZ_thingsOn_29 : decode bZ_thingsOn 29 = .ok (.aload_n 0, 1) := by decide +kernel
theorem dZ_thingsOn_30 : decode bZ_thingsOn 30 = .ok (.iload_n 1, 1) := by decide +kernel
theorem dZ_thingsOn_31 : decode bZ_thingsOn 31 = .ok (.iconst 1, 1) := by decide +kernel
theorem dZ_thingsOn_32 : decode bZ_thingsOn 32 = .ok (.iadd, 1) := by decide +kernel
theorem dZ_thingsOn_33 : decode bZ_thingsOn 33 = .ok (.invokevirtual 136, 3) := by decide +kernel
theorem dZ_thingsOn_36 : decode bZ_thingsOn 36 = .ok (.iconst 1, 1) := by decide +kernel
theorem dZ_thingsOn_37 : decode bZ_thingsOn 37 = .ok (.isub, 1) := by decide +kernel
theorem dZ_thingsOn_38 : decode bZ_thingsOn 38 = .ok (.invokestatic 72, 3) := by decide +kernel
theorem dZ_thingsOn_41 : decode bZ_thingsOn 41 = .ok (.ifCond .eq 7, 3) := by decide +kernel
theorem dZ_thingsOn_44 : decode bZ_thingsOn 44 = .ok (.iconst 1, 1) := by decide +kernel
theorem dZ_thingsOn_45 : decode bZ_thingsOn 45 = .ok (.goto 4, 3) := by decide +kernel
theorem dZ_thingsOn_48 : decode bZ_thingsOn 48 = .ok (.iconst 0, 1) := by decide +kernel
theorem dZ_thingsOn_49 : decode bZ_thingsOn 49 = .ok (.iadd, 1) := by decide +kernel
theorem dZ_thingsOn_50 : decode bZ_thingsOn 50 = .ok (.istore_n 2, 1) := by decide +kernel
theorem dZ_thingsOn_51 : decode bZ_thingsOn 51 = .ok (.iinc 3 1, 3) := by decide +kernel
theorem dZ_thingsOn_54 : decode bZ_thingsOn 54 = .ok (.goto (-50), 3) := by decide +kernel
theorem dZ_thingsOn_57 : decode bZ_thingsOn 57 = .ok (.iload_n 2, 1) := by decide +kernel
theorem dZ_thingsOn_58 : decode bZ_thingsOn 58 = .ok (.ireturn, 1) := by decide +kernel
theorem dZ_keep_0 : decode bZ_keep 0 = .ok (.aload_n 0, 1) := by decide +kernel
theorem dZ_keep_1 : decode bZ_keep 1 = .ok (.iconst 0, 1) := by decide +kernel
theorem dZ_keep_2 : decode bZ_keep 2 = .ok (.putfield 68, 3) := by decide +kernel
theorem dZ_keep_5 : decode bZ_keep 5 = .ok (.iload_n 1, 1) := by decide +kernel
theorem dZ_keep_6 : decode bZ_keep 6 = .ok (.iconst 0, 1) := by decide +kernel
theorem dZ_keep_7 : decode bZ_keep 7 = .ok (.iconst 1, 1) := by decide +kernel
theorem dZ_keep_8 : decode bZ_keep 8 = .ok (.invokestatic 72, 3) := by decide +kernel
theorem dZ_keep_11 : decode bZ_keep 11 = .ok (.ifCond .ne 5, 3) := by decide +kernel
theorem dZ_keep_14 : decode bZ_keep 14 = .ok (.iconst (-1), 1) := by decide +kernel
theorem dZ_keep_15 : decode bZ_keep 15 = .ok (.ireturn, 1) := by decide +kernel
theorem dZ_keep_16 : decode bZ_keep 16 = .ok (.iconst 0, 1) := by decide +kernel
theorem dZ_keep_17 : decode bZ_keep 17 = .ok (.istore_n 2, 1) := by decide +kernel
theorem dZ_keep_18 : decode bZ_keep 18 = .ok (.iload_n 2, 1) := by decide +kernel
theorem dZ_keep_19 : decode bZ_keep 19 = .ok (.sipush 212, 3) := by decide +kernel
theorem dZ_keep_22 : decode bZ_keep 22 = .ok (.if_icmp .ge 27, 3) := by decide +kernel
theorem dZ_keep_25 : decode bZ_keep 25 = .ok (.aload_n 0, 1) := by decide +kernel
theorem dZ_keep_26 : decode bZ_keep 26 = .ok (.getfield 31, 3) := by decide +kernel
theorem dZ_keep_29 : decode bZ_keep 29 = .ok (.sipush 212, 3) := by decide +kernel
theorem dZ_keep_32 : decode bZ_keep 32 = .ok (.iload_n 1, 1) := by decide +kernel
theorem dZ_keep_33 : decode bZ_keep 33 = .ok (.imul, 1) := by decide +kernel
theorem dZ_keep_34 : decode bZ_keep 34 = .ok (.iload_n 2, 1) := by decide +kernel
theorem dZ_keep_35 : decode bZ_keep 35 = .ok (.iadd, 1) := by decide +kernel
theorem dZ_keep_36 : decode bZ_keep 36 = .ok (.aload_n 0, 1) := by decide +kernel
theorem dZ_keep_37 : decode bZ_keep 37 = .ok (.getfield 28, 3) := by decide +kernel
theorem dZ_keep_40 : decode bZ_keep 40 = .ok (.iload_n 2, 1) := by decide +kernel
theorem dZ_keep_41 : decode bZ_keep 41 = .ok (.iaload, 1) := by decide +kernel
theorem dZ_keep_42 : decode bZ_keep 42 = .ok (.iastore, 1) := by decide +kernel
theorem dZ_keep_43 : decode bZ_keep 43 = .ok (.iinc 2 1, 3) := by decide +kernel
theorem dZ_keep_46 : decode bZ_keep 46 = .ok (.goto (-28), 3) := by decide +kernel
theorem dZ_keep_49 : decode bZ_keep 49 = .ok (.aload_n 0, 1) := by decide +kernel
theorem dZ_keep_50 : decode bZ_keep 50 = .ok (.getfield 34, 3) := by decide +kernel
theorem dZ_keep_53 : decode bZ_keep 53 = .ok (.iload_n 1, 1) := by decide +kernel
theorem dZ_keep_54 : decode bZ_keep 54 = .ok (.iconst 1, 1) := by decide +kernel
theorem dZ_keep_55 : decode bZ_keep 55 = .ok (.bastore, 1) := by decide +kernel
theorem dZ_keep_56 : decode bZ_keep 56 = .ok (.aload_n 0, 1) := by decide +kernel
theorem dZ_keep_57 : decode bZ_keep 57 = .ok (.getfield 28, 3) := by decide +kernel
theorem dZ_keep_60 : decode bZ_keep 60 = .ok (.iconst 4, 1) := by decide +kernel
theorem dZ_keep_61 : decode bZ_keep 61 = .ok (.iaload, 1) := by decide +kernel
theorem dZ_keep_62 : decode bZ_keep 62 = .ok (.invokestatic 153, 3) := by decide +kernel
theorem dZ_keep_65 : decode bZ_keep 65 = .ok (.ireturn, 1) := by decide +kernel
theorem dZ_back_0 : decode bZ_back 0 = .ok (.aload_n 0, 1) := by decide +kernel
theorem dZ_back_1 : decode bZ_back 1 = .ok (.iconst 0, 1) := by decide +kernel
theorem dZ_back_2 : decode bZ_back 2 = .ok (.putfield 68, 3) := by decide +kernel
theorem dZ_back_5 : decode bZ_back 5 = .ok (.iload_n 1, 1) := by decide +kernel
theorem dZ_back_6 : decode bZ_back 6 = .ok (.iconst 0, 1) := by decide +kernel
theorem dZ_back_7 : decode bZ_back 7 = .ok (.iconst 1, 1) := by decide +kernel
theorem dZ_back_8 : decode bZ_back 8 = .ok (.invokestatic 72, 3) := by decide +kernel
theorem dZ_back_11 : decode bZ_back 11 = .ok (.ifCond .ne 5, 3) := by decide +kernel
theorem dZ_back_14 : decode bZ_back 14 = .ok (.iconst (-1), 1) := by decide +kernel
theorem dZ_back_15 : decode bZ_back 15 = .ok (.ireturn, 1) := by decide +kernel
theorem dZ_back_16 : decode bZ_back 16 = .ok (.aload_n 0, 1) := by decide +kernel
theorem dZ_back_17 : decode bZ_back 17 = .ok (.getfield 34, 3) := by decide +kernel
theorem dZ_back_20 : decode bZ_back 20 = .ok (.iload_n 1, 1) := by decide +kernel
theorem dZ_back_21 : decode bZ_back 21 = .ok (.baload, 1) := by decide +kernel
theorem dZ_back_22 : decode bZ_back 22 = .ok (.ifCond .ne 6, 3) := by decide +kernel
theorem dZ_back_25 : decode bZ_back 25 = .ok (.bipush (-2), 2) := by decide +kernel
theorem dZ_back_27 : decode bZ_back 27 = .ok (.ireturn, 1) := by decide +kernel
theorem dZ_back_28 : decode bZ_back 28 = .ok (.iconst 0, 1) := by decide +kernel
theorem dZ_back_29 : decode bZ_back 29 = .ok (.istore_n 2, 1) := by decide +kernel
theorem dZ_back_30 : decode bZ_back 30 = .ok (.iload_n 2, 1) := by decide +kernel
theorem dZ_back_31 : decode bZ_back 31 = .ok (.sipush 212, 3) := by decide +kernel
theorem dZ_back_34 : decode bZ_back 34 = .ok (.if_icmp .ge 27, 3) := by decide +kernel
theorem dZ_back_37 : decode bZ_back 37 = .ok (.aload_n 0, 1) := by decide +kernel
theorem dZ_back_38 : decode bZ_back 38 = .ok (.getfield 28, 3) := by decide +kernel
theorem dZ_back_41 : decode bZ_back 41 = .ok (.iload_n 2, 1) := by decide +kernel
theorem dZ_back_42 : decode bZ_back 42 = .ok (.aload_n 0, 1) := by decide +kernel
theorem dZ_back_43 : decode bZ_back 43 = .ok (.getfield 31, 3) := by decide +kernel
theorem dZ_back_46 : decode bZ_back 46 = .ok (.sipush 212, 3) := by decide +kernel
theorem dZ_back_49 : decode bZ_back 49 = .ok (.iload_n 1, 1) := by decide +kernel
theorem dZ_back_50 : decode bZ_back 50 = .ok (.imul, 1) := by decide +kernel
theorem dZ_back_51 : decode bZ_back 51 = .ok (.iload_n 2, 1) := by decide +kernel
theorem dZ_back_52 : decode bZ_back 52 = .ok (.iadd, 1) := by decide +kernel
theorem dZ_back_53 : decode bZ_back 53 = .ok (.iaload, 1) := by decide +kernel
theorem dZ_back_54 : decode bZ_back 54 = .ok (.iastore, 1) := by decide +kernel
theorem dZ_back_55 : decode bZ_back 55 = .ok (.iinc 2 1, 3) := by decide +kernel
theorem dZ_back_58 : decode bZ_back 58 = .ok (.goto (-28), 3) := by decide +kernel
theorem dZ_back_61 : decode bZ_back 61 = .ok (.aload_n 0, 1) := by decide +kernel
theorem dZ_back_62 : decode bZ_back 62 = .ok (.iconst 0, 1) := by decide +kernel
theorem dZ_back_63 : decode bZ_back 63 = .ok (.putfield 133, 3) := by decide +kernel
theorem dZ_back_66 : decode bZ_back 66 = .ok (.aload_n 0, 1) := by decide +kernel
theorem dZ_back_67 : decode bZ_back 67 = .ok (.getfield 28, 3) := by decide +kernel
theorem dZ_back_70 : decode bZ_back 70 = .ok (.iconst 4, 1) := by decide +kernel
theorem dZ_back_71 : decode bZ_back 71 = .ok (.iaload, 1) := by decide +kernel
theorem dZ_back_72 : decode bZ_back 72 = .ok (.invokestatic 153, 3) := by decide +kernel
theorem dZ_back_75 : decode bZ_back 75 = .ok (.ireturn, 1) := by decide +kernel
theorem dZ_count_0 : decode bZ_count 0 = .ok (.aload_n 0, 1) := by decide +kernel
theorem dZ_count_1 : decode bZ_count 1 = .ok (.iconst 0, 1) := by decide +kernel
theorem dZ_count_2 : decode bZ_count 2 = .ok (.putfield 68, 3) := by decide +kernel
theorem dZ_count_5 : decode bZ_count 5 = .ok (.iload_n 1, 1) := by decide +kernel
theorem dZ_count_6 : decode bZ_count 6 = .ok (.iconst 0, 1) := by decide +kernel
theorem dZ_count_7 : decode bZ_count 7 = .ok (.iconst 3, 1) := by decide +kernel
theorem dZ_count_8 : decode bZ_count 8 = .ok (.invokestatic 72, 3) := by decide +kernel
theorem dZ_count_11 : decode bZ_count 11 = .ok (.ifCond .eq 12, 3) := by decide +kernel
theorem dZ_count_14 : decode bZ_count 14 = .ok (.aload_n 0, 1) := by decide +kernel
theorem dZ_count_15 : decode bZ_count 15 = .ok (.getfield 13, 3) := by decide +kernel
theorem dZ_count_18 : decode bZ_count 18 = .ok (.iload_n 1, 1) := by decide +kernel
theorem dZ_count_19 : decode bZ_count 19 = .ok (.iaload, 1) := by decide +kernel
theorem dZ_count_20 : decode bZ_count 20 = .ok (.goto 41, 3) := by decide +kernel
theorem dZ_count_23 : decode bZ_count 23 = .ok (.iload_n 1, 1) := by decide +kernel
theorem dZ_count_24 : decode bZ_count 24 = .ok (.iconst 4, 1) := by decide +kernel
theorem dZ_count_25 : decode bZ_count 25 = .ok (.if_icmp .ne 10, 3) := by decide +kernel
theorem dZ_count_28 : decode bZ_count 28 = .ok (.aload_n 0, 1) := by decide +kernel
theorem dZ_count_29 : decode bZ_count 29 = .ok (.getfield 127, 3) := by decide +kernel
theorem dZ_count_32 : decode bZ_count 32 = .ok (.goto 29, 3) := by decide +kernel
theorem dZ_count_35 : decode bZ_count 35 = .ok (.iload_n 1, 1) := by decide +kernel
theorem dZ_count_36 : decode bZ_count 36 = .ok (.iconst 5, 1) := by decide +kernel
theorem dZ_count_37 : decode bZ_count 37 = .ok (.if_icmp .ne 10, 3) := by decide +kernel
theorem dZ_count_40 : decode bZ_count 40 = .ok (.aload_n 0, 1) := by decide +kernel
theorem dZ_count_41 : decode bZ_count 41 = .ok (.getfield 130, 3) := by decide +kernel
theorem dZ_count_44 : decode bZ_count 44 = .ok (.goto 17, 3) := by decide +kernel
theorem dZ_count_47 : decode bZ_count 47 = .ok (.iload_n 1, 1) := by decide +kernel
theorem dZ_count_48 : decode bZ_count 48 = .ok (.bipush 6, 2) := by decide +kernel
theorem dZ_count_50 : decode bZ_count 50 = .ok (.if_icmp .ne 10, 3) := by decide +kernel
theorem dZ_count_53 : decode bZ_count 53 = .ok (.aload_n 0, 1) := by decide +kernel
theorem dZ_count_54 : decode bZ_count 54 = .ok (.getfield 76, 3) := by decide +kernel
theorem dZ_count_57 : decode bZ_count 57 = .ok (.goto 4, 3) := by decide +kernel
theorem dZ_count_60 : decode bZ_count 60 = .ok (.iconst (-1), 1) := by decide +kernel
theorem dZ_count_61 : decode bZ_count 61 = .ok (.ireturn, 1) := by decide +kernel
theorem dZ_trace_0 : decode bZ_trace 0 = .ok (.aload_n 0, 1) := by decide +kernel
theorem dZ_trace_1 : decode bZ_trace 1 = .ok (.iconst 0, 1) := by decide +kernel
theorem dZ_trace_2 : decode bZ_trace 2 = .ok (.putfield 68, 3) := by decide +kernel
theorem dZ_trace_5 : decode bZ_trace 5 = .ok (.aload_n 0, 1) := by decide +kernel
theorem dZ_trace_6 : decode bZ_trace 6 = .ok (.getfield 213, 3) := by decide +kernel
theorem dZ_trace_9 : decode bZ_trace 9 = .ok (.lreturn, 1) := by decide +kernel
end
section
theorem dL_law_0 : decode code 0 = .ok (.new 7, 3) := by decide +kernel
theorem dL_law_3 : decode code 3 = .ok (.dup, 1) := by decide +kernel
theorem dL_law_4 : decode code 4 = .ok (.invokespecial 9, 3) := by decide +kernel
theorem dL_law_7 : decode code 7 = .ok (.astore_n 1, 1) := by decide +kernel
theorem dL_law_8 : decode code 8 = .ok (.new 10, 3) := by decide +kernel
theorem dL_law_11 : decode code 11 = .ok (.dup, 1) := by decide +kernel
theorem dL_law_12 : decode code 12 = .ok (.invokespecial 12, 3) := by decide +kernel
theorem dL_law_15 : decode code 15 = .ok (.astore_n 2, 1) := by decide +kernel
theorem dL_law_16 : decode code 16 = .ok (.iconst 0, 1) := by decide +kernel
theorem dL_law_17 : decode code 17 = .ok (.istore_n 3, 1) := by decide +kernel
theorem dL_law_18 : decode code 18 = .ok (.iload_n 3, 1) := by decide +kernel
theorem dL_law_19 : decode code 19 = .ok (.aload_n 0, 1) := by decide +kernel
theorem dL_law_20 : decode code 20 = .ok (.arraylength, 1) := by decide +kernel
theorem dL_law_21 : decode code 21 = .ok (.iconst 4, 1) := by decide +kernel
theorem dL_law_22 : decode code 22 = .ok (.isub, 1) := by decide +kernel
theorem dL_law_23 : decode code 23 = .ok (.if_icmp .gt 838, 3) := by decide +kernel
theorem dL_law_26 : decode code 26 = .ok (.aload_n 0, 1) := by decide +kernel
theorem dL_law_27 : decode code 27 = .ok (.iload_n 3, 1) := by decide +kernel
theorem dL_law_28 : decode code 28 = .ok (.iaload, 1) := by decide +kernel
theorem dL_law_29 : decode code 29 = .ok (.bipush 31, 2) := by decide +kernel
theorem dL_law_31 : decode code 31 = .ok (.iand, 1) := by decide +kernel
theorem dL_law_32 : decode code 32 = .ok (.tableswitch 823 0 27 #[128, 151, 164, 177, 210, 243, 276, 299, 322, 355, 378, 401, 424, 437, 460, 483, 506, 539, 562, 605, 628, 641, 664, 707, 740, 763, 786, 809], 128) := by decide +kernel
theorem dL_law_160 : decode code 160 = .ok (.aload_n 1, 1) := by decide +kernel
theorem dL_law_161 : decode code 161 = .ok (.aload_n 0, 1) := by decide +kernel
theorem dL_law_162 : decode code 162 = .ok (.iload_n 3, 1) := by decide +kernel
theorem dL_law_163 : decode code 163 = .ok (.iconst 1, 1) := by decide +kernel
theorem dL_law_164 : decode code 164 = .ok (.iadd, 1) := by decide +kernel
theorem dL_law_165 : decode code 165 = .ok (.iaload, 1) := by decide +kernel
theorem dL_law_166 : decode code 166 = .ok (.invokevirtual 13, 3) := by decide +kernel
theorem dL_law_169 : decode code 169 = .ok (.aload_n 2, 1) := by decide +kernel
theorem dL_law_170 : decode code 170 = .ok (.aload_n 0, 1) := by decide +kernel
theorem dL_law_171 : decode code 171 = .ok (.iload_n 3, 1) := by decide +kernel
theorem dL_law_172 : decode code 172 = .ok (.iconst 1, 1) := by decide +kernel
theorem dL_law_173 : decode code 173 = .ok (.iadd, 1) := by decide +kernel
theorem dL_law_174 : decode code 174 = .ok (.iaload, 1) := by decide +kernel
theorem dL_law_175 : decode code 175 = .ok (.invokevirtual 17, 3) := by decide +kernel
theorem dL_law_178 : decode code 178 = .ok (.if_icmp .eq 677, 3) := by decide +kernel
theorem dL_law_181 : decode code 181 = .ok (.iconst 0, 1) := by decide +kernel
theorem dL_law_182 : decode code 182 = .ok (.ireturn, 1) := by decide +kernel
theorem dL_law_183 : decode code 183 = .ok (.aload_n 1, 1) := by decide +kernel
theorem dL_law_184 : decode code 184 = .ok (.invokevirtual 18, 3) := by decide +kernel
theorem dL_law_187 : decode code 187 = .ok (.aload_n 2, 1) := by decide +kernel
theorem dL_law_188 : decode code 188 = .ok (.invokevirtual 22, 3) := by decide +kernel
theorem dL_law_191 : decode code 191 = .ok (.if_icmp .eq 664, 3) := by decide +kernel
theorem dL_law_194 : decode code 194 = .ok (.iconst 0, 1) := by decide +kernel
theorem dL_law_195 : decode code 195 = .ok (.ireturn, 1) := by decide +kernel
theorem dL_law_196 : decode code 196 = .ok (.aload_n 1, 1) := by decide +kernel
theorem dL_law_197 : decode code 197 = .ok (.invokevirtual 23, 3) := by decide +kernel
theorem dL_law_200 : decode code 200 = .ok (.aload_n 2, 1) := by decide +kernel
theorem dL_law_201 : decode code 201 = .ok (.invokevirtual 26, 3) := by decide +kernel
theorem dL_law_204 : decode code 204 = .ok (.if_icmp .eq 651, 3) := by decide +kernel
theorem dL_law_207 : decode code 207 = .ok (.iconst 0, 1) := by decide +kernel
theorem dL_law_208 : decode code 208 = .ok (.ireturn, 1) := by decide +kernel
theorem dL_law_209 : decode code 209 = .ok (.aload_n 1, 1) := by decide +kernel
theorem dL_law_210 : decode code 210 = .ok (.aload_n 0, 1) := by decide +kernel
theorem dL_law_211 : decode code 211 = .ok (.iload_n 3, 1) := by decide +kernel
theorem dL_law_212 : decode code 212 = .ok (.iconst 1, 1) := by decide +kernel
theorem dL_law_213 : decode code 213 = .ok (.iadd, 1) := by decide +kernel
theorem dL_law_214 : decode code 214 = .ok (.iaload, 1) := by decide +kernel
theorem dL_law_215 : decode code 215 = .ok (.aload_n 0, 1) := by decide +kernel
theorem dL_law_216 : decode code 216 = .ok (.iload_n 3, 1) := by decide +kernel
theorem dL_law_217 : decode code 217 = .ok (.iconst 2, 1) := by decide +kernel
theorem dL_law_218 : decode code 218 = .ok (.iadd, 1) := by decide +kernel
theorem dL_law_219 : decode code 219 = .ok (.iaload, 1) := by decide +kernel
theorem dL_law_220 : decode code 220 = .ok (.invokevirtual 27, 3) := by decide +kernel
theorem dL_law_223 : decode code 223 = .ok (.aload_n 2, 1) := by decide +kernel
theorem dL_law_224 : decode code 224 = .ok (.aload_n 0, 1) := by decide +kernel
theorem dL_law_225 : decode code 225 = .ok (.iload_n 3, 1) := by decide +kernel
theorem dL_law_226 : decode code 226 = .ok (.iconst 1, 1) := by decide +kernel
theorem dL_law_227 : decode code 227 = .ok (.iadd, 1) := by decide +kernel
theorem dL_law_228 : decode code 228 = .ok (.iaload, 1) := by decide +kernel
theorem dL_law_229 : decode code 229 = .ok (.aload_n 0, 1) := by decide +kernel
theorem dL_law_230 : decode code 230 = .ok (.iload_n 3, 1) := by decide +kernel
theorem dL_law_231 : decode code 231 = .ok (.iconst 2, 1) := by decide +kernel
theorem dL_law_232 : decode code 232 = .ok (.iadd, 1) := by decide +kernel
theorem dL_law_233 : decode code 233 = .ok (.iaload, 1) := by decide +kernel
theorem dL_law_234 : decode code 234 = .ok (.invokevirtual 31, 3) := by decide +kernel
theorem dL_law_237 : decode code 237 = .ok (.if_icmp .eq 618, 3) := by decide +kernel
theorem dL_law_240 : decode code 240 = .ok (.iconst 0, 1) := by decide +kernel
theorem dL_law_241 : decode code 241 = .ok (.ireturn, 1) := by decide +kernel
theorem dL_law_242 : decode code 242 = .ok (.aload_n 1, 1) := by decide +kernel
theorem dL_law_243 : decode code 243 = .ok (.aload_n 0, 1) := by decide +kernel
theorem dL_law_244 : decode code 244 = .ok (.iload_n 3, 1) := by decide +kernel
theorem dL_law_245 : decode code 245 = .ok (.iconst 1, 1) := by decide +kernel
theorem dL_law_246 : decode code 246 = .ok (.iadd, 1) := by decide +kernel
theorem dL_law_247 : decode code 247 = .ok (.iaload, 1) := by decide +kernel
theorem dL_law_248 : decode code 248 = .ok (.aload_n 0, 1) := by decide +kernel
theorem dL_law_249 : decode code 249 = .ok (.iload_n 3, 1) := by decide +kernel
theorem dL_law_250 : decode code 250 = .ok (.iconst 2, 1) := by decide +kernel
theorem dL_law_251 : decode code 251 = .ok (.iadd, 1) := by decide +kernel
theorem dL_law_252 : decode code 252 = .ok (.iaload, 1) := by decide +kernel
theorem dL_law_253 : decode code 253 = .ok (.invokevirtual 32, 3) := by decide +kernel
theorem dL_law_256 : decode code 256 = .ok (.aload_n 2, 1) := by decide +kernel
theorem dL_law_257 : decode code 257 = .ok (.aload_n 0, 1) := by decide +kernel
theorem dL_law_258 : decode code 258 = .ok (.iload_n 3, 1) := by decide +kernel
theorem dL_law_259 : decode code 259 = .ok (.iconst 1, 1) := by decide +kernel
theorem dL_law_260 : decode code 260 = .ok (.iadd, 1) := by decide +kernel
theorem dL_law_261 : decode code 261 = .ok (.iaload, 1) := by decide +kernel
theorem dL_law_262 : decode code 262 = .ok (.aload_n 0, 1) := by decide +kernel
theorem dL_law_263 : decode code 263 = .ok (.iload_n 3, 1) := by decide +kernel
theorem dL_law_264 : decode code 264 = .ok (.iconst 2, 1) := by decide +kernel
theorem dL_law_265 : decode code 265 = .ok (.iadd, 1) := by decide +kernel
theorem dL_law_266 : decode code 266 = .ok (.iaload, 1) := by decide +kernel
theorem dL_law_267 : decode code 267 = .ok (.invokevirtual 35, 3) := by decide +kernel
theorem dL_law_270 : decode code 270 = .ok (.if_icmp .eq 585, 3) := by decide +kernel
theorem dL_law_273 : decode code 273 = .ok (.iconst 0, 1) := by decide +kernel
theorem dL_law_274 : decode code 274 = .ok (.ireturn, 1) := by decide +kernel
theorem dL_law_275 : decode code 275 = .ok (.aload_n 1, 1) := by decide +kernel
theorem dL_law_276 : decode code 276 = .ok (.aload_n 0, 1) := by decide +kernel
theorem dL_law_277 : decode code 277 = .ok (.iload_n 3, 1) := by decide +kernel
theorem dL_law_278 : decode code 278 = .ok (.iconst 1, 1) := by decide +kernel
theorem dL_law_279 : decode code 279 = .ok (.iadd, 1) := by decide +kernel
theorem dL_law_280 : decode code 280 = .ok (.iaload, 1) := by decide +kernel
theorem dL_law_281 : decode code 281 = .ok (.aload_n 0, 1) := by decide +kernel
theorem dL_law_282 : decode code 282 = .ok (.iload_n 3, 1) := by decide +kernel
theorem dL_law_283 : decode code 283 = .ok (.iconst 2, 1) := by decide +kernel
theorem dL_law_284 : decode code 284 = .ok (.iadd, 1) := by decide +kernel
theorem dL_law_285 : decode code 285 = .ok (.iaload, 1) := by decide +kernel
theorem dL_law_286 : decode code 286 = .ok (.invokevirtual 36, 3) := by decide +kernel
theorem dL_law_289 : decode code 289 = .ok (.aload_n 2, 1) := by decide +kernel
theorem dL_law_290 : decode code 290 = .ok (.aload_n 0, 1) := by decide +kernel
theorem dL_law_291 : decode code 291 = .ok (.iload_n 3, 1) := by decide +kernel
theorem dL_law_292 : decode code 292 = .ok (.iconst 1, 1) := by decide +kernel
theorem dL_law_293 : decode code 293 = .ok (.iadd, 1) := by decide +kernel
theorem dL_law_294 : decode code 294 = .ok (.iaload, 1) := by decide +kernel
theorem dL_law_295 : decode code 295 = .ok (.aload_n 0, 1) := by decide +kernel
theorem dL_law_296 : decode code 296 = .ok (.iload_n 3, 1) := by decide +kernel
theorem dL_law_297 : decode code 297 = .ok (.iconst 2, 1) := by decide +kernel
theorem dL_law_298 : decode code 298 = .ok (.iadd, 1) := by decide +kernel
theorem dL_law_299 : decode code 299 = .ok (.iaload, 1) := by decide +kernel
theorem dL_law_300 : decode code 300 = .ok (.invokevirtual 39, 3) := by decide +kernel
theorem dL_law_303 : decode code 303 = .ok (.if_icmp .eq 552, 3) := by decide +kernel
theorem dL_law_306 : decode code 306 = .ok (.iconst 0, 1) := by decide +kernel
theorem dL_law_307 : decode code 307 = .ok (.ireturn, 1) := by decide +kernel
theorem dL_law_308 : decode code 308 = .ok (.aload_n 1, 1) := by decide +kernel
theorem dL_law_309 : decode code 309 = .ok (.aload_n 0, 1) := by decide +kernel
theorem dL_law_310 : decode code 310 = .ok (.iload_n 3, 1) := by decide +kernel
theorem dL_law_311 : decode code 311 = .ok (.iconst 1, 1) := by decide +kernel
theorem dL_law_312 : decode code 312 = .ok (.iadd, 1) := by decide +kernel
theorem dL_law_313 : decode code 313 = .ok (.iaload, 1) := by decide +kernel
theorem dL_law_314 : decode code 314 = .ok (.invokevirtual 40, 3) := by decide +kernel
theorem dL_law_317 : decode code 317 = .ok (.aload_n 2, 1) := by decide +kernel
theorem dL_law_318 : decode code 318 = .ok (.aload_n 0, 1) := by decide +kernel
theorem dL_law_319 : decode code 319 = .ok (.iload_n 3, 1) := by decide +kernel
theorem dL_law_320 : decode code 320 = .ok (.iconst 1, 1) := by decide +kernel
theorem dL_law_321 : decode code 321 = .ok (.iadd, 1) := by decide +kernel
theorem dL_law_322 : decode code 322 = .ok (.iaload, 1) := by decide +kernel
theorem dL_law_323 : decode code 323 = .ok (.invokevirtual 43, 3) := by decide +kernel
theorem dL_law_326 : decode code 326 = .ok (.if_icmp .eq 529, 3) := by decide +kernel
theorem dL_law_329 : decode code 329 = .ok (.iconst 0, 1) := by decide +kernel
theorem dL_law_330 : decode code 330 = .ok (.ireturn, 1) := by decide +kernel
theorem dL_law_331 : decode code 331 = .ok (.aload_n 1, 1) := by decide +kernel
theorem dL_law_332 : decode code 332 = .ok (.aload_n 0, 1) := by decide +kernel
theorem dL_law_333 : decode code 333 = .ok (.iload_n 3, 1) := by decide +kernel
theorem dL_law_334 : decode code 334 = .ok (.iconst 1, 1) := by decide +kernel
theorem dL_law_335 : decode code 335 = .ok (.iadd, 1) := by decide +kernel
theorem dL_law_336 : decode code 336 = .ok (.iaload, 1) := by decide +kernel
theorem dL_law_337 : decode code 337 = .ok (.invokevirtual 44, 3) := by decide +kernel
theorem dL_law_340 : decode code 340 = .ok (.aload_n 2, 1) := by decide +kernel
theorem dL_law_341 : decode code 341 = .ok (.aload_n 0, 1) := by decide +kernel
theorem dL_law_342 : decode code 342 = .ok (.iload_n 3, 1) := by decide +kernel
theorem dL_law_343 : decode code 343 = .ok (.iconst 1, 1) := by decide +kernel
theorem dL_law_344 : decode code 344 = .ok (.iadd, 1) := by decide +kernel
theorem dL_law_345 : decode code 345 = .ok (.iaload, 1) := by decide +kernel
theorem dL_law_346 : decode code 346 = .ok (.invokevirtual 47, 3) := by decide +kernel
theorem dL_law_349 : decode code 349 = .ok (.if_icmp .eq 506, 3) := by decide +kernel
theorem dL_law_352 : decode code 352 = .ok (.iconst 0, 1) := by decide +kernel
theorem dL_law_353 : decode code 353 = .ok (.ireturn, 1) := by decide +kernel
theorem dL_law_354 : decode code 354 = .ok (.aload_n 1, 1) := by decide +kernel
theorem dL_law_355 : decode code 355 = .ok (.aload_n 0, 1) := by decide +kernel
theorem dL_law_356 : decode code 356 = .ok (.iload_n 3, 1) := by decide +kernel
theorem dL_law_357 : decode code 357 = .ok (.iconst 1, 1) := by decide +kernel
theorem dL_law_358 : decode code 358 = .ok (.iadd, 1) := by decide +kernel
theorem dL_law_359 : decode code 359 = .ok (.iaload, 1) := by decide +kernel
theorem dL_law_360 : decode code 360 = .ok (.aload_n 0, 1) := by decide +kernel
theorem dL_law_361 : decode code 361 = .ok (.iload_n 3, 1) := by decide +kernel
theorem dL_law_362 : decode code 362 = .ok (.iconst 2, 1) := by decide +kernel
theorem dL_law_363 : decode code 363 = .ok (.iadd, 1) := by decide +kernel
theorem dL_law_364 : decode code 364 = .ok (.iaload, 1) := by decide +kernel
theorem dL_law_365 : decode code 365 = .ok (.invokevirtual 48, 3) := by decide +kernel
theorem dL_law_368 : decode code 368 = .ok (.aload_n 2, 1) := by decide +kernel
theorem dL_law_369 : decode code 369 = .ok (.aload_n 0, 1) := by decide +kernel
theorem dL_law_370 : decode code 370 = .ok (.iload_n 3, 1) := by decide +kernel
theorem dL_law_371 : decode code 371 = .ok (.iconst 1, 1) := by decide +kernel
theorem dL_law_372 : decode code 372 = .ok (.iadd, 1) := by decide +kernel
theorem dL_law_373 : decode code 373 = .ok (.iaload, 1) := by decide +kernel
theorem dL_law_374 : decode code 374 = .ok (.aload_n 0, 1) := by decide +kernel
theorem dL_law_375 : decode code 375 = .ok (.iload_n 3, 1) := by decide +kernel
theorem dL_law_376 : decode code 376 = .ok (.iconst 2, 1) := by decide +kernel
theorem dL_law_377 : decode code 377 = .ok (.iadd, 1) := by decide +kernel
theorem dL_law_378 : decode code 378 = .ok (.iaload, 1) := by decide +kernel
theorem dL_law_379 : decode code 379 = .ok (.invokevirtual 51, 3) := by decide +kernel
theorem dL_law_382 : decode code 382 = .ok (.if_icmp .eq 473, 3) := by decide +kernel
theorem dL_law_385 : decode code 385 = .ok (.iconst 0, 1) := by decide +kernel
theorem dL_law_386 : decode code 386 = .ok (.ireturn, 1) := by decide +kernel
theorem dL_law_387 : decode code 387 = .ok (.aload_n 1, 1) := by decide +kernel
theorem dL_law_388 : decode code 388 = .ok (.aload_n 0, 1) := by decide +kernel
theorem dL_law_389 : decode code 389 = .ok (.iload_n 3, 1) := by decide +kernel
theorem dL_law_390 : decode code 390 = .ok (.iconst 1, 1) := by decide +kernel
theorem dL_law_391 : decode code 391 = .ok (.iadd, 1) := by decide +kernel
theorem dL_law_392 : decode code 392 = .ok (.iaload, 1) := by decide +kernel
theorem dL_law_393 : decode code 393 = .ok (.invokevirtual 52, 3) := by decide +kernel
theorem dL_law_396 : decode code 396 = .ok (.aload_n 2, 1) := by decide +kernel
theorem dL_law_397 : decode code 397 = .ok (.aload_n 0, 1) := by decide +kernel
theorem dL_law_398 : decode code 398 = .ok (.iload_n 3, 1) := by decide +kernel
theorem dL_law_399 : decode code 399 = .ok (.iconst 1, 1) := by decide +kernel
theorem dL_law_400 : decode code 400 = .ok (.iadd, 1) := by decide +kernel
theorem dL_law_401 : decode code 401 = .ok (.iaload, 1) := by decide +kernel
theorem dL_law_402 : decode code 402 = .ok (.invokevirtual 55, 3) := by decide +kernel
theorem dL_law_405 : decode code 405 = .ok (.if_icmp .eq 450, 3) := by decide +kernel
theorem dL_law_408 : decode code 408 = .ok (.iconst 0, 1) := by decide +kernel
theorem dL_law_409 : decode code 409 = .ok (.ireturn, 1) := by decide +kernel
theorem dL_law_410 : decode code 410 = .ok (.aload_n 1, 1) := by decide +kernel
theorem dL_law_411 : decode code 411 = .ok (.aload_n 0, 1) := by decide +kernel
theorem dL_law_412 : decode code 412 = .ok (.iload_n 3, 1) := by decide +kernel
theorem dL_law_413 : decode code 413 = .ok (.iconst 1, 1) := by decide +kernel
theorem dL_law_414 : decode code 414 = .ok (.iadd, 1) := by decide +kernel
theorem dL_law_415 : decode code 415 = .ok (.iaload, 1) := by decide +kernel
theorem dL_law_416 : decode code 416 = .ok (.invokevirtual 56, 3) := by decide +kernel
theorem dL_law_419 : decode code 419 = .ok (.aload_n 2, 1) := by decide +kernel
theorem dL_law_420 : decode code 420 = .ok (.aload_n 0, 1) := by decide +kernel
theorem dL_law_421 : decode code 421 = .ok (.iload_n 3, 1) := by decide +kernel
theorem dL_law_422 : decode code 422 = .ok (.iconst 1, 1) := by decide +kernel
theorem dL_law_423 : decode code 423 = .ok (.iadd, 1) := by decide +kernel
theorem dL_law_424 : decode code 424 = .ok (.iaload, 1) := by decide +kernel
theorem dL_law_425 : decode code 425 = .ok (.invokevirtual 59, 3) := by decide +kernel
theorem dL_law_428 : decode code 428 = .ok (.if_icmp .eq 427, 3) := by decide +kernel
theorem dL_law_431 : decode code 431 = .ok (.iconst 0, 1) := by decide +kernel
theorem dL_law_432 : decode code 432 = .ok (.ireturn, 1) := by decide +kernel
theorem dL_law_433 : decode code 433 = .ok (.aload_n 1, 1) := by decide +kernel
theorem dL_law_434 : decode code 434 = .ok (.aload_n 0, 1) := by decide +kernel
theorem dL_law_435 : decode code 435 = .ok (.iload_n 3, 1) := by decide +kernel
theorem dL_law_436 : decode code 436 = .ok (.iconst 1, 1) := by decide +kernel
theorem dL_law_437 : decode code 437 = .ok (.iadd, 1) := by decide +kernel
theorem dL_law_438 : decode code 438 = .ok (.iaload, 1) := by decide +kernel
theorem dL_law_439 : decode code 439 = .ok (.invokevirtual 60, 3) := by decide +kernel
theorem dL_law_442 : decode code 442 = .ok (.aload_n 2, 1) := by decide +kernel
theorem dL_law_443 : decode code 443 = .ok (.aload_n 0, 1) := by decide +kernel
theorem dL_law_444 : decode code 444 = .ok (.iload_n 3, 1) := by decide +kernel
theorem dL_law_445 : decode code 445 = .ok (.iconst 1, 1) := by decide +kernel
theorem dL_law_446 : decode code 446 = .ok (.iadd, 1) := by decide +kernel
theorem dL_law_447 : decode code 447 = .ok (.iaload, 1) := by decide +kernel
theorem dL_law_448 : decode code 448 = .ok (.invokevirtual 63, 3) := by decide +kernel
theorem dL_law_451 : decode code 451 = .ok (.if_icmp .eq 404, 3) := by decide +kernel
theorem dL_law_454 : decode code 454 = .ok (.iconst 0, 1) := by decide +kernel
theorem dL_law_455 : decode code 455 = .ok (.ireturn, 1) := by decide +kernel
theorem dL_law_456 : decode code 456 = .ok (.aload_n 1, 1) := by decide +kernel
theorem dL_law_457 : decode code 457 = .ok (.invokevirtual 64, 3) := by decide +kernel
theorem dL_law_460 : decode code 460 = .ok (.aload_n 2, 1) := by decide +kernel
theorem dL_law_461 : decode code 461 = .ok (.invokevirtual 67, 3) := by decide +kernel
theorem dL_law_464 : decode code 464 = .ok (.if_icmp .eq 391, 3) := by decide +kernel
theorem dL_law_467 : decode code 467 = .ok (.iconst 0, 1) := by decide +kernel
theorem dL_law_468 : decode code 468 = .ok (.ireturn, 1) := by decide +kernel
theorem dL_law_469 : decode code 469 = .ok (.aload_n 1, 1) := by decide +kernel
theorem dL_law_470 : decode code 470 = .ok (.aload_n 0, 1) := by decide +kernel
theorem dL_law_471 : decode code 471 = .ok (.iload_n 3, 1) := by decide +kernel
theorem dL_law_472 : decode code 472 = .ok (.iconst 1, 1) := by decide +kernel
theorem dL_law_473 : decode code 473 = .ok (.iadd, 1) := by decide +kernel
theorem dL_law_474 : decode code 474 = .ok (.iaload, 1) := by decide +kernel
theorem dL_law_475 : decode code 475 = .ok (.invokevirtual 68, 3) := by decide +kernel
theorem dL_law_478 : decode code 478 = .ok (.aload_n 2, 1) := by decide +kernel
theorem dL_law_479 : decode code 479 = .ok (.aload_n 0, 1) := by decide +kernel
theorem dL_law_480 : decode code 480 = .ok (.iload_n 3, 1) := by decide +kernel
theorem dL_law_481 : decode code 481 = .ok (.iconst 1, 1) := by decide +kernel
theorem dL_law_482 : decode code 482 = .ok (.iadd, 1) := by decide +kernel
theorem dL_law_483 : decode code 483 = .ok (.iaload, 1) := by decide +kernel
theorem dL_law_484 : decode code 484 = .ok (.invokevirtual 71, 3) := by decide +kernel
theorem dL_law_487 : decode code 487 = .ok (.if_icmp .eq 368, 3) := by decide +kernel
theorem dL_law_490 : decode code 490 = .ok (.iconst 0, 1) := by decide +kernel
theorem dL_law_491 : decode code 491 = .ok (.ireturn, 1) := by decide +kernel
theorem dL_law_492 : decode code 492 = .ok (.aload_n 1, 1) := by decide +kernel
theorem dL_law_493 : decode code 493 = .ok (.aload_n 0, 1) := by decide +kernel
theorem dL_law_494 : decode code 494 = .ok (.iload_n 3, 1) := by decide +kernel
theorem dL_law_495 : decode code 495 = .ok (.iconst 1, 1) := by decide +kernel
theorem dL_law_496 : decode code 496 = .ok (.iadd, 1) := by decide +kernel
theorem dL_law_497 : decode code 497 = .ok (.iaload, 1) := by decide +kernel
theorem dL_law_498 : decode code 498 = .ok (.invokevirtual 72, 3) := by decide +kernel
theorem dL_law_501 : decode code 501 = .ok (.aload_n 2, 1) := by decide +kernel
theorem dL_law_502 : decode code 502 = .ok (.aload_n 0, 1) := by decide +kernel
theorem dL_law_503 : decode code 503 = .ok (.iload_n 3, 1) := by decide +kernel
theorem dL_law_504 : decode code 504 = .ok (.iconst 1, 1) := by decide +kernel
theorem dL_law_505 : decode code 505 = .ok (.iadd, 1) := by decide +kernel
theorem dL_law_506 : decode code 506 = .ok (.iaload, 1) := by decide +kernel
theorem dL_law_507 : decode code 507 = .ok (.invokevirtual 75, 3) := by decide +kernel
theorem dL_law_510 : decode code 510 = .ok (.if_icmp .eq 345, 3) := by decide +kernel
theorem dL_law_513 : decode code 513 = .ok (.iconst 0, 1) := by decide +kernel
theorem dL_law_514 : decode code 514 = .ok (.ireturn, 1) := by decide +kernel
theorem dL_law_515 : decode code 515 = .ok (.aload_n 1, 1) := by decide +kernel
theorem dL_law_516 : decode code 516 = .ok (.aload_n 0, 1) := by decide +kernel
theorem dL_law_517 : decode code 517 = .ok (.iload_n 3, 1) := by decide +kernel
theorem dL_law_518 : decode code 518 = .ok (.iconst 1, 1) := by decide +kernel
theorem dL_law_519 : decode code 519 = .ok (.iadd, 1) := by decide +kernel
theorem dL_law_520 : decode code 520 = .ok (.iaload, 1) := by decide +kernel
theorem dL_law_521 : decode code 521 = .ok (.invokevirtual 76, 3) := by decide +kernel
theorem dL_law_524 : decode code 524 = .ok (.aload_n 2, 1) := by decide +kernel
theorem dL_law_525 : decode code 525 = .ok (.aload_n 0, 1) := by decide +kernel
theorem dL_law_526 : decode code 526 = .ok (.iload_n 3, 1) := by decide +kernel
theorem dL_law_527 : decode code 527 = .ok (.iconst 1, 1) := by decide +kernel
theorem dL_law_528 : decode code 528 = .ok (.iadd, 1) := by decide +kernel
theorem dL_law_529 : decode code 529 = .ok (.iaload, 1) := by decide +kernel
theorem dL_law_530 : decode code 530 = .ok (.invokevirtual 79, 3) := by decide +kernel
theorem dL_law_533 : decode code 533 = .ok (.if_icmp .eq 322, 3) := by decide +kernel
theorem dL_law_536 : decode code 536 = .ok (.iconst 0, 1) := by decide +kernel
theorem dL_law_537 : decode code 537 = .ok (.ireturn, 1) := by decide +kernel
theorem dL_law_538 : decode code 538 = .ok (.aload_n 1, 1) := by decide +kernel
theorem dL_law_539 : decode code 539 = .ok (.aload_n 0, 1) := by decide +kernel
theorem dL_law_540 : decode code 540 = .ok (.iload_n 3, 1) := by decide +kernel
theorem dL_law_541 : decode code 541 = .ok (.iconst 1, 1) := by decide +kernel
theorem dL_law_542 : decode code 542 = .ok (.iadd, 1) := by decide +kernel
theorem dL_law_543 : decode code 543 = .ok (.iaload, 1) := by decide +kernel
theorem dL_law_544 : decode code 544 = .ok (.aload_n 0, 1) := by decide +kernel
theorem dL_law_545 : decode code 545 = .ok (.iload_n 3, 1) := by decide +kernel
theorem dL_law_546 : decode code 546 = .ok (.iconst 2, 1) := by decide +kernel
theorem dL_law_547 : decode code 547 = .ok (.iadd, 1) := by decide +kernel
theorem dL_law_548 : decode code 548 = .ok (.iaload, 1) := by decide +kernel
theorem dL_law_549 : decode code 549 = .ok (.invokevirtual 80, 3) := by decide +kernel
theorem dL_law_552 : decode code 552 = .ok (.aload_n 2, 1) := by decide +kernel
theorem dL_law_553 : decode code 553 = .ok (.aload_n 0, 1) := by decide +kernel
theorem dL_law_554 : decode code 554 = .ok (.iload_n 3, 1) := by decide +kernel
theorem dL_law_555 : decode code 555 = .ok (.iconst 1, 1) := by decide +kernel
theorem dL_law_556 : decode code 556 = .ok (.iadd, 1) := by decide +kernel
theorem dL_law_557 : decode code 557 = .ok (.iaload, 1) := by decide +kernel
theorem dL_law_558 : decode code 558 = .ok (.aload_n 0, 1) := by decide +kernel
theorem dL_law_559 : decode code 559 = .ok (.iload_n 3, 1) := by decide +kernel
theorem dL_law_560 : decode code 560 = .ok (.iconst 2, 1) := by decide +kernel
theorem dL_law_561 : decode code 561 = .ok (.iadd, 1) := by decide +kernel
theorem dL_law_562 : decode code 562 = .ok (.iaload, 1) := by decide +kernel
theorem dL_law_563 : decode code 563 = .ok (.invokevirtual 83, 3) := by decide +kernel
theorem dL_law_566 : decode code 566 = .ok (.if_icmp .eq 289, 3) := by decide +kernel
theorem dL_law_569 : decode code 569 = .ok (.iconst 0, 1) := by decide +kernel
theorem dL_law_570 : decode code 570 = .ok (.ireturn, 1) := by decide +kernel
theorem dL_law_571 : decode code 571 = .ok (.aload_n 1, 1) := by decide +kernel
theorem dL_law_572 : decode code 572 = .ok (.aload_n 0, 1) := by decide +kernel
theorem dL_law_573 : decode code 573 = .ok (.iload_n 3, 1) := by decide +kernel
theorem dL_law_574 : decode code 574 = .ok (.iconst 1, 1) := by decide +kernel
theorem dL_law_575 : decode code 575 = .ok (.iadd, 1) := by decide +kernel
theorem dL_law_576 : decode code 576 = .ok (.iaload, 1) := by decide +kernel
theorem dL_law_577 : decode code 577 = .ok (.invokevirtual 84, 3) := by decide +kernel
theorem dL_law_580 : decode code 580 = .ok (.aload_n 2, 1) := by decide +kernel
theorem dL_law_581 : decode code 581 = .ok (.aload_n 0, 1) := by decide +kernel
theorem dL_law_582 : decode code 582 = .ok (.iload_n 3, 1) := by decide +kernel
theorem dL_law_583 : decode code 583 = .ok (.iconst 1, 1) := by decide +kernel
theorem dL_law_584 : decode code 584 = .ok (.iadd, 1) := by decide +kernel
theorem dL_law_585 : decode code 585 = .ok (.iaload, 1) := by decide +kernel
theorem dL_law_586 : decode code 586 = .ok (.invokevirtual 87, 3) := by decide +kernel
theorem dL_law_589 : decode code 589 = .ok (.if_icmp .eq 266, 3) := by decide +kernel
theorem dL_law_592 : decode code 592 = .ok (.iconst 0, 1) := by decide +kernel
theorem dL_law_593 : decode code 593 = .ok (.ireturn, 1) := by decide +kernel
theorem dL_law_594 : decode code 594 = .ok (.aload_n 1, 1) := by decide +kernel
theorem dL_law_595 : decode code 595 = .ok (.aload_n 0, 1) := by decide +kernel
theorem dL_law_596 : decode code 596 = .ok (.iload_n 3, 1) := by decide +kernel
theorem dL_law_597 : decode code 597 = .ok (.iconst 1, 1) := by decide +kernel
theorem dL_law_598 : decode code 598 = .ok (.iadd, 1) := by decide +kernel
theorem dL_law_599 : decode code 599 = .ok (.iaload, 1) := by decide +kernel
theorem dL_law_600 : decode code 600 = .ok (.aload_n 0, 1) := by decide +kernel
theorem dL_law_601 : decode code 601 = .ok (.iload_n 3, 1) := by decide +kernel
theorem dL_law_602 : decode code 602 = .ok (.iconst 2, 1) := by decide +kernel
theorem dL_law_603 : decode code 603 = .ok (.iadd, 1) := by decide +kernel
theorem dL_law_604 : decode code 604 = .ok (.iaload, 1) := by decide +kernel
theorem dL_law_605 : decode code 605 = .ok (.aload_n 0, 1) := by decide +kernel
theorem dL_law_606 : decode code 606 = .ok (.iload_n 3, 1) := by decide +kernel
theorem dL_law_607 : decode code 607 = .ok (.iconst 3, 1) := by decide +kernel
theorem dL_law_608 : decode code 608 = .ok (.iadd, 1) := by decide +kernel
theorem dL_law_609 : decode code 609 = .ok (.iaload, 1) := by decide +kernel
theorem dL_law_610 : decode code 610 = .ok (.invokevirtual 88, 3) := by decide +kernel
theorem dL_law_613 : decode code 613 = .ok (.aload_n 2, 1) := by decide +kernel
theorem dL_law_614 : decode code 614 = .ok (.aload_n 0, 1) := by decide +kernel
theorem dL_law_615 : decode code 615 = .ok (.iload_n 3, 1) := by decide +kernel
theorem dL_law_616 : decode code 616 = .ok (.iconst 1, 1) := by decide +kernel
theorem dL_law_617 : decode code 617 = .ok (.iadd, 1) := by decide +kernel
theorem dL_law_618 : decode code 618 = .ok (.iaload, 1) := by decide +kernel
theorem dL_law_619 : decode code 619 = .ok (.aload_n 0, 1) := by decide +kernel
theorem dL_law_620 : decode code 620 = .ok (.iload_n 3, 1) := by decide +kernel
theorem dL_law_621 : decode code 621 = .ok (.iconst 2, 1) := by decide +kernel
theorem dL_law_622 : decode code 622 = .ok (.iadd, 1) := by decide +kernel
theorem dL_law_623 : decode code 623 = .ok (.iaload, 1) := by decide +kernel
theorem dL_law_624 : decode code 624 = .ok (.aload_n 0, 1) := by decide +kernel
theorem dL_law_625 : decode code 625 = .ok (.iload_n 3, 1) := by decide +kernel
theorem dL_law_626 : decode code 626 = .ok (.iconst 3, 1) := by decide +kernel
theorem dL_law_627 : decode code 627 = .ok (.iadd, 1) := by decide +kernel
theorem dL_law_628 : decode code 628 = .ok (.iaload, 1) := by decide +kernel
theorem dL_law_629 : decode code 629 = .ok (.invokevirtual 92, 3) := by decide +kernel
theorem dL_law_632 : decode code 632 = .ok (.if_icmp .eq 223, 3) := by decide +kernel
theorem dL_law_635 : decode code 635 = .ok (.iconst 0, 1) := by decide +kernel
theorem dL_law_636 : decode code 636 = .ok (.ireturn, 1) := by decide +kernel
theorem dL_law_637 : decode code 637 = .ok (.aload_n 1, 1) := by decide +kernel
theorem dL_law_638 : decode code 638 = .ok (.aload_n 0, 1) := by decide +kernel
theorem dL_law_639 : decode code 639 = .ok (.iload_n 3, 1) := by decide +kernel
theorem dL_law_640 : decode code 640 = .ok (.iconst 1, 1) := by decide +kernel
theorem dL_law_641 : decode code 641 = .ok (.iadd, 1) := by decide +kernel
theorem dL_law_642 : decode code 642 = .ok (.iaload, 1) := by decide +kernel
theorem dL_law_643 : decode code 643 = .ok (.invokevirtual 93, 3) := by decide +kernel
theorem dL_law_646 : decode code 646 = .ok (.aload_n 2, 1) := by decide +kernel
theorem dL_law_647 : decode code 647 = .ok (.aload_n 0, 1) := by decide +kernel
theorem dL_law_648 : decode code 648 = .ok (.iload_n 3, 1) := by decide +kernel
theorem dL_law_649 : decode code 649 = .ok (.iconst 1, 1) := by decide +kernel
theorem dL_law_650 : decode code 650 = .ok (.iadd, 1) := by decide +kernel
theorem dL_law_651 : decode code 651 = .ok (.iaload, 1) := by decide +kernel
theorem dL_law_652 : decode code 652 = .ok (.invokevirtual 96, 3) := by decide +kernel
theorem dL_law_655 : decode code 655 = .ok (.if_icmp .eq 200, 3) := by decide +kernel
theorem dL_law_658 : decode code 658 = .ok (.iconst 0, 1) := by decide +kernel
theorem dL_law_659 : decode code 659 = .ok (.ireturn, 1) := by decide +kernel
theorem dL_law_660 : decode code 660 = .ok (.aload_n 1, 1) := by decide +kernel
theorem dL_law_661 : decode code 661 = .ok (.invokevirtual 97, 3) := by decide +kernel
theorem dL_law_664 : decode code 664 = .ok (.aload_n 2, 1) := by decide +kernel
theorem dL_law_665 : decode code 665 = .ok (.invokevirtual 100, 3) := by decide +kernel
theorem dL_law_668 : decode code 668 = .ok (.if_icmp .eq 187, 3) := by decide +kernel
theorem dL_law_671 : decode code 671 = .ok (.iconst 0, 1) := by decide +kernel
theorem dL_law_672 : decode code 672 = .ok (.ireturn, 1) := by decide +kernel
theorem dL_law_673 : decode code 673 = .ok (.aload_n 1, 1) := by decide +kernel
theorem dL_law_674 : decode code 674 = .ok (.aload_n 0, 1) := by decide +kernel
theorem dL_law_675 : decode code 675 = .ok (.iload_n 3, 1) := by decide +kernel
theorem dL_law_676 : decode code 676 = .ok (.iconst 1, 1) := by decide +kernel
theorem dL_law_677 : decode code 677 = .ok (.iadd, 1) := by decide +kernel
theorem dL_law_678 : decode code 678 = .ok (.iaload, 1) := by decide +kernel
theorem dL_law_679 : decode code 679 = .ok (.invokevirtual 101, 3) := by decide +kernel
theorem dL_law_682 : decode code 682 = .ok (.aload_n 2, 1) := by decide +kernel
theorem dL_law_683 : decode code 683 = .ok (.aload_n 0, 1) := by decide +kernel
theorem dL_law_684 : decode code 684 = .ok (.iload_n 3, 1) := by decide +kernel
theorem dL_law_685 : decode code 685 = .ok (.iconst 1, 1) := by decide +kernel
theorem dL_law_686 : decode code 686 = .ok (.iadd, 1) := by decide +kernel
theorem dL_law_687 : decode code 687 = .ok (.iaload, 1) := by decide +kernel
theorem dL_law_688 : decode code 688 = .ok (.invokevirtual 104, 3) := by decide +kernel
theorem dL_law_691 : decode code 691 = .ok (.if_icmp .eq 164, 3) := by decide +kernel
theorem dL_law_694 : decode code 694 = .ok (.iconst 0, 1) := by decide +kernel
theorem dL_law_695 : decode code 695 = .ok (.ireturn, 1) := by decide +kernel
theorem dL_law_696 : decode code 696 = .ok (.aload_n 1, 1) := by decide +kernel
theorem dL_law_697 : decode code 697 = .ok (.aload_n 0, 1) := by decide +kernel
theorem dL_law_698 : decode code 698 = .ok (.iload_n 3, 1) := by decide +kernel
theorem dL_law_699 : decode code 699 = .ok (.iconst 1, 1) := by decide +kernel
theorem dL_law_700 : decode code 700 = .ok (.iadd, 1) := by decide +kernel
theorem dL_law_701 : decode code 701 = .ok (.iaload, 1) := by decide +kernel
theorem dL_law_702 : decode code 702 = .ok (.aload_n 0, 1) := by decide +kernel
theorem dL_law_703 : decode code 703 = .ok (.iload_n 3, 1) := by decide +kernel
theorem dL_law_704 : decode code 704 = .ok (.iconst 2, 1) := by decide +kernel
theorem dL_law_705 : decode code 705 = .ok (.iadd, 1) := by decide +kernel
theorem dL_law_706 : decode code 706 = .ok (.iaload, 1) := by decide +kernel
theorem dL_law_707 : decode code 707 = .ok (.aload_n 0, 1) := by decide +kernel
theorem dL_law_708 : decode code 708 = .ok (.iload_n 3, 1) := by decide +kernel
theorem dL_law_709 : decode code 709 = .ok (.iconst 3, 1) := by decide +kernel
theorem dL_law_710 : decode code 710 = .ok (.iadd, 1) := by decide +kernel
theorem dL_law_711 : decode code 711 = .ok (.iaload, 1) := by decide +kernel
theorem dL_law_712 : decode code 712 = .ok (.invokevirtual 105, 3) := by decide +kernel
theorem dL_law_715 : decode code 715 = .ok (.aload_n 2, 1) := by decide +kernel
theorem dL_law_716 : decode code 716 = .ok (.aload_n 0, 1) := by decide +kernel
theorem dL_law_717 : decode code 717 = .ok (.iload_n 3, 1) := by decide +kernel
theorem dL_law_718 : decode code 718 = .ok (.iconst 1, 1) := by decide +kernel
theorem dL_law_719 : decode code 719 = .ok (.iadd, 1) := by decide +kernel
theorem dL_law_720 : decode code 720 = .ok (.iaload, 1) := by decide +kernel
theorem dL_law_721 : decode code 721 = .ok (.aload_n 0, 1) := by decide +kernel
theorem dL_law_722 : decode code 722 = .ok (.iload_n 3, 1) := by decide +kernel
theorem dL_law_723 : decode code 723 = .ok (.iconst 2, 1) := by decide +kernel
theorem dL_law_724 : decode code 724 = .ok (.iadd, 1) := by decide +kernel
theorem dL_law_725 : decode code 725 = .ok (.iaload, 1) := by decide +kernel
theorem dL_law_726 : decode code 726 = .ok (.aload_n 0, 1) := by decide +kernel
theorem dL_law_727 : decode code 727 = .ok (.iload_n 3, 1) := by decide +kernel
theorem dL_law_728 : decode code 728 = .ok (.iconst 3, 1) := by decide +kernel
theorem dL_law_729 : decode code 729 = .ok (.iadd, 1) := by decide +kernel
theorem dL_law_730 : decode code 730 = .ok (.iaload, 1) := by decide +kernel
theorem dL_law_731 : decode code 731 = .ok (.invokevirtual 108, 3) := by decide +kernel
theorem dL_law_734 : decode code 734 = .ok (.if_icmp .eq 121, 3) := by decide +kernel
theorem dL_law_737 : decode code 737 = .ok (.iconst 0, 1) := by decide +kernel
theorem dL_law_738 : decode code 738 = .ok (.ireturn, 1) := by decide +kernel
theorem dL_law_739 : decode code 739 = .ok (.aload_n 1, 1) := by decide +kernel
theorem dL_law_740 : decode code 740 = .ok (.aload_n 0, 1) := by decide +kernel
theorem dL_law_741 : decode code 741 = .ok (.iload_n 3, 1) := by decide +kernel
theorem dL_law_742 : decode code 742 = .ok (.iconst 1, 1) := by decide +kernel
theorem dL_law_743 : decode code 743 = .ok (.iadd, 1) := by decide +kernel
theorem dL_law_744 : decode code 744 = .ok (.iaload, 1) := by decide +kernel
theorem dL_law_745 : decode code 745 = .ok (.aload_n 0, 1) := by decide +kernel
theorem dL_law_746 : decode code 746 = .ok (.iload_n 3, 1) := by decide +kernel
theorem dL_law_747 : decode code 747 = .ok (.iconst 2, 1) := by decide +kernel
theorem dL_law_748 : decode code 748 = .ok (.iadd, 1) := by decide +kernel
theorem dL_law_749 : decode code 749 = .ok (.iaload, 1) := by decide +kernel
theorem dL_law_750 : decode code 750 = .ok (.invokevirtual 109, 3) := by decide +kernel
theorem dL_law_753 : decode code 753 = .ok (.aload_n 2, 1) := by decide +kernel
theorem dL_law_754 : decode code 754 = .ok (.aload_n 0, 1) := by decide +kernel
theorem dL_law_755 : decode code 755 = .ok (.iload_n 3, 1) := by decide +kernel
theorem dL_law_756 : decode code 756 = .ok (.iconst 1, 1) := by decide +kernel
theorem dL_law_757 : decode code 757 = .ok (.iadd, 1) := by decide +kernel
theorem dL_law_758 : decode code 758 = .ok (.iaload, 1) := by decide +kernel
theorem dL_law_759 : decode code 759 = .ok (.aload_n 0, 1) := by decide +kernel
theorem dL_law_760 : decode code 760 = .ok (.iload_n 3, 1) := by decide +kernel
theorem dL_law_761 : decode code 761 = .ok (.iconst 2, 1) := by decide +kernel
theorem dL_law_762 : decode code 762 = .ok (.iadd, 1) := by decide +kernel
theorem dL_law_763 : decode code 763 = .ok (.iaload, 1) := by decide +kernel
theorem dL_law_764 : decode code 764 = .ok (.invokevirtual 112, 3) := by decide +kernel
theorem dL_law_767 : decode code 767 = .ok (.if_icmp .eq 88, 3) := by decide +kernel
theorem dL_law_770 : decode code 770 = .ok (.iconst 0, 1) := by decide +kernel
theorem dL_law_771 : decode code 771 = .ok (.ireturn, 1) := by decide +kernel
theorem dL_law_772 : decode code 772 = .ok (.aload_n 1, 1) := by decide +kernel
theorem dL_law_773 : decode code 773 = .ok (.aload_n 0, 1) := by decide +kernel
theorem dL_law_774 : decode code 774 = .ok (.iload_n 3, 1) := by decide +kernel
theorem dL_law_775 : decode code 775 = .ok (.iconst 1, 1) := by decide +kernel
theorem dL_law_776 : decode code 776 = .ok (.iadd, 1) := by decide +kernel
theorem dL_law_777 : decode code 777 = .ok (.iaload, 1) := by decide +kernel
theorem dL_law_778 : decode code 778 = .ok (.invokevirtual 113, 3) := by decide +kernel
theorem dL_law_781 : decode code 781 = .ok (.aload_n 2, 1) := by decide +kernel
theorem dL_law_782 : decode code 782 = .ok (.aload_n 0, 1) := by decide +kernel
theorem dL_law_783 : decode code 783 = .ok (.iload_n 3, 1) := by decide +kernel
theorem dL_law_784 : decode code 784 = .ok (.iconst 1, 1) := by decide +kernel
theorem dL_law_785 : decode code 785 = .ok (.iadd, 1) := by decide +kernel
theorem dL_law_786 : decode code 786 = .ok (.iaload, 1) := by decide +kernel
theorem dL_law_787 : decode code 787 = .ok (.invokevirtual 116, 3) := by decide +kernel
theorem dL_law_790 : decode code 790 = .ok (.if_icmp .eq 65, 3) := by decide +kernel
theorem dL_law_793 : decode code 793 = .ok (.iconst 0, 1) := by decide +kernel
theorem dL_law_794 : decode code 794 = .ok (.ireturn, 1) := by decide +kernel
theorem dL_law_795 : decode code 795 = .ok (.aload_n 1, 1) := by decide +kernel
theorem dL_law_796 : decode code 796 = .ok (.aload_n 0, 1) := by decide +kernel
theorem dL_law_797 : decode code 797 = .ok (.iload_n 3, 1) := by decide +kernel
theorem dL_law_798 : decode code 798 = .ok (.iconst 1, 1) := by decide +kernel
theorem dL_law_799 : decode code 799 = .ok (.iadd, 1) := by decide +kernel
theorem dL_law_800 : decode code 800 = .ok (.iaload, 1) := by decide +kernel
theorem dL_law_801 : decode code 801 = .ok (.invokevirtual 117, 3) := by decide +kernel
theorem dL_law_804 : decode code 804 = .ok (.aload_n 2, 1) := by decide +kernel
theorem dL_law_805 : decode code 805 = .ok (.aload_n 0, 1) := by decide +kernel
theorem dL_law_806 : decode code 806 = .ok (.iload_n 3, 1) := by decide +kernel
theorem dL_law_807 : decode code 807 = .ok (.iconst 1, 1) := by decide +kernel
theorem dL_law_808 : decode code 808 = .ok (.iadd, 1) := by decide +kernel
theorem dL_law_809 : decode code 809 = .ok (.iaload, 1) := by decide +kernel
theorem dL_law_810 : decode code 810 = .ok (.invokevirtual 120, 3) := by decide +kernel
theorem dL_law_813 : decode code 813 = .ok (.if_icmp .eq 42, 3) := by decide +kernel
theorem dL_law_816 : decode code 816 = .ok (.iconst 0, 1) := by decide +kernel
theorem dL_law_817 : decode code 817 = .ok (.ireturn, 1) := by decide +kernel
theorem dL_law_818 : decode code 818 = .ok (.aload_n 1, 1) := by decide +kernel
theorem dL_law_819 : decode code 819 = .ok (.aload_n 0, 1) := by decide +kernel
theorem dL_law_820 : decode code 820 = .ok (.iload_n 3, 1) := by decide +kernel
theorem dL_law_821 : decode code 821 = .ok (.iconst 1, 1) := by decide +kernel
theorem dL_law_822 : decode code 822 = .ok (.iadd, 1) := by decide +kernel
theorem dL_law_823 : decode code 823 = .ok (.iaload, 1) := by decide +kernel
theorem dL_law_824 : decode code 824 = .ok (.invokevirtual 121, 3) := by decide +kernel
theorem dL_law_827 : decode code 827 = .ok (.aload_n 2, 1) := by decide +kernel
theorem dL_law_828 : decode code 828 = .ok (.aload_n 0, 1) := by decide +kernel
theorem dL_law_829 : decode code 829 = .ok (.iload_n 3, 1) := by decide +kernel
theorem dL_law_830 : decode code 830 = .ok (.iconst 1, 1) := by decide +kernel
theorem dL_law_831 : decode code 831 = .ok (.iadd, 1) := by decide +kernel
theorem dL_law_832 : decode code 832 = .ok (.iaload, 1) := by decide +kernel
theorem dL_law_833 : decode code 833 = .ok (.invokevirtual 124, 3) := by decide +kernel
theorem dL_law_836 : decode code 836 = .ok (.if_icmp .eq 19, 3) := by decide +kernel
theorem dL_law_839 : decode code 839 = .ok (.iconst 0, 1) := by decide +kernel
theorem dL_law_840 : decode code 840 = .ok (.ireturn, 1) := by decide +kernel
theorem dL_law_841 : decode code 841 = .ok (.aload_n 1, 1) := by decide +kernel
theorem dL_law_842 : decode code 842 = .ok (.invokevirtual 125, 3) := by decide +kernel
theorem dL_law_845 : decode code 845 = .ok (.aload_n 2, 1) := by decide +kernel
theorem dL_law_846 : decode code 846 = .ok (.invokevirtual 129, 3) := by decide +kernel
theorem dL_law_849 : decode code 849 = .ok (.lcmp, 1) := by decide +kernel
theorem dL_law_850 : decode code 850 = .ok (.ifCond .eq 5, 3) := by decide +kernel
theorem dL_law_853 : decode code 853 = .ok (.iconst 0, 1) := by decide +kernel
theorem dL_law_854 : decode code 854 = .ok (.ireturn, 1) := by decide +kernel
theorem dL_law_855 : decode code 855 = .ok (.iinc 3 4, 3) := by decide +kernel
theorem dL_law_858 : decode code 858 = .ok (.goto (-840), 3) := by decide +kernel
theorem dL_law_861 : decode code 861 = .ok (.iconst 1, 1) := by decide +kernel
theorem dL_law_862 : decode code 862 = .ok (.ireturn, 1) := by decide +kernel
end
section
/-! the world of this claim: the survey at 0 .. 87, the reference at 88 .. 105 -/
abbrev Sg : Type := (Nat → Int → Int) × (Nat → Int64) × (Nat × Nat)
def kdL : List Nat := [7, 6, 3, 9, 2, 3, 9, 3, 9, 3, 9, 3, 9, 3, 9, 3, 9, 2, 3, 9, 3, 9, 3, 9, 3, 9, 3, 9, 3, 9, 4, 3, 9, 3, 9, 3, 9, 3, 9, 3, 9, 4, 3, 9, 3, 9, 3, 9, 3, 9, 3, 9, 4, 3, 9, 3, 9, 3, 9, 3, 9, 3, 9, 3, 9, 0, 3, 9, 3, 9, 3, 9, 5, 3, 9, 3, 9, 3, 9, 1, 3, 9, 3, 9, 3, 9, 3, 9, 8, 9, 9, 9, 9, 9, 9, 9, 9, 10, 9, 9, 9, 9, 9, 9, 9, 9]
def lnL : List Nat := [0, 0, 0, 120, 0, 0, 5, 0, 5, 0, 5, 0, 5, 0, 100, 0, 4, 0, 0, 5, 0, 5, 0, 5, 0, 5, 0, 100, 0, 4, 0, 0, 4, 0, 4, 0, 100, 0, 100, 0, 6, 0, 0, 4, 0, 4, 0, 100, 0, 100, 0, 6, 0, 0, 4, 0, 4, 0, 100, 0, 100, 0, 6, 0, 2, 0, 0, 10, 0, 10, 0, 10, 0, 0, 6, 0, 6, 0, 41, 0, 0, 6, 0, 6, 0, 6, 0, 6, 0, 120, 8, 10, 10, 10, 8, 212, 424, 2, 2120, 6, 6, 6, 6, 6, 6, 6]
def kd (k : Nat) : Nat := kdL.getD k 11
def ln (k : Nat) : Nat := lnL.getD k 0
def fl (W : Int → Int) (t : Int64) (P : Nat × Nat) (k c : Nat) : List Value := match c with
  | 0 => [.ref (k + 1), .ref (k + 3), .ref (k + 5)]
  | 1 => [.ref (k + 1), .ref (k + 3), .ref (k + 5), .ref (k + 7)]
  | 2 => [.ref (k + 1), .ref (k + 3), .ref (k + 5), .ref (k + 7), .ref (k + 9), .ref (k + 11), .int (iI (W 6)), .int (iI (W 7))]
  | 3 => [.ref (k + 1), .int (iI (W 1))]
  | 4 => [.ref (k + 1), .ref (k + 3), .ref (k + 5), .ref (k + 7), .ref (k + 9)]
  | 5 => [.ref (k + 1), .ref (k + 3), .ref (k + 5)]
  | 6 => [.ref (k + 1), .int (iI (W 1)), .int (iI (W 2)), .int (iI (W 3)), .int (iI (W 4)), .int (iI (W 5)), .int (iI (W 6))]
  | 7 => [.ref 1, .ref P.1, .ref P.2, .ref 30, .ref 41, .ref 52, .ref 63, .ref 65, .ref 72, .ref 79, .long t]
  | 8 => [.int (iI (W 0)), .long t, .ref 89, .int (iI (W 3)), .int (iI (W 4)), .int (iI (W 5)), .int (iI (W 6)), .int (iI (W 7)), .int (iI (W 8)), .ref 90, .int (iI (W 10)), .ref 91, .ref 92, .ref 93, .ref 94, .ref 95, .ref 96, .ref 97, .ref 98, .int (iI (W 19)), .ref 99, .ref 100, .int (iI (W 22)), .ref 101, .ref 102, .ref 103, .int (iI (W 26)), .ref 104, .ref 105]
  | _ => []
def af (n : Nat) (W : Int → Int) : Nat → Int32 := fun q => if q < n then iI (W (q : Int)) else 0
theorem af_at {n : Nat} (W : Int → Int) {i : Int} (h : 0 ≤ i ∧ i < (n : Int)) : af n W i.toNat = iI (W i) := by
  unfold af
  rw [if_pos (by omega), Int.toNat_of_nonneg h.1]
def mkc (W : Int → Int) (t : Int64) (P : Nat × Nat) (k c : Nat) : Option Ce := if c ≤ 8 then some (ob c (fl W t P k c)) else if c = 9 then some (ar (ln k) (af (ln k) W)) else if c = 10 then some (zr (ln k) (af (ln k) W)) else none
def mk (S : Sg) : Mem := (106, fun k => mkc (S.1 k) (S.2.1 k) S.2.2 k (kd k))
def uF (f : Int → Int) (i x : Int) : Int → Int := fun j => if j = i then x else f j
def uA (V : Nat → Int → Int) (k : Nat) (f : Int → Int) : Nat → Int → Int := fun a => if a = k then f else V a
/-- a number put: the i-th of what k holds becomes x -/
def pt (S : Sg) (k : Nat) (i x : Int) : Sg := (uA S.1 k (uF (S.1 k) i x), S.2)
def ptT (S : Sg) (k : Nat) (x : Int64) : Sg := (S.1, (fun j => if j = k then x else S.2.1 j), S.2.2)
def ptP (S : Sg) (P : Nat × Nat) : Sg := (S.1, S.2.1, P)
theorem uA_eq (V : Nat → Int → Int) (k : Nat) (f : Int → Int) : uA V k f k = f := if_pos rfl
theorem uA_ne (V : Nat → Int → Int) {k a : Nat} (f : Int → Int) (h : a ≠ k) : uA V k f a = V a := if_neg h
theorem uF_eq (f : Int → Int) (i x : Int) : uF f i x i = x := if_pos rfl
theorem uF_ne (f : Int → Int) {i j : Int} (x : Int) (h : j ≠ i) : uF f i x j = f j := if_neg h
def isI (c : Nat) (i : Int) : Bool := (c == 2 && (i == 6 || i == 7)) || (c == 3 && i == 1) || (c == 6 && (i == 1 || i == 2 || i == 3 || i == 4 || i == 5 || i == 6)) || (c == 8 && (i == 0 || i == 3 || i == 4 || i == 5 || i == 6 || i == 7 || i == 8 || i == 10 || i == 19 || i == 22 || i == 26))
theorem fl_set (W : Int → Int) (t : Int64) (P : Nat × Nat) (k c i : Nat) (x : Int) (h : isI c (i : Int) = true) : (fl W t P k c).set i (.int (iI x)) = fl (uF W (i : Int) x) t P k c ∧ i < (fl W t P k c).length := by
  have h2 : (c = 2 ∧ (i = 6 ∨ i = 7)) ∨ (c = 3 ∧ i = 1) ∨ (c = 6 ∧ (i = 1 ∨ i = 2 ∨ i = 3 ∨ i = 4 ∨ i = 5 ∨ i = 6)) ∨ (c = 8 ∧ (i = 0 ∨ i = 3 ∨ i = 4 ∨ i = 5 ∨ i = 6 ∨ i = 7 ∨ i = 8 ∨ i = 10 ∨ i = 19 ∨ i = 22 ∨ i = 26)) := by
    simp only [isI, Bool.or_eq_true, Bool.and_eq_true, beq_iff_eq] at h
    omega
  rcases h2 with ⟨rfl, rfl | rfl⟩ | ⟨rfl, rfl⟩ | ⟨rfl, rfl | rfl | rfl | rfl | rfl | rfl⟩ | ⟨rfl, rfl | rfl | rfl | rfl | rfl | rfl | rfl | rfl | rfl | rfl | rfl⟩ <;> simp [fl, uF]
theorem gt_ob (S : Sg) {k c : Nat} (hk : kd k = c) (h8 : c ≤ 8) : gt (mk S) k = some (ob c (fl (S.1 k) (S.2.1 k) S.2.2 k c)) := by
  subst hk
  simp only [gt, mk, mkc]
  rw [if_pos h8]
theorem gt_ar (S : Sg) {k : Nat} (hk : kd k = 9) : gt (mk S) k = some (ar (ln k) (af (ln k) (S.1 k))) := by
  simp only [gt, mk, mkc, hk]
  rfl
theorem gt_zr (S : Sg) {k : Nat} (hk : kd k = 10) : gt (mk S) k = some (zr (ln k) (af (ln k) (S.1 k))) := by
  simp only [gt, mk, mkc, hk]
  rfl
theorem up_mk {S S' : Sg} {k : Nat} {c : Ce} (h1 : mkc (S'.1 k) (S'.2.1 k) S'.2.2 k (kd k) = some c) (h2 : ∀ j, j ≠ k → mkc (S'.1 j) (S'.2.1 j) S'.2.2 j (kd j) = mkc (S.1 j) (S.2.1 j) S.2.2 j (kd j)) : up (mk S) k c = mk S' := by
  unfold up mk
  congr 1
  funext j
  by_cases hj : j = k
  · subst hj; rw [if_pos rfl]; exact h1.symm
  · rw [if_neg hj]; exact (h2 j hj).symm
theorem up_pt (S : Sg) {k c i : Nat} {x : Int} (hk : kd k = c) (h8 : c ≤ 8) : up (mk S) k (ob c (fl (uF (S.1 k) (i : Int) x) (S.2.1 k) S.2.2 k c)) = mk (pt S k (i : Int) x) := by
  subst hk
  refine up_mk ?_ (fun j hj => ?_)
  · simp only [pt, uA_eq, mkc]; rw [if_pos h8]
  · simp only [pt, uA_ne _ _ hj]
theorem af_up (W : Int → Int) {n : Nat} {i x : Int} (h : 0 ≤ i ∧ i < (n : Int)) : upd (af n W) i.toNat (iI x) = af n (uF W i x) := by
  funext q
  simp only [upd, af, uF]
  by_cases hq : q = i.toNat
  · rw [if_pos hq, if_pos (by omega), if_pos (by omega)]
  · rw [if_neg hq, if_neg (show ¬ (q : Int) = i by omega)]
theorem up_ar (S : Sg) {k : Nat} {i x : Int} (hk : kd k = 9) (h : 0 ≤ i ∧ i < (ln k : Int)) : up (mk S) k (ar (ln k) (upd (af (ln k) (S.1 k)) i.toNat (iI x))) = mk (pt S k i x) := by
  refine up_mk ?_ (fun j hj => ?_)
  · simp only [pt, uA_eq, mkc, hk, af_up _ h]; rfl
  · simp only [pt, uA_ne _ _ hj]
theorem up_zr (S : Sg) {k : Nat} {i x : Int} (hk : kd k = 10) (h : 0 ≤ i ∧ i < (ln k : Int)) : up (mk S) k (zr (ln k) (upd (af (ln k) (S.1 k)) i.toNat (iI x))) = mk (pt S k i x) := by
  refine up_mk ?_ (fun j hj => ?_)
  · simp only [pt, uA_eq, mkc, hk, af_up _ h]; rfl
  · simp only [pt, uA_ne _ _ hj]
theorem kd7 : ∀ j, kd j = 7 → j = 0 := by
  intro j h
  by_cases hj : j < 106
  · have : ∀ j, j < 106 → kd j = 7 → j = 0 := by decide +kernel
    exact this j hj h
  · have : kd j = 11 := by
      unfold kd
      have h2 : kdL.length = 106 := by decide +kernel
      rw [List.getD_eq_getElem?_getD, List.getElem?_eq_none (by omega)]
      rfl
    omega
section GI
variable {F : FT} {cc : ByteArray} {nL : Nat} {own : String} {ret : Option FieldType} {M : Mem} {S : Sg} {cs sl pc pc' : Nat} {L st : List Value}
theorem gi_iconst (h : Fok F cc nL own ret) {n : Int} (hd : Dc cc pc (.iconst n) 1 pc') (k : Go F nL M cs sl pc' L (.int (iI n) :: st)) : Go F nL M cs sl pc L st := go_iconst h hd rfl k
theorem gi_bipush (h : Fok F cc nL own ret) {n : Int} (hd : Dc cc pc (.bipush n) 2 pc') (hv : (Int8.ofInt n).toInt32 = iI n) (k : Go F nL M cs sl pc' L (.int (iI n) :: st)) : Go F nL M cs sl pc L st := go_bipush h hd hv k
theorem gi_sipush (h : Fok F cc nL own ret) {n : Int} (hd : Dc cc pc (.sipush n) 3 pc') (hv : (Int16.ofInt n).toInt32 = iI n) (k : Go F nL M cs sl pc' L (.int (iI n) :: st)) : Go F nL M cs sl pc L st := go_sipush h hd hv k
theorem gi_ldc (h : Fok F cc nL own ret) {i : Nat} (n : Int) (hd : Dc cc pc (.ldc i) 2 pc') (hc : Cond.constant own i (iI n) ∈ lw_ws) (k : Go F nL M cs sl pc' L (.int (iI n) :: st)) : Go F nL M cs sl pc L st := go_ldc h hd hc k
theorem gi_iinc (h : Fok F cc nL own ret) {i : Nat} {n a : Int} {L' : List Value} (hd : Dc cc pc (.iinc i n) 3 pc') (hi : L[i]? = some (.int (iI a))) (hn : i < nL) (hc : c1 L = true) (hL : setL i (.int (iI (a + n))) L = L') (k : Go F nL M cs sl pc' L' st) : Go F nL M cs sl pc L st := go_iinc h hd hi (iI_add a n) hn hc hL k
theorem gi_iadd (h : Fok F cc nL own ret) {a b : Int} (hd : Dc cc pc .iadd 1 pc') (k : Go F nL M cs sl pc' L (.int (iI (a + b)) :: st)) : Go F nL M cs sl pc L (.int (iI b) :: .int (iI a) :: st) := go_iadd h hd (by rw [iI_add]; exact k)
theorem gi_isub (h : Fok F cc nL own ret) {a b : Int} (hd : Dc cc pc .isub 1 pc') (k : Go F nL M cs sl pc' L (.int (iI (a - b)) :: st)) : Go F nL M cs sl pc L (.int (iI b) :: .int (iI a) :: st) := go_isub h hd (by rw [iI_sub]; exact k)
theorem gi_imul (h : Fok F cc nL own ret) {a b : Int} (hd : Dc cc pc .imul 1 pc') (k : Go F nL M cs sl pc' L (.int (iI (a * b)) :: st)) : Go F nL M cs sl pc L (.int (iI b) :: .int (iI a) :: st) := go_imul h hd (by rw [iI_mul]; exact k)
theorem gi_ineg (h : Fok F cc nL own ret) {a : Int} (hd : Dc cc pc .ineg 1 pc') (k : Go F nL M cs sl pc' L (.int (iI (-a)) :: st)) : Go F nL M cs sl pc L (.int (iI a) :: st) := go_ineg h hd (by rw [iI_neg]; exact k)
theorem gi_idiv (h : Fok F cc nL own ret) {a b : Int} (hd : Dc cc pc .idiv 1 pc') (hq : 0 ≤ a ∧ a ≤ 2147483647 ∧ 0 < b ∧ b ≤ 2147483647) (k : Go F nL M cs sl pc' L (.int (iI (a / b)) :: st)) : Go F nL M cs sl pc L (.int (iI b) :: .int (iI a) :: st) := go_idiv h hd (iI_ne0 hq.2.2) (by rw [iI_div hq]; exact k)
theorem gi_irem (h : Fok F cc nL own ret) {a b : Int} (hd : Dc cc pc .irem 1 pc') (hq : 0 ≤ a ∧ a ≤ 2147483647 ∧ 0 < b ∧ b ≤ 2147483647) (k : Go F nL M cs sl pc' L (.int (iI (a % b)) :: st)) : Go F nL M cs sl pc L (.int (iI b) :: .int (iI a) :: st) := go_irem h hd (iI_ne0 hq.2.2) (by rw [iI_div hq, iI_mul, iI_sub, Int.mul_comm, show a - b * (a / b) = a % b from by have := Int.mul_ediv_add_emod a b; omega]; exact k)
theorem gi_iand (h : Fok F cc nL own ret) {a b : Int} (c : Int) (hd : Dc cc pc .iand 1 pc') (hv : iI a &&& iI b = iI c) (k : Go F nL M cs sl pc' L (.int (iI c) :: st)) : Go F nL M cs sl pc L (.int (iI b) :: .int (iI a) :: st) := go_iand h hd (by rw [hv]; exact k)
theorem gi_ior (h : Fok F cc nL own ret) {a b : Int} (c : Int) (hd : Dc cc pc .ior 1 pc') (hv : iI a ||| iI b = iI c) (k : Go F nL M cs sl pc' L (.int (iI c) :: st)) : Go F nL M cs sl pc L (.int (iI b) :: .int (iI a) :: st) := go_ior h hd (by rw [hv]; exact k)
theorem gi_ishl (h : Fok F cc nL own ret) {a b : Int} (c : Int) (hd : Dc cc pc .ishl 1 pc') (hv : iI a <<< (iI b &&& 31) = iI c) (k : Go F nL M cs sl pc' L (.int (iI c) :: st)) : Go F nL M cs sl pc L (.int (iI b) :: .int (iI a) :: st) := go_ishl h hd (by rw [hv]; exact k)
theorem gi_ishr (h : Fok F cc nL own ret) {a b : Int} (c : Int) (hd : Dc cc pc .ishr 1 pc') (hv : iI a >>> (iI b &&& 31) = iI c) (k : Go F nL M cs sl pc' L (.int (iI c) :: st)) : Go F nL M cs sl pc L (.int (iI b) :: .int (iI a) :: st) := go_ishr h hd (by rw [hv]; exact k)
theorem gi_icmp_eq (h : Fok F cc nL own ret) {a b : Int} {off : Int} {tgt : Nat} (hd : decode cc pc = .ok (.if_icmp .eq off, 3)) (ht : (pc : Int) + off = (tgt : Int)) (hp : pc + 3 = pc') (hq : -2147483648 ≤ a ∧ a ≤ 2147483647 ∧ -2147483648 ≤ b ∧ b ≤ 2147483647) (kt : a = b → Go F nL M cs sl tgt L st) (kf : ¬ a = b → Go F nL M cs sl pc' L st) : Go F nL M cs sl pc L (.int (iI b) :: .int (iI a) :: st) := go_icmp_eq h hd ht hp (fun q => kt ((iI_eq hq).mp q)) (fun q => kf (fun z => q ((iI_eq hq).mpr z)))
theorem gi_icmp_ne (h : Fok F cc nL own ret) {a b : Int} {off : Int} {tgt : Nat} (hd : decode cc pc = .ok (.if_icmp .ne off, 3)) (ht : (pc : Int) + off = (tgt : Int)) (hp : pc + 3 = pc') (hq : -2147483648 ≤ a ∧ a ≤ 2147483647 ∧ -2147483648 ≤ b ∧ b ≤ 2147483647) (kt : ¬ a = b → Go F nL M cs sl tgt L st) (kf : a = b → Go F nL M cs sl pc' L st) : Go F nL M cs sl pc L (.int (iI b) :: .int (iI a) :: st) := go_icmp_ne h hd ht hp (fun q => kt (fun z => q ((iI_eq hq).mpr z))) (fun q => kf ((iI_eq hq).mp q))
theorem gi_icmp_lt (h : Fok F cc nL own ret) {a b : Int} {off : Int} {tgt : Nat} (hd : decode cc pc = .ok (.if_icmp .lt off, 3)) (ht : (pc : Int) + off = (tgt : Int)) (hp : pc + 3 = pc') (hq : -2147483648 ≤ a ∧ a ≤ 2147483647 ∧ -2147483648 ≤ b ∧ b ≤ 2147483647) (kt : a < b → Go F nL M cs sl tgt L st) (kf : b ≤ a → Go F nL M cs sl pc' L st) : Go F nL M cs sl pc L (.int (iI b) :: .int (iI a) :: st) := go_icmp_lt h hd ht hp (fun q => kt ((iI_lt hq).mp q)) (fun q => kf (by have := mt (iI_lt hq).mpr q; omega))
theorem gi_icmp_ge (h : Fok F cc nL own ret) {a b : Int} {off : Int} {tgt : Nat} (hd : decode cc pc = .ok (.if_icmp .ge off, 3)) (ht : (pc : Int) + off = (tgt : Int)) (hp : pc + 3 = pc') (hq : -2147483648 ≤ a ∧ a ≤ 2147483647 ∧ -2147483648 ≤ b ∧ b ≤ 2147483647) (kt : b ≤ a → Go F nL M cs sl tgt L st) (kf : a < b → Go F nL M cs sl pc' L st) : Go F nL M cs sl pc L (.int (iI b) :: .int (iI a) :: st) := go_icmp_ge h hd ht hp (fun q => kt ((iI_le (by omega)).mp q)) (fun q => kf (by have := mt (iI_le (a := b) (b := a) (by omega)).mpr q; omega))
theorem gi_icmp_gt (h : Fok F cc nL own ret) {a b : Int} {off : Int} {tgt : Nat} (hd : decode cc pc = .ok (.if_icmp .gt off, 3)) (ht : (pc : Int) + off = (tgt : Int)) (hp : pc + 3 = pc') (hq : -2147483648 ≤ a ∧ a ≤ 2147483647 ∧ -2147483648 ≤ b ∧ b ≤ 2147483647) (kt : b < a → Go F nL M cs sl tgt L st) (kf : a ≤ b → Go F nL M cs sl pc' L st) : Go F nL M cs sl pc L (.int (iI b) :: .int (iI a) :: st) := go_icmp_gt h hd ht hp (fun q => kt ((iI_lt (by omega)).mp q)) (fun q => kf (by have := mt (iI_lt (a := b) (b := a) (by omega)).mpr q; omega))
theorem gi_icmp_le (h : Fok F cc nL own ret) {a b : Int} {off : Int} {tgt : Nat} (hd : decode cc pc = .ok (.if_icmp .le off, 3)) (ht : (pc : Int) + off = (tgt : Int)) (hp : pc + 3 = pc') (hq : -2147483648 ≤ a ∧ a ≤ 2147483647 ∧ -2147483648 ≤ b ∧ b ≤ 2147483647) (kt : a ≤ b → Go F nL M cs sl tgt L st) (kf : b < a → Go F nL M cs sl pc' L st) : Go F nL M cs sl pc L (.int (iI b) :: .int (iI a) :: st) := go_icmp_le h hd ht hp (fun q => kt ((iI_le hq).mp q)) (fun q => kf (by have := mt (iI_le hq).mpr q; omega))
theorem gi_if_eq (h : Fok F cc nL own ret) {a : Int} {off : Int} {tgt : Nat} (hd : decode cc pc = .ok (.ifCond .eq off, 3)) (ht : (pc : Int) + off = (tgt : Int)) (hp : pc + 3 = pc') (hq : -2147483648 ≤ a ∧ a ≤ 2147483647) (kt : a = 0 → Go F nL M cs sl tgt L st) (kf : ¬ a = 0 → Go F nL M cs sl pc' L st) : Go F nL M cs sl pc L (.int (iI a) :: st) := go_if_eq h hd ht hp (fun q => kt ((iI_eq (b := 0) (by omega)).mp q)) (fun q => kf (fun z => q ((iI_eq (b := 0) (by omega)).mpr z)))
theorem gi_if_ne (h : Fok F cc nL own ret) {a : Int} {off : Int} {tgt : Nat} (hd : decode cc pc = .ok (.ifCond .ne off, 3)) (ht : (pc : Int) + off = (tgt : Int)) (hp : pc + 3 = pc') (hq : -2147483648 ≤ a ∧ a ≤ 2147483647) (kt : ¬ a = 0 → Go F nL M cs sl tgt L st) (kf : a = 0 → Go F nL M cs sl pc' L st) : Go F nL M cs sl pc L (.int (iI a) :: st) := go_if_ne h hd ht hp (fun q => kt (fun z => q ((iI_eq (b := 0) (by omega)).mpr z))) (fun q => kf ((iI_eq (b := 0) (by omega)).mp q))
theorem gi_if_lt (h : Fok F cc nL own ret) {a : Int} {off : Int} {tgt : Nat} (hd : decode cc pc = .ok (.ifCond .lt off, 3)) (ht : (pc : Int) + off = (tgt : Int)) (hp : pc + 3 = pc') (hq : -2147483648 ≤ a ∧ a ≤ 2147483647) (kt : a < 0 → Go F nL M cs sl tgt L st) (kf : 0 ≤ a → Go F nL M cs sl pc' L st) : Go F nL M cs sl pc L (.int (iI a) :: st) := go_if_lt h hd ht hp (fun q => kt ((iI_lt (b := 0) (by omega)).mp q)) (fun q => kf (by have := mt (iI_lt (a := a) (b := 0) (by omega)).mpr q; omega))
theorem gi_if_ge (h : Fok F cc nL own ret) {a : Int} {off : Int} {tgt : Nat} (hd : decode cc pc = .ok (.ifCond .ge off, 3)) (ht : (pc : Int) + off = (tgt : Int)) (hp : pc + 3 = pc') (hq : -2147483648 ≤ a ∧ a ≤ 2147483647) (kt : 0 ≤ a → Go F nL M cs sl tgt L st) (kf : a < 0 → Go F nL M cs sl pc' L st) : Go F nL M cs sl pc L (.int (iI a) :: st) := go_if_ge h hd ht hp (fun q => kt ((iI_le (a := 0) (by omega)).mp q)) (fun q => kf (by have := mt (iI_le (a := 0) (b := a) (by omega)).mpr q; omega))
theorem gi_if_gt (h : Fok F cc nL own ret) {a : Int} {off : Int} {tgt : Nat} (hd : decode cc pc = .ok (.ifCond .gt off, 3)) (ht : (pc : Int) + off = (tgt : Int)) (hp : pc + 3 = pc') (hq : -2147483648 ≤ a ∧ a ≤ 2147483647) (kt : 0 < a → Go F nL M cs sl tgt L st) (kf : a ≤ 0 → Go F nL M cs sl pc' L st) : Go F nL M cs sl pc L (.int (iI a) :: st) := go_if_gt h hd ht hp (fun q => kt ((iI_lt (a := 0) (by omega)).mp q)) (fun q => kf (by have := mt (iI_lt (a := 0) (b := a) (by omega)).mpr q; omega))
theorem gi_if_le (h : Fok F cc nL own ret) {a : Int} {off : Int} {tgt : Nat} (hd : decode cc pc = .ok (.ifCond .le off, 3)) (ht : (pc : Int) + off = (tgt : Int)) (hp : pc + 3 = pc') (hq : -2147483648 ≤ a ∧ a ≤ 2147483647) (kt : a ≤ 0 → Go F nL M cs sl tgt L st) (kf : 0 < a → Go F nL M cs sl pc' L st) : Go F nL M cs sl pc L (.int (iI a) :: st) := go_if_le h hd ht hp (fun q => kt ((iI_le (b := 0) (by omega)).mp q)) (fun q => kf (by have := mt (iI_le (a := a) (b := 0) (by omega)).mpr q; omega))
theorem gs_get (h : Fok F cc nL own ret) {idx ci k a : Nat} {v : Value} (hd : Dc cc pc (.getfield idx) 3 pc') (lk : FL own idx ci k) (hk : kd a = ci) (h8 : ci ≤ 8) (hv : (fl (S.1 a) (S.2.1 a) S.2.2 a ci)[k]? = some v) (kk : Go F nL (mk S) cs sl pc' L (v :: st)) : Go F nL (mk S) cs sl pc L (.ref a :: st) := go_get h hd lk (gt_ob S hk h8) hv kk
theorem gs_putI (h : Fok F cc nL own ret) {idx ci k a : Nat} {x : Int} (hd : Dc cc pc (.putfield idx) 3 pc') (lk : FP own idx ci k false .int) (hk : kd a = ci) (h8 : ci ≤ 8) (hi : isI ci (k : Int) = true) (kk : Go F nL (mk (pt S a (k : Int) x)) cs sl pc' L st) : Go F nL (mk S) cs sl pc L (.int (iI x) :: .ref a :: st) := by
  have h1 := fl_set (S.1 a) (S.2.1 a) S.2.2 a ci k x hi
  refine go_put h hd lk (gt_ob S hk h8) (fun b => vp_nar_int _) (fun b => rfl) h1.2 h1.1 ?_
  rw [up_pt S hk h8]
  exact kk
theorem gs_putZ (h : Fok F cc nL own ret) {idx ci k a : Nat} {x : Int} (hd : Dc cc pc (.putfield idx) 3 pc') (lk : FP own idx ci k false .boolean) (hk : kd a = ci) (h8 : ci ≤ 8) (hi : isI ci (k : Int) = true) (hx : x = 0 ∨ x = 1) (kk : Go F nL (mk (pt S a (k : Int) x)) cs sl pc' L st) : Go F nL (mk S) cs sl pc L (.int (iI x) :: .ref a :: st) := by
  have h1 := fl_set (S.1 a) (S.2.1 a) S.2.2 a ci k x hi
  refine go_put h hd lk (gt_ob S hk h8) (fun b => by rcases hx with rfl | rfl <;> rfl) (fun b => by rcases hx with rfl | rfl <;> rfl) h1.2 h1.1 ?_
  rw [up_pt S hk h8]
  exact kk
theorem gs_alen (h : Fok F cc nL own ret) {a : Nat} (hd : Dc cc pc .arraylength 1 pc') (hk : kd a = 9) (kk : Go F nL (mk S) cs sl pc' L (.int (iI (ln a : Int)) :: st)) : Go F nL (mk S) cs sl pc L (.ref a :: st) := go_alen h hd (gt_ar S hk) (iI_nat _) kk
theorem gs_iald (h : Fok F cc nL own ret) {a : Nat} {i : Int} (hd : Dc cc pc .iaload 1 pc') (hk : kd a = 9) (hi : 0 ≤ i ∧ i < (ln a : Int) ∧ (ln a : Int) ≤ 2147483647) (kk : Go F nL (mk S) cs sl pc' L (.int (iI (S.1 a i)) :: st)) : Go F nL (mk S) cs sl pc L (.int (iI i) :: .ref a :: st) := go_iald h hd (gt_ar S hk) (iI_in hi) (by rw [iI_cl hi.1 (by omega)]; exact af_at _ ⟨hi.1, hi.2.1⟩) kk
theorem gs_zald (h : Fok F cc nL own ret) {a : Nat} {i : Int} (hd : Dc cc pc .baload 1 pc') (hk : kd a = 10) (hi : 0 ≤ i ∧ i < (ln a : Int) ∧ (ln a : Int) ≤ 2147483647) (kk : Go F nL (mk S) cs sl pc' L (.int (iI (S.1 a i)) :: st)) : Go F nL (mk S) cs sl pc L (.int (iI i) :: .ref a :: st) := go_zald h hd (gt_zr S hk) (iI_in hi) (by rw [iI_cl hi.1 (by omega)]; exact af_at _ ⟨hi.1, hi.2.1⟩) kk
theorem gs_iast (h : Fok F cc nL own ret) {a : Nat} {i x : Int} (hd : Dc cc pc .iastore 1 pc') (hk : kd a = 9) (hi : 0 ≤ i ∧ i < (ln a : Int) ∧ (ln a : Int) ≤ 2147483647) (kk : Go F nL (mk (pt S a i x)) cs sl pc' L st) : Go F nL (mk S) cs sl pc L (.int (iI x) :: .int (iI i) :: .ref a :: st) := go_iast h hd (gt_ar S hk) (iI_in hi) (by rw [iI_cl hi.1 (by omega), up_ar S hk ⟨hi.1, hi.2.1⟩]; exact kk)
theorem gs_zast (h : Fok F cc nL own ret) {a : Nat} {i x : Int} (hd : Dc cc pc .bastore 1 pc') (hk : kd a = 10) (hi : 0 ≤ i ∧ i < (ln a : Int) ∧ (ln a : Int) ≤ 2147483647) (hx : x = 0 ∨ x = 1) (kk : Go F nL (mk (pt S a i x)) cs sl pc' L st) : Go F nL (mk S) cs sl pc L (.int (iI x) :: .int (iI i) :: .ref a :: st) := go_zast h hd (gt_zr S hk) (iI_in hi) (by rcases hx with rfl | rfl <;> rfl) (by rw [iI_cl hi.1 (by omega), up_zr S hk ⟨hi.1, hi.2.1⟩]; exact kk)
theorem gs_putL7 (h : Fok F cc nL own ret) {idx : Nat} {x : Int64} (hd : Dc cc pc (.putfield idx) 3 pc') (lk : FP own idx 7 10 false .long) (kk : Go F nL (mk (ptT S 0 x)) cs sl pc' L st) : Go F nL (mk S) cs sl pc L (.long x :: .ref 0 :: st) := by
  refine go_put h hd lk (gt_ob S (k := 0) (c := 7) rfl (by decide)) (fun b => rfl) (fun b => rfl) (by simp [fl]) rfl ?_
  rw [up_mk (S := S) (S' := ptT S 0 x) (by rfl) (fun j hj => by simp only [ptT, if_neg hj])]
  exact kk
theorem gs_putL8 (h : Fok F cc nL own ret) {idx : Nat} {x : Int64} (hd : Dc cc pc (.putfield idx) 3 pc') (lk : FP own idx 8 1 false .long) (kk : Go F nL (mk (ptT S 88 x)) cs sl pc' L st) : Go F nL (mk S) cs sl pc L (.long x :: .ref 88 :: st) := by
  refine go_put h hd lk (gt_ob S (k := 88) (c := 8) rfl (by decide)) (fun b => rfl) (fun b => rfl) (by simp [fl]) rfl ?_
  rw [up_mk (S := S) (S' := ptT S 88 x) (by rfl) (fun j hj => by simp only [ptT, if_neg hj])]
  exact kk
theorem mkc_P (W : Int → Int) (t : Int64) (P P' : Nat × Nat) (k : Nat) (h : k ≠ 0) : mkc W t P k (kd k) = mkc W t P' k (kd k) := by
  by_cases h8 : kd k ≤ 8
  · have h7 : kd k ≠ 7 := fun e => h (kd7 k e)
    simp only [mkc]
    rw [if_pos h8, if_pos h8]
    have hh : kd k = 0 ∨ kd k = 1 ∨ kd k = 2 ∨ kd k = 3 ∨ kd k = 4 ∨ kd k = 5 ∨ kd k = 6 ∨ kd k = 8 := by omega
    rcases hh with e | e | e | e | e | e | e | e <;> rw [e] <;> rfl
  · simp only [mkc]
    rw [if_neg h8, if_neg h8]
theorem gs_putP1 (h : Fok F cc nL own ret) {idx x : Nat} (hd : Dc cc pc (.putfield idx) 3 pc') (lk : FP own idx 7 1 false (.object "LadderSurvey$Plan")) (kk : Go F nL (mk (ptP S (x, S.2.2.2))) cs sl pc' L st) : Go F nL (mk S) cs sl pc L (.ref x :: .ref 0 :: st) := by
  refine go_put h hd lk (gt_ob S (k := 0) (c := 7) rfl (by decide)) (fun b => rfl) (fun b => rfl) (by simp [fl]) rfl ?_
  rw [up_mk (S := S) (S' := ptP S (x, S.2.2.2)) (by rfl) (fun j hj => mkc_P _ _ _ _ j hj)]
  exact kk
theorem gs_putP2 (h : Fok F cc nL own ret) {idx x : Nat} (hd : Dc cc pc (.putfield idx) 3 pc') (lk : FP own idx 7 2 false (.object "LadderSurvey$Plan")) (kk : Go F nL (mk (ptP S (S.2.2.1, x))) cs sl pc' L st) : Go F nL (mk S) cs sl pc L (.ref x :: .ref 0 :: st) := by
  refine go_put h hd lk (gt_ob S (k := 0) (c := 7) rfl (by decide)) (fun b => rfl) (fun b => rfl) (by simp [fl]) rfl ?_
  rw [up_mk (S := S) (S' := ptP S (S.2.2.1, x)) (by rfl) (fun j hj => mkc_P _ _ _ _ j hj)]
  exact kk
end GI
theorem mk_congr {S S' : Sg} (h1 : ∀ a, kd a = 9 ∨ kd a = 10 → ∀ j : Int, 0 ≤ j → j < (ln a : Int) → S.1 a j = S'.1 a j) (h2 : ∀ a, kd a ≤ 8 → S.1 a = S'.1 a) (h3 : S.2 = S'.2) : mk S = mk S' := by
  unfold mk
  congr 1
  funext k
  rw [h3]
  by_cases h8 : kd k ≤ 8
  · rw [h2 k h8]
  · simp only [mkc]
    rw [if_neg h8, if_neg h8]
    have he : kd k = 9 ∨ kd k = 10 → af (ln k) (S.1 k) = af (ln k) (S'.1 k) := fun hk => by
      funext q
      simp only [af]
      by_cases hq : q < ln k
      · rw [if_pos hq, if_pos hq, h1 k hk q (by omega) (by omega)]
      · rw [if_neg hq, if_neg hq]
    by_cases h9 : kd k = 9
    · rw [if_pos h9, if_pos h9, he (Or.inl h9)]
    · rw [if_neg h9, if_neg h9]
      by_cases h10 : kd k = 10
      · rw [if_pos h10, if_pos h10, he (Or.inr h10)]
      · rw [if_neg h10, if_neg h10]
/-- the whole of what a holds -/
def aset (S : Sg) (a : Nat) (f : Int → Int) : Sg := (uA S.1 a f, S.2)
theorem mk_aset {S : Sg} {a : Nat} {f g : Int → Int} (hk : kd a = 9) (h : ∀ j : Int, 0 ≤ j → j < (ln a : Int) → f j = g j) : mk (aset S a f) = mk (aset S a g) := by
  refine mk_congr (fun b hb j h0 h1 => ?_) (fun b hb => ?_) rfl
  · by_cases hba : b = a
    · subst hba; simp only [aset, uA_eq]; exact h j h0 h1
    · simp only [aset, uA_ne _ _ hba]
  · have : b ≠ a := fun e => by rw [e, hk] at hb; omega
    simp only [aset, uA_ne _ _ this]
end
section
/-! contracts over the world of numbers -/
def PI (P : Int → Sg → Prop) : Option Value → Mem → Prop := fun v M' => ∃ (r : Int) (S' : Sg), v = some (.int (iI r)) ∧ M' = mk S' ∧ P r S'
def PV (P : Sg → Prop) : Option Value → Mem → Prop := fun v M' => ∃ (S' : Sg), v = none ∧ M' = mk S' ∧ P S'
def PL (P : Int64 → Sg → Prop) : Option Value → Mem → Prop := fun v M' => ∃ (r : Int64) (S' : Sg), v = some (.long r) ∧ M' = mk S' ∧ P r S'
def PR (P : Nat → Sg → Prop) : Option Value → Mem → Prop := fun v M' => ∃ (r : Nat) (S' : Sg), v = some (.ref r) ∧ M' = mk S' ∧ P r S'
def FF (F : FT) (X : XT) (d cs sl : Nat) : Prop := FX F X ∧ Rge F d ∧ Room3 F cs sl
theorem Ctr.ofF {X : XT} {d : Nat} {y : MethodName} {cc : ByteArray} {nL : Nat} {ret : Option FieldType} {av : List Value} {M : Mem} {Post : Option Value → Mem → Prop} {mc ms : Nat} (hy : plainFor y = true) (hc : c1 av = true) (hlen : av.length ≤ nL) (body : ∀ F : FT, Fok F cc nL y.cls ret → FX F X → Rge F d → Room3 F mc ms → Fend F Post mc ms → (y.name = "<init>" → inInit F) → Go F nL M 0 0 0 av []) : Ctr X d y cc nL ret av M Post mc ms := by
  obtain ⟨l, b, D, cy⟩ := X
  refine va_MetF (cc := cc) (maxL := nL) (ret := ret) hy rfl ?_
  intro p e s m args below meth c s₁ B hml hv
  obtain ⟨rfl, hH, hK⟩ := hv
  have hts := atoms_spec (ws := Cond.code y cc nL ret :: lw_ws) B.pre
  have hown : s.vm.findClass y.cls = some m.cls := findClass_of_methodNamed B.named
  have hc' : c1 (av.map (shV b)) = true := by rw [c1_map]; exact hc
  have hl := lv_entry (av.map (shV b)) (n := nL) (by rw [c1_len hc', List.length_map]; exact hlen)
  rw [lg_entry_eq]
  generalize (lg_sl (av.map (shV b)) ++ List.replicate (nL - (lg_sl (av.map (shV b))).length) Slot.unset).toArray = ls at hl ⊢
  refine body (p, l, e, rmv d mc ms, s, m, (av.map (shV b)).toArray, below, meth, c, _, b, D, cy) ⟨B.exec, B.bytes, hml, hown, fun w hw => hts w (List.mem_cons_of_mem _ hw), hK, B.returns, B.notSynchronized, by rw [hH.1]; exact Nat.le_add_right b M.1⟩ rfl ⟨Nat.le_refl _, Nat.le_refl _⟩ ⟨Nat.le_refl _, Nat.le_refl _⟩ rfl (fun hn => ((name_of_methodNamed B.named B.method).1).trans hn) s.heap [] ls hH va_S.rf ⟨hl.1, hl.2.1, fun k v hv => ?_⟩
  have h2 : (av.map (shV b))[k]? = some (shV b v) := by rw [List.getElem?_map, hv]; rfl
  have h3 := c1_args (i := 0) hc' k _ h2
  rw [Nat.zero_add] at h3
  exact hl.2.2 _ h3
section SG
variable {X : XT} {d d' : Nat} {y : MethodName} {bytes : ByteArray} {maxL : Nat} {rt : Option FieldType} {n idx : Nat} {As : List Value} {S : Sg}
theorem Ctr.ofS {av : List Value} {Post : Option Value → Mem → Prop} (hy : plainName y.cls = true) (hc : c1 av = true) (hlen : av.length ≤ maxL) (body : ∀ F : FT, Fok F bytes maxL y.cls rt → FF F X d 0 0 → Fend F Post 0 0 → Go F maxL (mk S) 0 0 0 av []) : Ctr X d y bytes maxL rt av (mk S) Post 0 0 :=
  Ctr.of hy hc hlen (fun F h hX hR hro hE _ => body F h ⟨hX, hR, hro⟩ hE)
theorem Ctr.ofSF {av : List Value} {Post : Option Value → Mem → Prop} (hy : plainFor y = true) (hc : c1 av = true) (hlen : av.length ≤ maxL) (body : ∀ F : FT, Fok F bytes maxL y.cls rt → FF F X d 0 0 → Fend F Post 0 0 → Go F maxL (mk S) 0 0 0 av []) : Ctr X d y bytes maxL rt av (mk S) Post 0 0 :=
  Ctr.ofF hy hc hlen (fun F h hX hR hro hE _ => body F h ⟨hX, hR, hro⟩ hE)
variable {F : FT} {cc : ByteArray} {nL : Nat} {own : String} {ret : Option FieldType} {cs sl pc pc' : Nat} {L st st0 : List Value}
theorem gs_callVI (h : Fok F cc nL own ret) (hF : FF F X d cs sl) {P : Int → Sg → Prop} {k ci : Nat} (hd : Dc cc pc (.invokevirtual idx) 3 pc') (kv : KV own idx y bytes maxL rt n) (ct : Ctr X d' y bytes maxL rt (.ref k :: As) (mk S) (PI P) 0 0) (hdd : d' + 1 ≤ d) (hk : kd k = ci) (hc8 : ci ≤ 8) (hci : ∃ T N, cl9[ci]? = some (y.cls, T, N)) (hn : As.length = n) (h8 : (st.map fun v => v.category).sum ≤ 8) (hst : st0 = As.reverse ++ .ref k :: st) (kk : ∀ (r : Int) (S' : Sg), P r S' → Go F nL (mk S') cs sl pc' L (.int (iI r) :: st)) : Go F nL (mk S) cs sl pc L st0 :=
  go_callV (mc := 0) (ms := 0) h hd kv hF.1 hF.2.1 hF.2.2 ct hdd (gt_ob S hk hc8) hci hn h8 hst (fun v M' hP => by obtain ⟨r, S', rfl, rfl, hP⟩ := hP; exact kk r S' hP)
theorem gs_callVV (h : Fok F cc nL own ret) (hF : FF F X d cs sl) {P : Sg → Prop} {k ci : Nat} (hd : Dc cc pc (.invokevirtual idx) 3 pc') (kv : KV own idx y bytes maxL rt n) (ct : Ctr X d' y bytes maxL rt (.ref k :: As) (mk S) (PV P) 0 0) (hdd : d' + 1 ≤ d) (hk : kd k = ci) (hc8 : ci ≤ 8) (hci : ∃ T N, cl9[ci]? = some (y.cls, T, N)) (hn : As.length = n) (h8 : (st.map fun v => v.category).sum ≤ 8) (hst : st0 = As.reverse ++ .ref k :: st) (kk : ∀ (S' : Sg), P S' → Go F nL (mk S') cs sl pc' L st) : Go F nL (mk S) cs sl pc L st0 :=
  go_callV (mc := 0) (ms := 0) h hd kv hF.1 hF.2.1 hF.2.2 ct hdd (gt_ob S hk hc8) hci hn h8 hst (fun v M' hP => by obtain ⟨S', rfl, rfl, hP⟩ := hP; exact kk S' hP)
theorem gs_callVL (h : Fok F cc nL own ret) (hF : FF F X d cs sl) {P : Int64 → Sg → Prop} {k ci : Nat} (hd : Dc cc pc (.invokevirtual idx) 3 pc') (kv : KV own idx y bytes maxL rt n) (ct : Ctr X d' y bytes maxL rt (.ref k :: As) (mk S) (PL P) 0 0) (hdd : d' + 1 ≤ d) (hk : kd k = ci) (hc8 : ci ≤ 8) (hci : ∃ T N, cl9[ci]? = some (y.cls, T, N)) (hn : As.length = n) (h8 : (st.map fun v => v.category).sum ≤ 8) (hst : st0 = As.reverse ++ .ref k :: st) (kk : ∀ (r : Int64) (S' : Sg), P r S' → Go F nL (mk S') cs sl pc' L (.long r :: st)) : Go F nL (mk S) cs sl pc L st0 :=
  go_callV (mc := 0) (ms := 0) h hd kv hF.1 hF.2.1 hF.2.2 ct hdd (gt_ob S hk hc8) hci hn h8 hst (fun v M' hP => by obtain ⟨r, S', rfl, rfl, hP⟩ := hP; exact kk r S' hP)
theorem gs_callVR (h : Fok F cc nL own ret) (hF : FF F X d cs sl) {P : Nat → Sg → Prop} {k ci : Nat} (hd : Dc cc pc (.invokevirtual idx) 3 pc') (kv : KV own idx y bytes maxL rt n) (ct : Ctr X d' y bytes maxL rt (.ref k :: As) (mk S) (PR P) 0 0) (hdd : d' + 1 ≤ d) (hk : kd k = ci) (hc8 : ci ≤ 8) (hci : ∃ T N, cl9[ci]? = some (y.cls, T, N)) (hn : As.length = n) (h8 : (st.map fun v => v.category).sum ≤ 8) (hst : st0 = As.reverse ++ .ref k :: st) (kk : ∀ (r : Nat) (S' : Sg), P r S' → Go F nL (mk S') cs sl pc' L (.ref r :: st)) : Go F nL (mk S) cs sl pc L st0 :=
  go_callV (mc := 0) (ms := 0) h hd kv hF.1 hF.2.1 hF.2.2 ct hdd (gt_ob S hk hc8) hci hn h8 hst (fun v M' hP => by obtain ⟨r, S', rfl, rfl, hP⟩ := hP; exact kk r S' hP)
theorem gs_callSI (h : Fok F cc nL own ret) (hF : FF F X d cs sl) {P : Int → Sg → Prop} (hd : Dc cc pc (.invokestatic idx) 3 pc') (kv : KS own idx y bytes maxL rt n) (ct : Ctr X d' y bytes maxL rt As (mk S) (PI P) 0 0) (hdd : d' + 1 ≤ d) (hn : As.length = n) (h8 : (st.map fun v => v.category).sum ≤ 8) (hst : st0 = As.reverse ++ st) (kk : ∀ (r : Int) (S' : Sg), P r S' → Go F nL (mk S') cs sl pc' L (.int (iI r) :: st)) : Go F nL (mk S) cs sl pc L st0 :=
  go_callS (mc := 0) (ms := 0) h hd kv hF.1 hF.2.1 hF.2.2 ct hdd hn h8 hst (fun v M' hP => by obtain ⟨r, S', rfl, rfl, hP⟩ := hP; exact kk r S' hP)
theorem gs_callSNI (h : Fok F cc nL own ret) (hF : FF F X d cs sl) {P : Int → Sg → Prop} (hd : Dc cc pc (.invokestatic idx) 3 pc') (kv : KSN own idx y bytes maxL rt n) (ct : Ctr X d' y bytes maxL rt As (mk S) (PI P) 0 0) (hdd : d' + 1 ≤ d) (hn : As.length = n) (h8 : (st.map fun v => v.category).sum ≤ 8) (hst : st0 = As.reverse ++ st) (kk : ∀ (r : Int) (S' : Sg), P r S' → Go F nL (mk S') cs sl pc' L (.int (iI r) :: st)) : Go F nL (mk S) cs sl pc L st0 :=
  go_callSN (mc := 0) (ms := 0) h hd kv hF.1 hF.2.1 hF.2.2 ct hdd hn h8 hst (fun v M' hP => by obtain ⟨r, S', rfl, rfl, hP⟩ := hP; exact kk r S' hP)
theorem gd_putI (h : Fok F cc nL own ret) {ci k a : Nat} {x : Int} (i : Int) (hd : Dc cc pc (.putfield idx) 3 pc') (lk : FP own idx ci k false .int) (hk : kd a = ci) (h8 : ci ≤ 8) (hki : (k : Int) = i) (hi : isI ci i = true) (kk : Go F nL (mk (pt S a i x)) cs sl pc' L st) : Go F nL (mk S) cs sl pc L (.int (iI x) :: .ref a :: st) := by
  subst hki; exact gs_putI h hd lk hk h8 hi kk
theorem gd_putZ (h : Fok F cc nL own ret) {ci k a : Nat} {x : Int} (i : Int) (hd : Dc cc pc (.putfield idx) 3 pc') (lk : FP own idx ci k false .boolean) (hk : kd a = ci) (h8 : ci ≤ 8) (hki : (k : Int) = i) (hi : isI ci i = true) (hx : x = 0 ∨ x = 1) (kk : Go F nL (mk (pt S a i x)) cs sl pc' L st) : Go F nL (mk S) cs sl pc L (.int (iI x) :: .ref a :: st) := by
  subst hki; exact gs_putZ h hd lk hk h8 hi hx kk
theorem gi_goto (h : Fok F cc nL own ret) {M : Mem} {off : Int} {tgt : Nat} (hd : decode cc pc = .ok (.goto off, 3)) (ht : (pc : Int) + off = (tgt : Int)) (k : Go F nL M cs sl tgt L st) : Go F nL M cs sl pc L st := go_goto (n := 0) h hd ht k
theorem gd_callVI (h : Fok F cc nL own ret) (hF : FF F X d cs sl) {e : Int} {E : Sg} {k ci : Nat} (hd : Dc cc pc (.invokevirtual idx) 3 pc') (kv : KV own idx y bytes maxL rt n) (ct : Ctr X d' y bytes maxL rt (.ref k :: As) (mk S) (PI (fun r S' => r = e ∧ S' = E)) 0 0) (hdd : d' + 1 ≤ d) (hk : kd k = ci) (hc8 : ci ≤ 8) (hci : ∃ T N, cl9[ci]? = some (y.cls, T, N)) (hn : As.length = n) (h8 : (st.map fun v => v.category).sum ≤ 8) (hst : st0 = As.reverse ++ .ref k :: st) (kk : Go F nL (mk E) cs sl pc' L (.int (iI e) :: st)) : Go F nL (mk S) cs sl pc L st0 :=
  gs_callVI h hF hd kv ct hdd hk hc8 hci hn h8 hst (fun r S' hP => by rw [hP.1, hP.2]; exact kk)
theorem gd_callVV (h : Fok F cc nL own ret) (hF : FF F X d cs sl) {E : Sg} {k ci : Nat} (hd : Dc cc pc (.invokevirtual idx) 3 pc') (kv : KV own idx y bytes maxL rt n) (ct : Ctr X d' y bytes maxL rt (.ref k :: As) (mk S) (PV (fun S' => S' = E)) 0 0) (hdd : d' + 1 ≤ d) (hk : kd k = ci) (hc8 : ci ≤ 8) (hci : ∃ T N, cl9[ci]? = some (y.cls, T, N)) (hn : As.length = n) (h8 : (st.map fun v => v.category).sum ≤ 8) (hst : st0 = As.reverse ++ .ref k :: st) (kk : Go F nL (mk E) cs sl pc' L st) : Go F nL (mk S) cs sl pc L st0 :=
  gs_callVV h hF hd kv ct hdd hk hc8 hci hn h8 hst (fun S' hP => by subst hP; exact kk)
theorem gd_callVL (h : Fok F cc nL own ret) (hF : FF F X d cs sl) {e : Int64} {E : Sg} {k ci : Nat} (hd : Dc cc pc (.invokevirtual idx) 3 pc') (kv : KV own idx y bytes maxL rt n) (ct : Ctr X d' y bytes maxL rt (.ref k :: As) (mk S) (PL (fun r S' => r = e ∧ S' = E)) 0 0) (hdd : d' + 1 ≤ d) (hk : kd k = ci) (hc8 : ci ≤ 8) (hci : ∃ T N, cl9[ci]? = some (y.cls, T, N)) (hn : As.length = n) (h8 : (st.map fun v => v.category).sum ≤ 8) (hst : st0 = As.reverse ++ .ref k :: st) (kk : Go F nL (mk E) cs sl pc' L (.long e :: st)) : Go F nL (mk S) cs sl pc L st0 :=
  gs_callVL h hF hd kv ct hdd hk hc8 hci hn h8 hst (fun r S' hP => by rw [hP.1, hP.2]; exact kk)
theorem gd_callVR (h : Fok F cc nL own ret) (hF : FF F X d cs sl) {e : Nat} {E : Sg} {k ci : Nat} (hd : Dc cc pc (.invokevirtual idx) 3 pc') (kv : KV own idx y bytes maxL rt n) (ct : Ctr X d' y bytes maxL rt (.ref k :: As) (mk S) (PR (fun r S' => r = e ∧ S' = E)) 0 0) (hdd : d' + 1 ≤ d) (hk : kd k = ci) (hc8 : ci ≤ 8) (hci : ∃ T N, cl9[ci]? = some (y.cls, T, N)) (hn : As.length = n) (h8 : (st.map fun v => v.category).sum ≤ 8) (hst : st0 = As.reverse ++ .ref k :: st) (kk : Go F nL (mk E) cs sl pc' L (.ref e :: st)) : Go F nL (mk S) cs sl pc L st0 :=
  gs_callVR h hF hd kv ct hdd hk hc8 hci hn h8 hst (fun r S' hP => by rw [hP.1, hP.2]; exact kk)
theorem gd_callSI (h : Fok F cc nL own ret) (hF : FF F X d cs sl) {e : Int} {E : Sg} (hd : Dc cc pc (.invokestatic idx) 3 pc') (kv : KS own idx y bytes maxL rt n) (ct : Ctr X d' y bytes maxL rt As (mk S) (PI (fun r S' => r = e ∧ S' = E)) 0 0) (hdd : d' + 1 ≤ d) (hn : As.length = n) (h8 : (st.map fun v => v.category).sum ≤ 8) (hst : st0 = As.reverse ++ st) (kk : Go F nL (mk E) cs sl pc' L (.int (iI e) :: st)) : Go F nL (mk S) cs sl pc L st0 :=
  gs_callSI h hF hd kv ct hdd hn h8 hst (fun r S' hP => by rw [hP.1, hP.2]; exact kk)
theorem gd_callSNI (h : Fok F cc nL own ret) (hF : FF F X d cs sl) {e : Int} {E : Sg} (hd : Dc cc pc (.invokestatic idx) 3 pc') (kv : KSN own idx y bytes maxL rt n) (ct : Ctr X d' y bytes maxL rt As (mk S) (PI (fun r S' => r = e ∧ S' = E)) 0 0) (hdd : d' + 1 ≤ d) (hn : As.length = n) (h8 : (st.map fun v => v.category).sum ≤ 8) (hst : st0 = As.reverse ++ st) (kk : Go F nL (mk E) cs sl pc' L (.int (iI e) :: st)) : Go F nL (mk S) cs sl pc L st0 :=
  gs_callSNI h hF hd kv ct hdd hn h8 hst (fun r S' hP => by rw [hP.1, hP.2]; exact kk)
theorem gs_iret (h : Fok F cc nL own (some .int)) {P : Int → Sg → Prop} (hE : Fend F (PI P) cs sl) {r : Int} (hd : decode cc pc = .ok (.ireturn, 1)) (hP : P r S) : Go F nL (mk S) cs sl pc L [.int (iI r)] := go_iret h hE ⟨r, S, rfl, rfl, hP⟩ hd
theorem gs_zret (h : Fok F cc nL own (some .boolean)) {P : Int → Sg → Prop} (hE : Fend F (PI P) cs sl) {r : Int} (hd : decode cc pc = .ok (.ireturn, 1)) (hr : r = 0 ∨ r = 1) (hP : P r S) : Go F nL (mk S) cs sl pc L [.int (iI r)] := go_zret h hE (by rcases hr with rfl | rfl <;> rfl) ⟨r, S, rfl, rfl, hP⟩ hd
theorem gs_lret (h : Fok F cc nL own (some .long)) {P : Int64 → Sg → Prop} (hE : Fend F (PL P) cs sl) {r : Int64} (hd : decode cc pc = .ok (.lreturn, 1)) (hP : P r S) : Go F nL (mk S) cs sl pc L [.long r] := go_lret h hE ⟨r, S, rfl, rfl, hP⟩ hd
theorem gs_aret {nm : String} (h : Fok F cc nL own (some (.object nm))) {P : Nat → Sg → Prop} (hE : Fend F (PR P) cs sl) {r : Nat} (hd : decode cc pc = .ok (.areturn, 1)) (hP : P r S) : Go F nL (mk S) cs sl pc L [.ref r] := go_aret h hE ⟨r, S, rfl, rfl, hP⟩ hd
theorem gs_vret (h : Fok F cc nL own none) {P : Sg → Prop} (hE : Fend F (PV P) cs sl) (hd : decode cc pc = .ok (.return_, 1)) (hP : P S) : Go F nL (mk S) cs sl pc L [] := go_vret h hE (Nat.le_refl _) (Nat.le_refl _) ⟨S, rfl, rfl, hP⟩ hd
theorem gi_top {M : Mem} {a : Int} (k : ∀ b : Int, b = a → Go F nL M cs sl pc L (.int (iI b) :: st)) : Go F nL M cs sl pc L (.int (iI a) :: st) := k a rfl
theorem gi_tabIn (h : Fok F cc nL own ret) {M : Mem} {dflt lo hi : Int} {offs : Array Int} {len : Nat} (a : Int) {off : Int} {tgt : Nat} (hd : decode cc pc = .ok (.tableswitch dflt lo hi offs, len)) (hq : -2147483648 ≤ a ∧ a ≤ 2147483647) (h1 : lo ≤ a ∧ a ≤ hi) (ho : offs[(a - lo).toNat]? = some off) (ht : (pc : Int) + off = (tgt : Int)) (k : Go F nL M cs sl tgt L st) : Go F nL M cs sl pc L (.int (iI a) :: st) := go_tabIn h hd (by rw [iI_toInt hq.1 hq.2]; omega) (by rw [iI_toInt hq.1 hq.2]; omega) (by rw [iI_toInt hq.1 hq.2]; exact ho) ht k
theorem gi_tabOut (h : Fok F cc nL own ret) {M : Mem} {dflt lo hi : Int} {offs : Array Int} {len : Nat} {a : Int} {tgt : Nat} (hd : decode cc pc = .ok (.tableswitch dflt lo hi offs, len)) (hq : -2147483648 ≤ a ∧ a ≤ 2147483647) (h1 : a < lo ∨ hi < a) (ht : (pc : Int) + dflt = (tgt : Int)) (k : Go F nL M cs sl tgt L st) : Go F nL M cs sl pc L (.int (iI a) :: st) := go_tabOut h hd (by rw [iI_toInt hq.1 hq.2]; exact h1) ht k
theorem gi_lookup (h : Fok F cc nL own ret) {M : Mem} {dflt : Int} {ps : Array (Int × Int)} {len : Nat} {a : Int} {off : Int} {tgt : Nat} (hd : decode cc pc = .ok (.lookupswitch dflt ps, len)) (hq : -2147483648 ≤ a ∧ a ≤ 2147483647) (hp : (ps.toList.zip (ps.toList.drop 1)).all (fun (a, next) => a.1 < next.1) = true) (ho : Op.lookupswitch.offset ps.toList dflt a = off) (ht : (pc : Int) + off = (tgt : Int)) (k : Go F nL M cs sl tgt L st) : Go F nL M cs sl pc L (.int (iI a) :: st) := go_lookup h hd hp (by rw [iI_toInt hq.1 hq.2]; exact ho) ht k
end SG
end
section
/-! rows -/
theorem row_ok {k : Nat} (h : kd k = 3) : kd (k + 1) = 9 ∧ (ln (k + 1) : Int) ≤ 3000 := by
  by_cases hj : k < 106
  · have : ∀ k, k < 106 → kd k = 3 → kd (k + 1) = 9 ∧ ln (k + 1) ≤ 3000 := by decide +kernel
    have h2 := this k hj h
    exact ⟨h2.1, by omega⟩
  · have : kd k = 11 := by
      unfold kd
      have h2 : kdL.length = 106 := by decide +kernel
      rw [List.getD_eq_getElem?_getD, List.getElem?_eq_none (by omega)]
      rfl
    omega
def sumF (f : Int → Int) : Nat → Int
  | 0 => 0
  | n + 1 => sumF f n + f (n : Int)
def sumI (f : Int → Int) (n : Int) : Int := sumF f n.toNat
theorem sumI_0 (f : Int → Int) : sumI f 0 = 0 := rfl
theorem sumI_s (f : Int → Int) {n : Int} (h : 0 ≤ n) : sumI f (n + 1) = sumI f n + f n := by
  unfold sumI
  rw [show (n + 1).toNat = n.toNat + 1 by omega, sumF, Int.toNat_of_nonneg h]
theorem sumI_congr {f g : Int → Int} {n : Int} (h : ∀ j, 0 ≤ j → j < n → f j = g j) : sumI f n = sumI g n := by
  unfold sumI
  have : ∀ m : Nat, (m : Int) ≤ n → sumF f m = sumF g m := by
    intro m
    induction m with
    | zero => intro _; rfl
    | succ m ih => intro hm; rw [sumF, sumF, ih (by omega), h m (by omega) (by omega)]
  by_cases hn : 0 ≤ n
  · exact this n.toNat (by omega)
  · rw [show n.toNat = 0 by omega]; rfl
/-- what at() tells -/
def atV (f : Int → Int) (n : Nat) (i : Int) : Int := if 0 ≤ i ∧ i < (n : Int) then f i else 0
theorem atV_in {f : Int → Int} {n : Nat} {i : Int} (h : 0 ≤ i ∧ i < (n : Int)) : atV f n i = f i := if_pos h
theorem atV_out {f : Int → Int} {n : Nat} {i : Int} (h : ¬ (0 ≤ i ∧ i < (n : Int))) : atV f n i = 0 := if_neg h
/-- behind put() -/
def rput (S : Sg) (k : Nat) (i x : Int) : Sg := if 0 ≤ i ∧ i < (ln (k + 1) : Int) then pt S (k + 1) i x else S
theorem rput_in {S : Sg} {k : Nat} {i : Int} (x : Int) (h : 0 ≤ i ∧ i < (ln (k + 1) : Int)) : rput S k i x = pt S (k + 1) i x := if_pos h
theorem rput_out {S : Sg} {k : Nat} {i : Int} (x : Int) (h : ¬ (0 ≤ i ∧ i < (ln (k + 1) : Int))) : rput S k i x = S := if_neg h
theorem rput_ne (S : Sg) {k a : Nat} (i x : Int) (h : a ≠ k + 1) : (rput S k i x).1 a = S.1 a := by
  unfold rput
  by_cases hi : 0 ≤ i ∧ i < (ln (k + 1) : Int)
  · rw [if_pos hi]; exact uA_ne _ _ h
  · rw [if_neg hi]
theorem pt_ne (S : Sg) {k a : Nat} (i x : Int) (h : a ≠ k) : (pt S k i x).1 a = S.1 a := uA_ne _ _ h
theorem pt_eq (S : Sg) (k : Nat) (i x : Int) : (pt S k i x).1 k = uF (S.1 k) i x := uA_eq _ _ _
theorem pt_at (S : Sg) (k : Nat) (i x : Int) : (pt S k i x).1 k i = x := by rw [pt_eq, uF_eq]
theorem aset_eq (S : Sg) (a : Nat) (f : Int → Int) : (aset S a f).1 a = f := uA_eq _ _ _
theorem aset_ne (S : Sg) {k a : Nat} (f : Int → Int) (h : a ≠ k) : (aset S k f).1 a = S.1 a := uA_ne _ _ h
theorem aset_aset (S : Sg) (a : Nat) (f g : Int → Int) : aset (aset S a f) a g = aset S a g := by
  unfold aset
  congr 1
  funext b
  simp only [uA]
  by_cases h : b = a
  · rw [if_pos h, if_pos h]
  · rw [if_neg h, if_neg h, if_neg h]
theorem aset_self (S : Sg) (a : Nat) : aset S a (S.1 a) = S := by
  unfold aset
  have : uA S.1 a (S.1 a) = S.1 := by
    funext b
    simp only [uA]
    by_cases h : b = a
    · rw [if_pos h, h]
    · rw [if_neg h]
  rw [this]
theorem pt_aset (S : Sg) (k : Nat) (i x : Int) : pt S k i x = aset S k (uF (S.1 k) i x) := rfl
theorem aset_comm (S : Sg) {a b : Nat} (f g : Int → Int) (h : a ≠ b) : aset (aset S a f) b g = aset (aset S b g) a f := by
  unfold aset
  congr 1
  funext c
  simp only [uA]
  by_cases h1 : c = b
  · rw [if_pos h1, if_neg (fun e => h (e.symm.trans h1)), if_pos h1]
  · rw [if_neg h1]
    by_cases h2 : c = a
    · rw [if_pos h2, if_pos h2]
    · rw [if_neg h2, if_neg h2, if_neg h1]
theorem fl3 (W : Int → Int) (t : Int64) (P : Nat × Nat) (k : Nat) : (fl W t P k 3)[1]? = some (.int (iI (W 1))) := rfl
theorem pt_sw (S : Sg) {k a : Nat} (f : Int → Int) (i x : Int) (h : a ≠ k) : pt (aset S a f) k i x = aset (pt S k i x) a f := by
  rw [pt_aset, pt_aset, aset_ne _ _ (Ne.symm h), aset_comm _ _ _ h]
theorem rfin {S : Sg} {k : Nat} (hk1 : kd (k + 1) = 9) {f g : Int → Int} (x : Int) (h : ∀ j : Int, 0 ≤ j → j < (ln (k + 1) : Int) → f j = g j) : mk (pt (aset S (k + 1) f) k 1 x) = mk (pt (aset S (k + 1) g) k 1 x) := by
  rw [pt_sw S f 1 x (show k + 1 ≠ k by omega), pt_sw S g 1 x (show k + 1 ≠ k by omega)]
  exact mk_aset hk1 h
/-- behind push() -/
def rpush (S : Sg) (k : Nat) (x : Int) : Sg := if S.1 k 1 < (ln (k + 1) : Int) then pt (pt S (k + 1) (S.1 k 1) x) k 1 (S.1 k 1 + 1) else S
def rempty (S : Sg) (k : Nat) : Sg := pt (aset S (k + 1) (fun _ => 0)) k 1 0
def rcopy (S : Sg) (k o : Nat) : Sg := pt (aset S (k + 1) (fun j => atV (S.1 (o + 1)) (ln (o + 1)) j)) k 1 (min (ln (k + 1) : Int) (S.1 o 1))
def cutF (f : Int → Int) (i z : Int) : Int → Int := fun j => if j < i then f j else if j < z - 1 then f (j + 1) else if j = z - 1 then 0 else f j
def insF (f : Int → Int) (i z x : Int) : Int → Int := fun j => if j < i then f j else if j = i then x else if j ≤ z then f (j - 1) else f j
def rremove (S : Sg) (k : Nat) (i : Int) : Sg := if 0 ≤ i ∧ i < S.1 k 1 then pt (aset S (k + 1) (cutF (S.1 (k + 1)) i (S.1 k 1))) k 1 (S.1 k 1 - 1) else S
def rinsert (S : Sg) (k : Nat) (i x : Int) : Sg := if S.1 k 1 < (ln (k + 1) : Int) ∧ 0 ≤ i ∧ i ≤ S.1 k 1 then pt (aset S (k + 1) (insF (S.1 (k + 1)) i (S.1 k 1) x)) k 1 (S.1 k 1 + 1) else S
/-- a row's size is in its room -/
def rw1 (S : Sg) (k : Nat) : Prop := 0 ≤ S.1 k 1 ∧ S.1 k 1 ≤ (ln (k + 1) : Int)
set_option maxRecDepth 4000 in
theorem cK_max (X : XT) {S : Sg} {a b : Int} (hq : -2147483648 ≤ a ∧ a ≤ 2147483647 ∧ -2147483648 ≤ b ∧ b ≤ 2147483647) : Ctr X 0 yK_max bK_max 2 (some .int) [.int (iI (a)), .int (iI (b))] (mk S) (PI (fun r S' => r = max a b ∧ S' = S)) 0 0 := by
  refine Ctr.ofSF (by decide +kernel) rfl (Nat.le_of_ble_eq_true rfl) (fun F h hF hE => ?_)
  refine go_iload_n (pc' := 1) h ⟨dK_max_0, rfl⟩ rfl ?_
  refine go_iload_n (pc' := 2) h ⟨dK_max_1, rfl⟩ rfl ?_
  refine gi_icmp_lt (tgt := 9) (pc' := 5) h dK_max_2 rfl rfl (by omega) (fun c2 => ?_) (fun c2 => ?_)
  · refine go_iload_n (pc' := 10) h ⟨dK_max_9, rfl⟩ rfl ?_
    exact gs_iret h hE dK_max_10 (⟨by omega, rfl⟩)
  · refine go_iload_n (pc' := 6) h ⟨dK_max_5, rfl⟩ rfl ?_
    refine gi_goto (tgt := 10) h dK_max_6 rfl ?_
    exact gs_iret h hE dK_max_10 (⟨by omega, rfl⟩)
set_option maxRecDepth 4000 in
theorem cK_min (X : XT) {S : Sg} {a b : Int} (hq : -2147483648 ≤ a ∧ a ≤ 2147483647 ∧ -2147483648 ≤ b ∧ b ≤ 2147483647) : Ctr X 0 yK_min bK_min 2 (some .int) [.int (iI (a)), .int (iI (b))] (mk S) (PI (fun r S' => r = min a b ∧ S' = S)) 0 0 := by
  refine Ctr.ofSF (by decide +kernel) rfl (Nat.le_of_ble_eq_true rfl) (fun F h hF hE => ?_)
  refine go_iload_n (pc' := 1) h ⟨dK_min_0, rfl⟩ rfl ?_
  refine go_iload_n (pc' := 2) h ⟨dK_min_1, rfl⟩ rfl ?_
  refine gi_icmp_gt (tgt := 9) (pc' := 5) h dK_min_2 rfl rfl (by omega) (fun c2 => ?_) (fun c2 => ?_)
  · refine go_iload_n (pc' := 10) h ⟨dK_min_9, rfl⟩ rfl ?_
    exact gs_iret h hE dK_min_10 (⟨by omega, rfl⟩)
  · refine go_iload_n (pc' := 6) h ⟨dK_min_5, rfl⟩ rfl ?_
    refine gi_goto (tgt := 10) h dK_min_6 rfl ?_
    exact gs_iret h hE dK_min_10 (⟨by omega, rfl⟩)
set_option maxRecDepth 4000 in
theorem cK_abs (X : XT) {S : Sg} {a : Int} (hq : -2147483648 ≤ a ∧ a ≤ 2147483647) : Ctr X 0 yK_abs bK_abs 1 (some .int) [.int (iI (a))] (mk S) (PI (fun r S' => r = (if 0 ≤ a then a else -a) ∧ S' = S)) 0 0 := by
  refine Ctr.ofSF (by decide +kernel) rfl (Nat.le_of_ble_eq_true rfl) (fun F h hF hE => ?_)
  refine go_iload_n (pc' := 1) h ⟨dK_abs_0, rfl⟩ rfl ?_
  refine gi_if_ge (tgt := 9) (pc' := 4) h dK_abs_1 rfl rfl (by omega) (fun c1 => ?_) (fun c1 => ?_)
  · refine go_iload_n (pc' := 10) h ⟨dK_abs_9, rfl⟩ rfl ?_
    exact gs_iret h hE dK_abs_10 (⟨by split <;> omega, rfl⟩)
  · refine go_iload_n (pc' := 5) h ⟨dK_abs_4, rfl⟩ rfl ?_
    refine gi_ineg (pc' := 6) h ⟨dK_abs_5, rfl⟩ ?_
    refine gi_goto (tgt := 10) h dK_abs_6 rfl ?_
    exact gs_iret h hE dK_abs_10 (⟨by split <;> omega, rfl⟩)
set_option maxRecDepth 4000 in
theorem cR_size (X : XT) {S : Sg} {k : Nat} (hk : kd k = 3) : Ctr X 0 yR_size bR_size 1 (some .int) [.ref k] (mk S) (PI (fun r S' => r = S.1 k 1 ∧ S' = S)) 0 0 := by
  refine Ctr.ofS (by decide) rfl (Nat.le_of_ble_eq_true rfl) (fun F h hF hE => ?_)
  refine go_aload_n (pc' := 1) h ⟨dR_size_0, rfl⟩ rfl ?_
  refine gs_get (v := .int (iI (S.1 k 1))) (pc' := 4) h ⟨dR_size_1, rfl⟩ fgR_19 hk (by decide) (rfl) ?_
  exact gs_iret h hE dR_size_4 (⟨rfl, rfl⟩)
set_option maxRecDepth 4000 in
theorem cR_isFull (X : XT) {S : Sg} {k : Nat} (hk : kd k = 3) (hw : rw1 S k) : Ctr X 0 yR_isFull bR_isFull 1 (some .boolean) [.ref k] (mk S) (PI (fun r S' => r = (if (ln (k + 1) : Int) ≤ S.1 k 1 then 1 else 0) ∧ S' = S)) 0 0 := by
  refine Ctr.ofS (by decide) rfl (Nat.le_of_ble_eq_true rfl) (fun F h hF hE => ?_)
  have hk1 := (row_ok hk).1
  have hn := (row_ok hk).2
  obtain ⟨hw1, hw2⟩ := hw
  refine go_aload_n (pc' := 1) h ⟨dR_isFull_0, rfl⟩ rfl ?_
  refine gs_get (v := .int (iI (S.1 k 1))) (pc' := 4) h ⟨dR_isFull_1, rfl⟩ fgR_19 hk (by decide) (rfl) ?_
  refine go_aload_n (pc' := 5) h ⟨dR_isFull_4, rfl⟩ rfl ?_
  refine gs_get (v := .ref (k + 1)) (pc' := 8) h ⟨dR_isFull_5, rfl⟩ fgR_13 hk (by decide) (rfl) ?_
  refine gs_alen (pc' := 9) h ⟨dR_isFull_8, rfl⟩ hk1 ?_
  refine gi_icmp_lt (tgt := 16) (pc' := 12) h dR_isFull_9 rfl rfl (by omega) (fun c9 => ?_) (fun c9 => ?_)
  · refine gi_iconst (pc' := 17) h ⟨dR_isFull_16, rfl⟩ ?_
    exact gs_zret h hE dR_isFull_17 (by omega) (⟨by split <;> omega, rfl⟩)
  · refine gi_iconst (pc' := 13) h ⟨dR_isFull_12, rfl⟩ ?_
    refine gi_goto (tgt := 17) h dR_isFull_13 rfl ?_
    exact gs_zret h hE dR_isFull_17 (by omega) (⟨by split <;> omega, rfl⟩)
set_option maxRecDepth 4000 in
theorem cR_at (X : XT) {S : Sg} {k : Nat} (hk : kd k = 3) {i : Int} (hi : -2147483648 ≤ i ∧ i ≤ 2147483647) : Ctr X 0 yR_at bR_at 2 (some .int) [.ref k, .int (iI (i))] (mk S) (PI (fun r S' => r = atV (S.1 (k + 1)) (ln (k + 1)) i ∧ S' = S)) 0 0 := by
  refine Ctr.ofS (by decide) rfl (Nat.le_of_ble_eq_true rfl) (fun F h hF hE => ?_)
  have hk1 := (row_ok hk).1
  have hn := (row_ok hk).2
  refine go_iload_n (pc' := 1) h ⟨dR_at_0, rfl⟩ rfl ?_
  refine gi_if_lt (tgt := 13) (pc' := 4) h dR_at_1 rfl rfl (by omega) (fun c1 => ?_) (fun c1 => ?_)
  · refine gi_iconst (pc' := 14) h ⟨dR_at_13, rfl⟩ ?_
    refine gi_goto (tgt := 23) h dR_at_14 rfl ?_
    exact gs_iret h hE dR_at_23 (⟨(atV_out (by omega)).symm, rfl⟩)
  · refine go_iload_n (pc' := 5) h ⟨dR_at_4, rfl⟩ rfl ?_
    refine go_aload_n (pc' := 6) h ⟨dR_at_5, rfl⟩ rfl ?_
    refine gs_get (v := .ref (k + 1)) (pc' := 9) h ⟨dR_at_6, rfl⟩ fgR_13 hk (by decide) (rfl) ?_
    refine gs_alen (pc' := 10) h ⟨dR_at_9, rfl⟩ hk1 ?_
    refine gi_icmp_lt (tgt := 17) (pc' := 13) h dR_at_10 rfl rfl (by omega) (fun c10 => ?_) (fun c10 => ?_)
    · refine go_aload_n (pc' := 18) h ⟨dR_at_17, rfl⟩ rfl ?_
      refine gs_get (v := .ref (k + 1)) (pc' := 21) h ⟨dR_at_18, rfl⟩ fgR_13 hk (by decide) (rfl) ?_
      refine go_iload_n (pc' := 22) h ⟨dR_at_21, rfl⟩ rfl ?_
      refine gs_iald (pc' := 23) h ⟨dR_at_22, rfl⟩ hk1 (by omega) ?_
      exact gs_iret h hE dR_at_23 (⟨(atV_in (by omega)).symm, rfl⟩)
    · refine gi_iconst (pc' := 14) h ⟨dR_at_13, rfl⟩ ?_
      refine gi_goto (tgt := 23) h dR_at_14 rfl ?_
      exact gs_iret h hE dR_at_23 (⟨(atV_out (by omega)).symm, rfl⟩)
set_option maxRecDepth 4000 in
theorem cR_put (X : XT) {S : Sg} {k : Nat} (hk : kd k = 3) {i x : Int} (hi : -2147483648 ≤ i ∧ i ≤ 2147483647) : Ctr X 0 yR_put bR_put 3 none [.ref k, .int (iI (i)), .int (iI (x))] (mk S) (PV (fun S' => S' = rput S k i x)) 0 0 := by
  refine Ctr.ofS (by decide) rfl (Nat.le_of_ble_eq_true rfl) (fun F h hF hE => ?_)
  have hk1 := (row_ok hk).1
  have hn := (row_ok hk).2
  refine go_iload_n (pc' := 1) h ⟨dR_put_0, rfl⟩ rfl ?_
  refine gi_if_lt (tgt := 20) (pc' := 4) h dR_put_1 rfl rfl (by omega) (fun c1 => ?_) (fun c1 => ?_)
  · exact gs_vret h hE dR_put_20 ((rput_out _ (by omega)).symm)
  · refine go_iload_n (pc' := 5) h ⟨dR_put_4, rfl⟩ rfl ?_
    refine go_aload_n (pc' := 6) h ⟨dR_put_5, rfl⟩ rfl ?_
    refine gs_get (v := .ref (k + 1)) (pc' := 9) h ⟨dR_put_6, rfl⟩ fgR_13 hk (by decide) (rfl) ?_
    refine gs_alen (pc' := 10) h ⟨dR_put_9, rfl⟩ hk1 ?_
    refine gi_icmp_ge (tgt := 20) (pc' := 13) h dR_put_10 rfl rfl (by omega) (fun c10 => ?_) (fun c10 => ?_)
    · exact gs_vret h hE dR_put_20 ((rput_out _ (by omega)).symm)
    · refine go_aload_n (pc' := 14) h ⟨dR_put_13, rfl⟩ rfl ?_
      refine gs_get (v := .ref (k + 1)) (pc' := 17) h ⟨dR_put_14, rfl⟩ fgR_13 hk (by decide) (rfl) ?_
      refine go_iload_n (pc' := 18) h ⟨dR_put_17, rfl⟩ rfl ?_
      refine go_iload_n (pc' := 19) h ⟨dR_put_18, rfl⟩ rfl ?_
      refine gs_iast (pc' := 20) h ⟨dR_put_19, rfl⟩ hk1 (by omega) ?_
      exact gs_vret h hE dR_put_20 ((rput_in _ (by omega)).symm)
set_option maxRecDepth 4000 in
theorem cR_push (X : XT) {S : Sg} {k : Nat} (hk : kd k = 3) {x : Int} (hw : rw1 S k) : Ctr X 1 yR_push bR_push 2 none [.ref k, .int (iI (x))] (mk S) (PV (fun S' => S' = rpush S k x)) 0 0 := by
  refine Ctr.ofS (by decide) rfl (Nat.le_of_ble_eq_true rfl) (fun F h hF hE => ?_)
  have hk1 := (row_ok hk).1
  have hn := (row_ok hk).2
  obtain ⟨hw1, hw2⟩ := id hw
  refine go_aload_n (pc' := 1) h ⟨dR_push_0, rfl⟩ rfl ?_
  refine gd_callVI (pc' := 4) (As := []) (st := []) h hF ⟨dR_push_1, rfl⟩ kvR_23 (cR_isFull X hk hw) (by omega) hk (by decide) ⟨_, _, rfl⟩ rfl (Nat.le_of_ble_eq_true rfl) rfl ?_
  refine gi_if_ne (tgt := 26) (pc' := 7) h dR_push_4 rfl rfl (by split <;> omega) (fun c4 => ?_) (fun c4 => ?_)
  · exact gs_vret h hE dR_push_26 (by rw [rpush, if_neg (by split at c4 <;> omega)])
  · refine go_aload_n (pc' := 8) h ⟨dR_push_7, rfl⟩ rfl ?_
    refine go_aload_n (pc' := 9) h ⟨dR_push_8, rfl⟩ rfl ?_
    refine gs_get (v := .int (iI (S.1 k 1))) (pc' := 12) h ⟨dR_push_9, rfl⟩ fgR_19 hk (by decide) (rfl) ?_
    refine go_iload_n (pc' := 13) h ⟨dR_push_12, rfl⟩ rfl ?_
    refine gd_callVV (pc' := 16) (As := [.int (iI (S.1 k 1)), .int (iI (x))]) (st := []) h hF ⟨dR_push_13, rfl⟩ kvR_27 (cR_put X hk (by omega)) (by omega) hk (by decide) ⟨_, _, rfl⟩ rfl (Nat.le_of_ble_eq_true rfl) rfl ?_
    refine go_aload_n (pc' := 17) h ⟨dR_push_16, rfl⟩ rfl ?_
    refine go_dup (pc' := 18) h ⟨dR_push_17, rfl⟩ rfl ?_
    refine gs_get (v := .int (iI (S.1 k 1))) (pc' := 21) h ⟨dR_push_18, rfl⟩ fgR_19 hk (by decide) (by rw [rput_ne _ _ _ (by omega)]; rfl) ?_
    refine gi_iconst (pc' := 22) h ⟨dR_push_21, rfl⟩ ?_
    refine gi_iadd (pc' := 23) h ⟨dR_push_22, rfl⟩ ?_
    refine gd_putI (i := 1) (pc' := 26) h ⟨dR_push_23, rfl⟩ fpR_19 hk (by decide) rfl rfl ?_
    exact gs_vret h hE dR_push_26 (by rw [rpush, if_pos (by split at c4 <;> omega), rput_in _ (by split at c4 <;> omega)])
theorem rempty_mk {S : Sg} {k : Nat} (hk1 : kd (k + 1) = 9) {f : Int → Int} (h : ∀ j : Int, 0 ≤ j → j < (ln (k + 1) : Int) → f j = 0) : mk (pt (aset S (k + 1) f) k 1 0) = mk (rempty S k) := by
  exact rfin hk1 0 h
set_option maxRecDepth 4000 in
theorem cR_empty (X : XT) {S : Sg} {k : Nat} (hk : kd k = 3) : Ctr X 0 yR_empty bR_empty 2 none [.ref k] (mk S) (PV (fun S' => S' = rempty S k)) 0 0 := by
  refine Ctr.ofS (by decide) rfl (Nat.le_of_ble_eq_true rfl) (fun F h hF hE => ?_)
  have hk1 := (row_ok hk).1
  have hn := (row_ok hk).2
  have loop : ∀ (n : Nat) (j : Int) (f : Int → Int), (ln (k + 1) : Int) < j + n → 0 ≤ j → j ≤ (ln (k + 1) : Int) → (∀ i : Int, 0 ≤ i → i < j → f i = 0) → Go F 2 (mk (aset S (k + 1) f)) 0 0 2 [.ref k, .int (iI j)] [] := by
    intro n
    induction n with
    | zero => intro j f h1 h2 h3; exfalso; omega
    | succ n ih =>
      intro j f h1 h2 h3 hf
      refine go_iload_n (pc' := 3) h ⟨dR_empty_2, rfl⟩ rfl ?_
      refine go_aload_n (pc' := 4) h ⟨dR_empty_3, rfl⟩ rfl ?_
      refine gs_get (v := .ref (k + 1)) (pc' := 7) h ⟨dR_empty_4, rfl⟩ fgR_13 hk (by decide) (rfl) ?_
      refine gs_alen (pc' := 8) h ⟨dR_empty_7, rfl⟩ hk1 ?_
      refine gi_icmp_ge (tgt := 24) (pc' := 11) h dR_empty_8 rfl rfl (by omega) (fun c8 => ?_) (fun c8 => ?_)
      · refine go_aload_n (pc' := 25) h ⟨dR_empty_24, rfl⟩ rfl ?_
        refine gi_iconst (pc' := 26) h ⟨dR_empty_25, rfl⟩ ?_
        refine gd_putI (i := 1) (pc' := 29) h ⟨dR_empty_26, rfl⟩ fpR_19 hk (by decide) rfl rfl ?_
        rw [rempty_mk hk1 (fun i h5 h6 => hf i h5 (by omega))]
        exact gs_vret h hE dR_empty_29 (rfl)
      · refine go_aload_n (pc' := 12) h ⟨dR_empty_11, rfl⟩ rfl ?_
        refine gs_get (v := .ref (k + 1)) (pc' := 15) h ⟨dR_empty_12, rfl⟩ fgR_13 hk (by decide) (rfl) ?_
        refine go_iload_n (pc' := 16) h ⟨dR_empty_15, rfl⟩ rfl ?_
        refine gi_iconst (pc' := 17) h ⟨dR_empty_16, rfl⟩ ?_
        refine gs_iast (pc' := 18) h ⟨dR_empty_17, rfl⟩ hk1 (by omega) ?_
        refine gi_iinc (L' := [.ref k, .int (iI (j + 1))]) (pc' := 21) h ⟨dR_empty_18, rfl⟩ rfl (by decide) rfl rfl ?_
        refine gi_goto (tgt := 2) h dR_empty_21 rfl ?_
        rw [pt_aset, aset_eq, aset_aset]
        exact ih (j + 1) _ (by omega) (by omega) (by omega) (fun i hi1 hi2 => by
          by_cases hij : i = j
          · rw [hij, uF_eq]
          · rw [uF_ne _ _ hij]; exact hf i hi1 (by omega))
  refine gi_iconst (pc' := 1) h ⟨dR_empty_0, rfl⟩ ?_
  refine go_istore_n (L' := [.ref k, .int (iI (0))]) (pc' := 2) h ⟨dR_empty_1, rfl⟩ (by decide) rfl rfl ?_
  have h0 := loop (ln (k + 1) + 1) 0 (S.1 (k + 1)) (by omega) (by omega) (by omega) (fun i h1 h2 => by omega)
  rw [aset_self] at h0
  exact h0
set_option maxRecDepth 4000 in
theorem cR_sum (X : XT) {S : Sg} {k : Nat} (hk : kd k = 3) : Ctr X 0 yR_sum bR_sum 3 (some .int) [.ref k] (mk S) (PI (fun r S' => r = sumI (S.1 (k + 1)) (ln (k + 1)) ∧ S' = S)) 0 0 := by
  refine Ctr.ofS (by decide) rfl (Nat.le_of_ble_eq_true rfl) (fun F h hF hE => ?_)
  have hk1 := (row_ok hk).1
  have hn := (row_ok hk).2
  have loop : ∀ (n : Nat) (j : Int), (ln (k + 1) : Int) < j + n → 0 ≤ j → j ≤ (ln (k + 1) : Int) → Go F 3 (mk S) 0 0 4 [.ref k, .int (iI (sumI (S.1 (k + 1)) j)), .int (iI j)] [] := by
    intro n
    induction n with
    | zero => intro j h1 h2 h3; exfalso; omega
    | succ n ih =>
      intro j h1 h2 h3
      refine go_iload_n (pc' := 5) h ⟨dR_sum_4, rfl⟩ rfl ?_
      refine go_aload_n (pc' := 6) h ⟨dR_sum_5, rfl⟩ rfl ?_
      refine gs_get (v := .ref (k + 1)) (pc' := 9) h ⟨dR_sum_6, rfl⟩ fgR_13 hk (by decide) (rfl) ?_
      refine gs_alen (pc' := 10) h ⟨dR_sum_9, rfl⟩ hk1 ?_
      refine gi_icmp_ge (tgt := 28) (pc' := 13) h dR_sum_10 rfl rfl (by omega) (fun c10 => ?_) (fun c10 => ?_)
      · refine go_iload_n (pc' := 29) h ⟨dR_sum_28, rfl⟩ rfl ?_
        exact gs_iret h hE dR_sum_29 (⟨by rw [show j = (ln (k + 1) : Int) by omega], rfl⟩)
      · refine go_iload_n (pc' := 14) h ⟨dR_sum_13, rfl⟩ rfl ?_
        refine go_aload_n (pc' := 15) h ⟨dR_sum_14, rfl⟩ rfl ?_
        refine gs_get (v := .ref (k + 1)) (pc' := 18) h ⟨dR_sum_15, rfl⟩ fgR_13 hk (by decide) (rfl) ?_
        refine go_iload_n (pc' := 19) h ⟨dR_sum_18, rfl⟩ rfl ?_
        refine gs_iald (pc' := 20) h ⟨dR_sum_19, rfl⟩ hk1 (by omega) ?_
        refine gi_iadd (pc' := 21) h ⟨dR_sum_20, rfl⟩ ?_
        refine go_istore_n (L' := [.ref k, .int (iI ((sumI (S.1 (k + 1)) j) + (S.1 (k + 1) j))), .int (iI (j))]) (pc' := 22) h ⟨dR_sum_21, rfl⟩ (by decide) rfl rfl ?_
        refine gi_iinc (L' := [.ref k, .int (iI ((sumI (S.1 (k + 1)) j) + (S.1 (k + 1) j))), .int (iI (j + 1))]) (pc' := 25) h ⟨dR_sum_22, rfl⟩ rfl (by decide) rfl rfl ?_
        refine gi_goto (tgt := 4) h dR_sum_25 rfl ?_
        rw [← sumI_s _ h2]
        exact ih (j + 1) (by omega) (by omega) (by omega)
  refine gi_iconst (pc' := 1) h ⟨dR_sum_0, rfl⟩ ?_
  refine go_istore_n (L' := [.ref k, .int (iI (0))]) (pc' := 2) h ⟨dR_sum_1, rfl⟩ (by decide) rfl rfl ?_
  refine gi_iconst (pc' := 3) h ⟨dR_sum_2, rfl⟩ ?_
  refine go_istore_n (L' := [.ref k, .int (iI (0)), .int (iI (0))]) (pc' := 4) h ⟨dR_sum_3, rfl⟩ (by decide) rfl rfl ?_
  exact loop (ln (k + 1) + 1) 0 (by omega) (by omega) (by omega)
theorem rcopy_mk {S : Sg} {k o : Nat} (hk1 : kd (k + 1) = 9) {f : Int → Int} {z : Int} (hz : z = min (ln (k + 1) : Int) (S.1 o 1)) (h : ∀ j : Int, 0 ≤ j → j < (ln (k + 1) : Int) → f j = atV (S.1 (o + 1)) (ln (o + 1)) j) : mk (pt (aset S (k + 1) f) k 1 z) = mk (rcopy S k o) := by
  subst hz
  exact rfin hk1 _ h
set_option maxRecDepth 4000 in
theorem cR_copy (X : XT) {S : Sg} {k o : Nat} (hk : kd k = 3) (ho : kd o = 3) (hko : k ≠ o) (hw : rw1 S o) : Ctr X 1 yR_copy bR_copy 3 none [.ref k, .ref o] (mk S) (PV (fun S' => S' = rcopy S k o)) 0 0 := by
  refine Ctr.ofS (by decide) rfl (Nat.le_of_ble_eq_true rfl) (fun F h hF hE => ?_)
  have hk1 := (row_ok hk).1
  have hn := (row_ok hk).2
  have hko2 : o ≠ k + 1 := fun e => by rw [e, hk1] at ho; omega
  have hon := (row_ok ho).2
  obtain ⟨hw1, hw2⟩ := id hw
  have loop : ∀ (n : Nat) (j : Int) (f : Int → Int), (ln (k + 1) : Int) < j + n → 0 ≤ j → j ≤ (ln (k + 1) : Int) → (∀ i : Int, 0 ≤ i → i < j → f i = atV (S.1 (o + 1)) (ln (o + 1)) i) → Go F 3 (mk (aset S (k + 1) f)) 0 0 2 [.ref k, .ref o, .int (iI j)] [] := by
    intro n
    induction n with
    | zero => intro j f h1 h2 h3; exfalso; omega
    | succ n ih =>
      intro j f h1 h2 h3 hf
      refine go_iload_n (pc' := 3) h ⟨dR_copy_2, rfl⟩ rfl ?_
      refine go_aload_n (pc' := 4) h ⟨dR_copy_3, rfl⟩ rfl ?_
      refine gs_get (v := .ref (k + 1)) (pc' := 7) h ⟨dR_copy_4, rfl⟩ fgR_13 hk (by decide) (rfl) ?_
      refine gs_alen (pc' := 8) h ⟨dR_copy_7, rfl⟩ hk1 ?_
      refine gi_icmp_ge (tgt := 28) (pc' := 11) h dR_copy_8 rfl rfl (by omega) (fun c8 => ?_) (fun c8 => ?_)
      · refine go_aload_n (pc' := 29) h ⟨dR_copy_28, rfl⟩ rfl ?_
        refine go_aload_n (pc' := 30) h ⟨dR_copy_29, rfl⟩ rfl ?_
        refine gs_get (v := .ref (k + 1)) (pc' := 33) h ⟨dR_copy_30, rfl⟩ fgR_13 hk (by decide) (rfl) ?_
        refine gs_alen (pc' := 34) h ⟨dR_copy_33, rfl⟩ hk1 ?_
        refine go_aload_n (pc' := 35) h ⟨dR_copy_34, rfl⟩ rfl ?_
        refine gs_get (v := .int (iI (S.1 o 1))) (pc' := 38) h ⟨dR_copy_35, rfl⟩ fgR_19 ho (by decide) (by rw [aset_ne _ _ hko2]; rfl) ?_
        refine gd_callSI (pc' := 41) (As := [.int (iI ((ln (k + 1) : Int))), .int (iI (S.1 o 1))]) (st := [.ref k]) h hF ⟨dR_copy_38, rfl⟩ kvR_35 (cK_min X (by omega)) (by omega) rfl (Nat.le_of_ble_eq_true rfl) rfl ?_
        refine gd_putI (i := 1) (pc' := 44) h ⟨dR_copy_41, rfl⟩ fpR_19 hk (by decide) rfl rfl ?_
        rw [rcopy_mk hk1 rfl (fun i h5 h6 => hf i h5 (by omega))]
        exact gs_vret h hE dR_copy_44 (rfl)
      · refine go_aload_n (pc' := 12) h ⟨dR_copy_11, rfl⟩ rfl ?_
        refine gs_get (v := .ref (k + 1)) (pc' := 15) h ⟨dR_copy_12, rfl⟩ fgR_13 hk (by decide) (rfl) ?_
        refine go_iload_n (pc' := 16) h ⟨dR_copy_15, rfl⟩ rfl ?_
        refine go_aload_n (pc' := 17) h ⟨dR_copy_16, rfl⟩ rfl ?_
        refine go_iload_n (pc' := 18) h ⟨dR_copy_17, rfl⟩ rfl ?_
        refine gd_callVI (pc' := 21) (As := [.int (iI (j))]) (st := [.int (iI (j)), .ref (k + 1)]) h hF ⟨dR_copy_18, rfl⟩ kvR_31 (cR_at X ho (by omega)) (by omega) ho (by decide) ⟨_, _, rfl⟩ rfl (Nat.le_of_ble_eq_true rfl) rfl ?_
        rw [aset_ne S f (show o + 1 ≠ k + 1 by omega)]
        refine gs_iast (pc' := 22) h ⟨dR_copy_21, rfl⟩ hk1 (by omega) ?_
        refine gi_iinc (L' := [.ref k, .ref o, .int (iI (j + 1))]) (pc' := 25) h ⟨dR_copy_22, rfl⟩ rfl (by decide) rfl rfl ?_
        refine gi_goto (tgt := 2) h dR_copy_25 rfl ?_
        rw [pt_aset, aset_eq, aset_aset]
        exact ih (j + 1) _ (by omega) (by omega) (by omega) (fun i hi1 hi2 => by
          by_cases hij : i = j
          · rw [hij, uF_eq]
          · rw [uF_ne _ _ hij]; exact hf i hi1 (by omega))
  refine gi_iconst (pc' := 1) h ⟨dR_copy_0, rfl⟩ ?_
  refine go_istore_n (L' := [.ref k, .ref o, .int (iI (0))]) (pc' := 2) h ⟨dR_copy_1, rfl⟩ (by decide) rfl rfl ?_
  have h0 := loop (ln (k + 1) + 1) 0 (S.1 (k + 1)) (by omega) (by omega) (by omega) (fun i h1 h2 => by omega)
  rw [aset_self] at h0
  exact h0
set_option maxRecDepth 4000 in
theorem cR_remove (X : XT) {S : Sg} {k : Nat} (hk : kd k = 3) {i : Int} (hi : -2147483648 ≤ i ∧ i ≤ 2147483647) (hw : rw1 S k) : Ctr X 1 yR_remove bR_remove 3 none [.ref k, .int (iI (i))] (mk S) (PV (fun S' => S' = rremove S k i)) 0 0 := by
  refine Ctr.ofS (by decide) rfl (Nat.le_of_ble_eq_true rfl) (fun F h hF hE => ?_)
  have hk1 := (row_ok hk).1
  have hn := (row_ok hk).2
  obtain ⟨hw1, hw2⟩ := id hw
  have loop : ∀ (n : Nat) (j : Int) (f : Int → Int), 0 ≤ i → i < S.1 k 1 → S.1 k 1 < j + n → i ≤ j → j ≤ S.1 k 1 - 1 → (∀ m : Int, 0 ≤ m → m < (ln (k + 1) : Int) → f m = if m < i then S.1 (k + 1) m else if m < j then S.1 (k + 1) (m + 1) else S.1 (k + 1) m) → Go F 3 (mk (aset (pt S k 1 (S.1 k 1 - 1)) (k + 1) f)) 0 0 25 [.ref k, .int (iI i), .int (iI j)] [] := by
    intro n
    induction n with
    | zero => intro j f g1 g2 h1 h2 h3; exfalso; omega
    | succ n ih =>
      intro j f g1 g2 h1 h2 h3 hf
      refine go_iload_n (pc' := 26) h ⟨dR_remove_25, rfl⟩ rfl ?_
      refine go_aload_n (pc' := 27) h ⟨dR_remove_26, rfl⟩ rfl ?_
      refine gs_get (v := .int (iI (S.1 k 1 - 1))) (pc' := 30) h ⟨dR_remove_27, rfl⟩ fgR_19 hk (by decide) (by rw [fl3, aset_ne _ _ (by omega), pt_at]) ?_
      refine gi_icmp_ge (tgt := 51) (pc' := 33) h dR_remove_30 rfl rfl (by omega) (fun c30 => ?_) (fun c30 => ?_)
      · refine go_aload_n (pc' := 52) h ⟨dR_remove_51, rfl⟩ rfl ?_
        refine go_aload_n (pc' := 53) h ⟨dR_remove_52, rfl⟩ rfl ?_
        refine gs_get (v := .int (iI (S.1 k 1 - 1))) (pc' := 56) h ⟨dR_remove_53, rfl⟩ fgR_19 hk (by decide) (by rw [fl3, aset_ne _ _ (by omega), pt_at]) ?_
        refine gi_iconst (pc' := 57) h ⟨dR_remove_56, rfl⟩ ?_
        refine gd_callVV (pc' := 60) (As := [.int (iI (S.1 k 1 - 1)), .int (iI (0))]) (st := []) h hF ⟨dR_remove_57, rfl⟩ kvR_27 (cR_put X hk (by omega)) (by omega) hk (by decide) ⟨_, _, rfl⟩ rfl (Nat.le_of_ble_eq_true rfl) rfl ?_
        rw [rput_in _ (by omega), pt_aset, aset_eq, aset_aset, ← pt_sw _ _ _ _ (by omega), rfin hk1 _ (g := cutF (S.1 (k + 1)) i (S.1 k 1)) (fun m m1 m2 => by
          unfold cutF
          by_cases hm : m = S.1 k 1 - 1
          · rw [hm, uF_eq, if_neg (by omega), if_neg (by omega), if_pos rfl]
          · rw [uF_ne _ _ hm, hf m m1 m2]
            by_cases hm2 : m < i
            · rw [if_pos hm2, if_pos hm2]
            · rw [if_neg hm2, if_neg hm2]
              by_cases hm3 : m < j
              · rw [if_pos hm3, if_pos (by omega)]
              · rw [if_neg hm3, if_neg (by omega), if_neg hm])]
        exact gs_vret h hE dR_remove_60 (by rw [rremove, if_pos ⟨g1, g2⟩])
      · refine go_aload_n (pc' := 34) h ⟨dR_remove_33, rfl⟩ rfl ?_
        refine go_iload_n (pc' := 35) h ⟨dR_remove_34, rfl⟩ rfl ?_
        refine go_aload_n (pc' := 36) h ⟨dR_remove_35, rfl⟩ rfl ?_
        refine go_iload_n (pc' := 37) h ⟨dR_remove_36, rfl⟩ rfl ?_
        refine gi_iconst (pc' := 38) h ⟨dR_remove_37, rfl⟩ ?_
        refine gi_iadd (pc' := 39) h ⟨dR_remove_38, rfl⟩ ?_
        refine gd_callVI (pc' := 42) (As := [.int (iI (j + 1))]) (st := [.int (iI (j)), .ref k]) h hF ⟨dR_remove_39, rfl⟩ kvR_31 (cR_at X hk (by omega)) (by omega) hk (by decide) ⟨_, _, rfl⟩ rfl (Nat.le_of_ble_eq_true rfl) rfl ?_
        rw [aset_eq, atV_in (by omega)]
        refine gd_callVV (pc' := 45) (As := [.int (iI (j)), .int (iI (f (j + 1)))]) (st := []) h hF ⟨dR_remove_42, rfl⟩ kvR_27 (cR_put X hk (by omega)) (by omega) hk (by decide) ⟨_, _, rfl⟩ rfl (Nat.le_of_ble_eq_true rfl) rfl ?_
        rw [rput_in _ (by omega), pt_aset, aset_eq, aset_aset]
        refine gi_iinc (L' := [.ref k, .int (iI (i)), .int (iI (j + 1))]) (pc' := 48) h ⟨dR_remove_45, rfl⟩ rfl (by decide) rfl rfl ?_
        refine gi_goto (tgt := 25) h dR_remove_48 rfl ?_
        exact ih (j + 1) _ g1 g2 (by omega) (by omega) (by omega) (fun m m1 m2 => by
          by_cases hm : m = j
          · rw [hm, uF_eq, hf (j + 1) (by omega) (by omega), if_neg (by omega), if_neg (by omega), if_neg (by omega), if_pos (by omega)]
          · rw [uF_ne _ _ hm, hf m m1 m2]
            by_cases hm2 : m < i
            · rw [if_pos hm2, if_pos hm2]
            · rw [if_neg hm2, if_neg hm2]
              by_cases hm3 : m < j
              · rw [if_pos hm3, if_pos (by omega)]
              · rw [if_neg hm3, if_neg (by omega)])
  refine go_iload_n (pc' := 1) h ⟨dR_remove_0, rfl⟩ rfl ?_
  refine gi_if_lt (tgt := 12) (pc' := 4) h dR_remove_1 rfl rfl (by omega) (fun c1 => ?_) (fun c1 => ?_)
  · exact gs_vret h hE dR_remove_12 (by rw [rremove, if_neg (by omega)])
  · refine go_iload_n (pc' := 5) h ⟨dR_remove_4, rfl⟩ rfl ?_
    refine go_aload_n (pc' := 6) h ⟨dR_remove_5, rfl⟩ rfl ?_
    refine gs_get (v := .int (iI (S.1 k 1))) (pc' := 9) h ⟨dR_remove_6, rfl⟩ fgR_19 hk (by decide) (rfl) ?_
    refine gi_icmp_lt (tgt := 13) (pc' := 12) h dR_remove_9 rfl rfl (by omega) (fun c9 => ?_) (fun c9 => ?_)
    · refine go_aload_n (pc' := 14) h ⟨dR_remove_13, rfl⟩ rfl ?_
      refine go_dup (pc' := 15) h ⟨dR_remove_14, rfl⟩ rfl ?_
      refine gs_get (v := .int (iI (S.1 k 1))) (pc' := 18) h ⟨dR_remove_15, rfl⟩ fgR_19 hk (by decide) (rfl) ?_
      refine gi_iconst (pc' := 19) h ⟨dR_remove_18, rfl⟩ ?_
      refine gi_isub (pc' := 20) h ⟨dR_remove_19, rfl⟩ ?_
      refine gd_putI (i := 1) (pc' := 23) h ⟨dR_remove_20, rfl⟩ fpR_19 hk (by decide) rfl rfl ?_
      refine go_iload_n (pc' := 24) h ⟨dR_remove_23, rfl⟩ rfl ?_
      refine go_istore_n (L' := [.ref k, .int (iI (i)), .int (iI (i))]) (pc' := 25) h ⟨dR_remove_24, rfl⟩ (by decide) rfl rfl ?_
      have h0 := loop (S.1 k 1 - i + 1).toNat i (S.1 (k + 1)) (by omega) (by omega) (by omega) (by omega) (by omega) (fun m m1 m2 => by
        by_cases hm : m < i
        · rw [if_pos hm]
        · rw [if_neg hm, if_neg hm])
      rw [← pt_sw _ _ _ _ (show k + 1 ≠ k by omega), aset_self] at h0
      exact h0
    · exact gs_vret h hE dR_remove_12 (by rw [rremove, if_neg (by omega)])
set_option maxRecDepth 4000 in
theorem cR_insert (X : XT) {S : Sg} {k : Nat} (hk : kd k = 3) {i x : Int} (hi : -2147483648 ≤ i ∧ i ≤ 2147483647) (hw : rw1 S k) : Ctr X 1 yR_insert bR_insert 4 none [.ref k, .int (iI (i)), .int (iI (x))] (mk S) (PV (fun S' => S' = rinsert S k i x)) 0 0 := by
  refine Ctr.ofS (by decide) rfl (Nat.le_of_ble_eq_true rfl) (fun F h hF hE => ?_)
  have hk1 := (row_ok hk).1
  have hn := (row_ok hk).2
  obtain ⟨hw1, hw2⟩ := id hw
  have loop : ∀ (n : Nat) (j : Int) (f : Int → Int), 0 ≤ i → i ≤ S.1 k 1 → S.1 k 1 < (ln (k + 1) : Int) → j - i < n → i ≤ j → j ≤ S.1 k 1 → (∀ m : Int, 0 ≤ m → m < (ln (k + 1) : Int) → f m = if m ≤ j then S.1 (k + 1) m else if m ≤ S.1 k 1 then S.1 (k + 1) (m - 1) else S.1 (k + 1) m) → Go F 4 (mk (aset S (k + 1) f)) 0 0 25 [.ref k, .int (iI i), .int (iI x), .int (iI j)] [] := by
    intro n
    induction n with
    | zero => intro j f g1 g2 g3 h1 h2 h3; exfalso; omega
    | succ n ih =>
      intro j f g1 g2 g3 h1 h2 h3 hf
      refine go_iload_n (pc' := 26) h ⟨dR_insert_25, rfl⟩ rfl ?_
      refine go_iload_n (pc' := 27) h ⟨dR_insert_26, rfl⟩ rfl ?_
      refine gi_icmp_le (tgt := 48) (pc' := 30) h dR_insert_27 rfl rfl (by omega) (fun c27 => ?_) (fun c27 => ?_)
      · refine go_aload_n (pc' := 49) h ⟨dR_insert_48, rfl⟩ rfl ?_
        refine go_iload_n (pc' := 50) h ⟨dR_insert_49, rfl⟩ rfl ?_
        refine go_iload_n (pc' := 51) h ⟨dR_insert_50, rfl⟩ rfl ?_
        refine gd_callVV (pc' := 54) (As := [.int (iI (i)), .int (iI (x))]) (st := []) h hF ⟨dR_insert_51, rfl⟩ kvR_27 (cR_put X hk (by omega)) (by omega) hk (by decide) ⟨_, _, rfl⟩ rfl (Nat.le_of_ble_eq_true rfl) rfl ?_
        rw [rput_in _ (by omega), pt_aset, aset_eq, aset_aset]
        refine go_aload_n (pc' := 55) h ⟨dR_insert_54, rfl⟩ rfl ?_
        refine go_dup (pc' := 56) h ⟨dR_insert_55, rfl⟩ rfl ?_
        refine gs_get (v := .int (iI (S.1 k 1))) (pc' := 59) h ⟨dR_insert_56, rfl⟩ fgR_19 hk (by decide) (by rw [fl3, aset_ne _ _ (by omega)]) ?_
        refine gi_iconst (pc' := 60) h ⟨dR_insert_59, rfl⟩ ?_
        refine gi_iadd (pc' := 61) h ⟨dR_insert_60, rfl⟩ ?_
        refine gd_putI (i := 1) (pc' := 64) h ⟨dR_insert_61, rfl⟩ fpR_19 hk (by decide) rfl rfl ?_
        rw [rfin hk1 _ (g := insF (S.1 (k + 1)) i (S.1 k 1) x) (fun m m1 m2 => by
          unfold insF
          by_cases hm : m = i
          · rw [hm, uF_eq, if_neg (by omega), if_pos rfl]
          · rw [uF_ne _ _ hm, hf m m1 m2]
            by_cases hm2 : m ≤ j
            · rw [if_pos hm2, if_pos (by omega)]
            · rw [if_neg hm2, if_neg (show ¬ m < i by omega), if_neg hm])]
        exact gs_vret h hE dR_insert_64 (by rw [rinsert, if_pos ⟨g3, g1, g2⟩])
      · refine go_aload_n (pc' := 31) h ⟨dR_insert_30, rfl⟩ rfl ?_
        refine go_iload_n (pc' := 32) h ⟨dR_insert_31, rfl⟩ rfl ?_
        refine go_aload_n (pc' := 33) h ⟨dR_insert_32, rfl⟩ rfl ?_
        refine go_iload_n (pc' := 34) h ⟨dR_insert_33, rfl⟩ rfl ?_
        refine gi_iconst (pc' := 35) h ⟨dR_insert_34, rfl⟩ ?_
        refine gi_isub (pc' := 36) h ⟨dR_insert_35, rfl⟩ ?_
        refine gd_callVI (pc' := 39) (As := [.int (iI (j - 1))]) (st := [.int (iI (j)), .ref k]) h hF ⟨dR_insert_36, rfl⟩ kvR_31 (cR_at X hk (by omega)) (by omega) hk (by decide) ⟨_, _, rfl⟩ rfl (Nat.le_of_ble_eq_true rfl) rfl ?_
        rw [aset_eq, atV_in (by omega)]
        refine gd_callVV (pc' := 42) (As := [.int (iI (j)), .int (iI (f (j - 1)))]) (st := []) h hF ⟨dR_insert_39, rfl⟩ kvR_27 (cR_put X hk (by omega)) (by omega) hk (by decide) ⟨_, _, rfl⟩ rfl (Nat.le_of_ble_eq_true rfl) rfl ?_
        rw [rput_in _ (by omega), pt_aset, aset_eq, aset_aset]
        refine gi_iinc (L' := [.ref k, .int (iI (i)), .int (iI (x)), .int (iI (j + (-1)))]) (pc' := 45) h ⟨dR_insert_42, rfl⟩ rfl (by decide) rfl rfl ?_
        refine gi_goto (tgt := 25) h dR_insert_45 rfl ?_
        exact ih (j + -1) _ g1 g2 g3 (by omega) (by omega) (by omega) (fun m m1 m2 => by
          by_cases hm : m = j
          · rw [hm, uF_eq, hf (j - 1) (by omega) (by omega), if_pos (by omega), if_neg (by omega), if_pos (by omega)]
          · rw [uF_ne _ _ hm, hf m m1 m2]
            by_cases hm2 : m ≤ j
            · rw [if_pos hm2, if_pos (show m ≤ j + -1 by omega)]
            · rw [if_neg hm2, if_neg (show ¬ m ≤ j + -1 by omega)])
  refine go_aload_n (pc' := 1) h ⟨dR_insert_0, rfl⟩ rfl ?_
  refine gd_callVI (pc' := 4) (As := []) (st := []) h hF ⟨dR_insert_1, rfl⟩ kvR_23 (cR_isFull X hk hw) (by omega) hk (by decide) ⟨_, _, rfl⟩ rfl (Nat.le_of_ble_eq_true rfl) rfl ?_
  refine gi_if_ne (tgt := 19) (pc' := 7) h dR_insert_4 rfl rfl (by split <;> omega) (fun c4 => ?_) (fun c4 => ?_)
  · exact gs_vret h hE dR_insert_19 (by rw [rinsert, if_neg (by first | omega | (split at c4 <;> omega))])
  · refine go_iload_n (pc' := 8) h ⟨dR_insert_7, rfl⟩ rfl ?_
    refine gi_if_lt (tgt := 19) (pc' := 11) h dR_insert_8 rfl rfl (by omega) (fun c8 => ?_) (fun c8 => ?_)
    · exact gs_vret h hE dR_insert_19 (by rw [rinsert, if_neg (by first | omega | (split at c4 <;> omega))])
    · refine go_iload_n (pc' := 12) h ⟨dR_insert_11, rfl⟩ rfl ?_
      refine go_aload_n (pc' := 13) h ⟨dR_insert_12, rfl⟩ rfl ?_
      refine gs_get (v := .int (iI (S.1 k 1))) (pc' := 16) h ⟨dR_insert_13, rfl⟩ fgR_19 hk (by decide) (rfl) ?_
      refine gi_icmp_le (tgt := 20) (pc' := 19) h dR_insert_16 rfl rfl (by omega) (fun c16 => ?_) (fun c16 => ?_)
      · refine go_aload_n (pc' := 21) h ⟨dR_insert_20, rfl⟩ rfl ?_
        refine gs_get (v := .int (iI (S.1 k 1))) (pc' := 24) h ⟨dR_insert_21, rfl⟩ fgR_19 hk (by decide) (rfl) ?_
        refine go_istore_n (L' := [.ref k, .int (iI (i)), .int (iI (x)), .int (iI (S.1 k 1))]) (pc' := 25) h ⟨dR_insert_24, rfl⟩ (by decide) rfl rfl ?_
        have hz : S.1 k 1 < (ln (k + 1) : Int) := by split at c4 <;> omega
        have h0 := loop (S.1 k 1 - i + 1).toNat (S.1 k 1) (S.1 (k + 1)) (by omega) (by omega) hz (by omega) (by omega) (by omega) (fun m m1 m2 => by
          by_cases hm : m ≤ S.1 k 1
          · rw [if_pos hm]
          · rw [if_neg hm, if_neg hm])
        rw [aset_self] at h0
        exact h0
      · exact gs_vret h hE dR_insert_19 (by rw [rinsert, if_neg (by first | omega | (split at c4 <;> omega))])
end
section
/-! what stays when a row changes; the rows stay well -/
theorem b0 {P : Prop} [Decidable P] (h : (if P then (1 : Int) else 0) = 0) : ¬ P := fun hp => by rw [if_pos hp] at h; cases h
theorem b1 {P : Prop} [Decidable P] (h : ¬ (if P then (1 : Int) else 0) = 0) : P := by
  by_cases hp : P
  · exact hp
  · rw [if_neg hp] at h; exact absurd rfl h
theorem rpush_ne (S : Sg) {k a : Nat} (x : Int) (h1 : a ≠ k) (h2 : a ≠ k + 1) : (rpush S k x).1 a = S.1 a := by
  unfold rpush
  by_cases h : S.1 k 1 < (ln (k + 1) : Int)
  · rw [if_pos h, pt_ne _ _ _ h1, pt_ne _ _ _ h2]
  · rw [if_neg h]
theorem rempty_ne (S : Sg) {k a : Nat} (h1 : a ≠ k) (h2 : a ≠ k + 1) : (rempty S k).1 a = S.1 a := by
  unfold rempty
  rw [pt_ne _ _ _ h1, aset_ne _ _ h2]
theorem rcopy_ne (S : Sg) {k o a : Nat} (h1 : a ≠ k) (h2 : a ≠ k + 1) : (rcopy S k o).1 a = S.1 a := by
  unfold rcopy
  rw [pt_ne _ _ _ h1, aset_ne _ _ h2]
theorem rremove_ne (S : Sg) {k a : Nat} (i : Int) (h1 : a ≠ k) (h2 : a ≠ k + 1) : (rremove S k i).1 a = S.1 a := by
  unfold rremove
  by_cases h : 0 ≤ i ∧ i < S.1 k 1
  · rw [if_pos h, pt_ne _ _ _ h1, aset_ne _ _ h2]
  · rw [if_neg h]
theorem rinsert_ne (S : Sg) {k a : Nat} (i x : Int) (h1 : a ≠ k) (h2 : a ≠ k + 1) : (rinsert S k i x).1 a = S.1 a := by
  unfold rinsert
  by_cases h : S.1 k 1 < (ln (k + 1) : Int) ∧ 0 ≤ i ∧ i ≤ S.1 k 1
  · rw [if_pos h, pt_ne _ _ _ h1, aset_ne _ _ h2]
  · rw [if_neg h]
theorem rput_2 (S : Sg) (k : Nat) (i x : Int) : (rput S k i x).2 = S.2 := by unfold rput; split <;> rfl
theorem rpush_2 (S : Sg) (k : Nat) (x : Int) : (rpush S k x).2 = S.2 := by unfold rpush; split <;> rfl
theorem rempty_2 (S : Sg) (k : Nat) : (rempty S k).2 = S.2 := rfl
theorem rcopy_2 (S : Sg) (k o : Nat) : (rcopy S k o).2 = S.2 := rfl
theorem rremove_2 (S : Sg) (k : Nat) (i : Int) : (rremove S k i).2 = S.2 := by unfold rremove; split <;> rfl
theorem rinsert_2 (S : Sg) (k : Nat) (i x : Int) : (rinsert S k i x).2 = S.2 := by unfold rinsert; split <;> rfl
theorem aset_2 (S : Sg) (k : Nat) (f : Int → Int) : (aset S k f).2 = S.2 := rfl
theorem pt_2 (S : Sg) (k : Nat) (i x : Int) : (pt S k i x).2 = S.2 := rfl
/-- every row's size is in its room -/
def Wr (S : Sg) : Prop := ∀ k, kd k = 3 → rw1 S k
theorem Wr.pt {S : Sg} (h : Wr S) {a : Nat} (ha : kd a ≠ 3) (i x : Int) : Wr (pt S a i x) := fun k hk => by
  have : k ≠ a := fun e => ha (e ▸ hk)
  unfold rw1
  rw [pt_ne _ _ _ this]
  exact h k hk
theorem Wr.aset {S : Sg} (h : Wr S) {a : Nat} (ha : kd a ≠ 3) (f : Int → Int) : Wr (aset S a f) := fun k hk => by
  have : k ≠ a := fun e => ha (e ▸ hk)
  unfold rw1
  rw [aset_ne _ _ this]
  exact h k hk
theorem Wr.ptT {S : Sg} (h : Wr S) (a : Nat) (x : Int64) : Wr (ptT S a x) := h
theorem Wr.ptP {S : Sg} (h : Wr S) (P : Nat × Nat) : Wr (ptP S P) := h
theorem Wr.one {S S' : Sg} (h : Wr S) {k : Nat} (hk : kd k = 3) (hn : ∀ a, a ≠ k → a ≠ k + 1 → S'.1 a = S.1 a) (h1 : rw1 S' k) : Wr S' := fun a ha => by
  by_cases e : a = k
  · rw [e]; exact h1
  · have e2 : a ≠ k + 1 := fun z => by rw [z, (row_ok hk).1] at ha; omega
    unfold rw1
    rw [hn a e e2]
    exact h a ha
theorem Wr.put {S : Sg} (h : Wr S) {k : Nat} (hk : kd k = 3) (i x : Int) : Wr (rput S k i x) := h.one hk (fun a _ h2 => rput_ne _ _ _ h2) (by unfold rw1; rw [rput_ne _ _ _ (by omega)]; exact h k hk)
theorem Wr.push {S : Sg} (h : Wr S) {k : Nat} (hk : kd k = 3) (x : Int) : Wr (rpush S k x) := h.one hk (fun a h1 h2 => rpush_ne _ _ h1 h2) (by
  have h0 := h k hk
  unfold rw1 rpush at *
  by_cases hz : S.1 k 1 < (ln (k + 1) : Int)
  · rw [if_pos hz, pt_at]; omega
  · rw [if_neg hz]; exact h0)
theorem Wr.empty {S : Sg} (h : Wr S) {k : Nat} (hk : kd k = 3) : Wr (rempty S k) := h.one hk (fun a h1 h2 => rempty_ne _ h1 h2) (by unfold rw1 rempty; rw [pt_at]; omega)
theorem Wr.copy {S : Sg} (h : Wr S) {k o : Nat} (hk : kd k = 3) (ho : kd o = 3) : Wr (rcopy S k o) := h.one hk (fun a h1 h2 => rcopy_ne _ h1 h2) (by have := h o ho; unfold rw1 rcopy at *; rw [pt_at]; omega)
theorem Wr.remove {S : Sg} (h : Wr S) {k : Nat} (hk : kd k = 3) (i : Int) : Wr (rremove S k i) := h.one hk (fun a h1 h2 => rremove_ne _ _ h1 h2) (by
  have h0 := h k hk
  unfold rw1 rremove at *
  by_cases hz : 0 ≤ i ∧ i < S.1 k 1
  · rw [if_pos hz, pt_at]; omega
  · rw [if_neg hz]; exact h0)
theorem Wr.insert {S : Sg} (h : Wr S) {k : Nat} (hk : kd k = 3) (i x : Int) : Wr (rinsert S k i x) := h.one hk (fun a h1 h2 => rinsert_ne _ _ _ h1 h2) (by
  have h0 := h k hk
  unfold rw1 rinsert at *
  by_cases hz : S.1 k 1 < (ln (k + 1) : Int) ∧ 0 ≤ i ∧ i ≤ S.1 k 1
  · rw [if_pos hz, pt_at]; omega
  · rw [if_neg hz]; exact h0)
theorem cR_atn (X : XT) {S : Sg} {k : Nat} (hk : kd k = 3) {n : Nat} (hln : ln (k + 1) = n) {i : Int} (hi : -2147483648 ≤ i ∧ i ≤ 2147483647) : Ctr X 0 yR_at bR_at 2 (some .int) [.ref k, .int (iI i)] (mk S) (PI (fun r S' => r = atV (S.1 (k + 1)) n i ∧ S' = S)) 0 0 := by
  subst hln; exact cR_at X hk hi
theorem cR_ati (X : XT) {S : Sg} {k : Nat} (hk : kd k = 3) {n : Nat} (hln : ln (k + 1) = n) {i : Int} (hi : 0 ≤ i ∧ i < (n : Int)) : Ctr X 0 yR_at bR_at 2 (some .int) [.ref k, .int (iI i)] (mk S) (PI (fun r S' => r = S.1 (k + 1) i ∧ S' = S)) 0 0 := by
  subst hln
  have hn := (row_ok hk).2
  rw [← atV_in (f := S.1 (k + 1)) hi]
  exact cR_at X hk (by omega)
/-! Scene, at 30 -/
def sbegin (S : Sg) : Sg := rempty (rempty (rempty (rempty (rempty S 31) 33) 35) 37) 39
def scopy (S : Sg) (k o : Nat) : Sg := rcopy (rcopy (rcopy (rcopy (rcopy S (k + 1) (o + 1)) (k + 3) (o + 3)) (k + 5) (o + 5)) (k + 7) (o + 7)) (k + 9) (o + 9)
def wF (g : Int → Int) (lo j y : Int) : Int → Int := fun m => if lo ≤ m ∧ m < j then max 0 (min 9999 (g m + y)) else g m
theorem wF_s (g : Int → Int) {lo j : Int} (y : Int) (h : lo ≤ j) : uF (wF g lo j y) j (max 0 (min 9999 (g j + y))) = wF g lo (j + 1) y := by
  funext m
  unfold uF wF
  by_cases hm : m = j
  · rw [if_pos hm, if_pos (by omega), hm]
  · rw [if_neg hm]
    by_cases h2 : lo ≤ m ∧ m < j
    · rw [if_pos h2, if_pos (by omega)]
    · rw [if_neg h2, if_neg (by omega)]
theorem wF_0 (g : Int → Int) (lo y : Int) : wF g lo lo y = g := by
  funext m
  unfold wF
  rw [if_neg (by omega)]
theorem wF_j (g : Int → Int) (lo j y : Int) : wF g lo j y j = g j := by
  unfold wF
  rw [if_neg (by omega)]
def swear (S : Sg) (a b y : Int) : Sg := aset S (if a < b then 36 else 38) (wF (S.1 (if a < b then 36 else 38)) (min a b) (max a b) y)
set_option maxRecDepth 4000 in
theorem cS_begin (X : XT) {S : Sg} (hW : Wr S) : Ctr X 1 yS_begin bS_begin 1 none [.ref 30] (mk S) (PV (fun S' => S' = sbegin S)) 0 0 := by
  refine Ctr.ofS (by decide) rfl (Nat.le_of_ble_eq_true rfl) (fun F h hF hE => ?_)
  refine go_aload_n (pc' := 1) h ⟨dS_begin_0, rfl⟩ rfl ?_
  refine gs_get (v := .ref 31) (pc' := 4) h ⟨dS_begin_1, rfl⟩ fgS_14 rfl (by decide) (rfl) ?_
  refine gd_callVV (E := rempty S 31) (pc' := 7) (As := []) (st := []) h hF ⟨dS_begin_4, rfl⟩ kvS_32 (cR_empty X rfl) (by omega) rfl (by decide) ⟨_, _, rfl⟩ rfl (Nat.le_of_ble_eq_true rfl) rfl ?_
  refine go_aload_n (pc' := 8) h ⟨dS_begin_7, rfl⟩ rfl ?_
  refine gs_get (v := .ref 33) (pc' := 11) h ⟨dS_begin_8, rfl⟩ fgS_20 rfl (by decide) (rfl) ?_
  refine gd_callVV (E := rempty (rempty S 31) 33) (pc' := 14) (As := []) (st := []) h hF ⟨dS_begin_11, rfl⟩ kvS_32 (cR_empty X rfl) (by omega) rfl (by decide) ⟨_, _, rfl⟩ rfl (Nat.le_of_ble_eq_true rfl) rfl ?_
  refine go_aload_n (pc' := 15) h ⟨dS_begin_14, rfl⟩ rfl ?_
  refine gs_get (v := .ref 35) (pc' := 18) h ⟨dS_begin_15, rfl⟩ fgS_23 rfl (by decide) (rfl) ?_
  refine gd_callVV (E := rempty (rempty (rempty S 31) 33) 35) (pc' := 21) (As := []) (st := []) h hF ⟨dS_begin_18, rfl⟩ kvS_32 (cR_empty X rfl) (by omega) rfl (by decide) ⟨_, _, rfl⟩ rfl (Nat.le_of_ble_eq_true rfl) rfl ?_
  refine go_aload_n (pc' := 22) h ⟨dS_begin_21, rfl⟩ rfl ?_
  refine gs_get (v := .ref 37) (pc' := 25) h ⟨dS_begin_22, rfl⟩ fgS_26 rfl (by decide) (rfl) ?_
  refine gd_callVV (E := rempty (rempty (rempty (rempty S 31) 33) 35) 37) (pc' := 28) (As := []) (st := []) h hF ⟨dS_begin_25, rfl⟩ kvS_32 (cR_empty X rfl) (by omega) rfl (by decide) ⟨_, _, rfl⟩ rfl (Nat.le_of_ble_eq_true rfl) rfl ?_
  refine go_aload_n (pc' := 29) h ⟨dS_begin_28, rfl⟩ rfl ?_
  refine gs_get (v := .ref 39) (pc' := 32) h ⟨dS_begin_29, rfl⟩ fgS_29 rfl (by decide) (rfl) ?_
  refine gd_callVV (E := rempty (rempty (rempty (rempty (rempty S 31) 33) 35) 37) 39) (pc' := 35) (As := []) (st := []) h hF ⟨dS_begin_32, rfl⟩ kvS_32 (cR_empty X rfl) (by omega) rfl (by decide) ⟨_, _, rfl⟩ rfl (Nat.le_of_ble_eq_true rfl) rfl ?_
  exact gs_vret h hE dS_begin_35 (rfl)
set_option maxRecDepth 4000 in
theorem cS_staying (X : XT) {S : Sg} : Ctr X 1 yS_staying bS_staying 1 (some .int) [.ref 30] (mk S) (PI (fun r S' => r = sumI (S.1 34) 4 ∧ S' = S)) 0 0 := by
  refine Ctr.ofS (by decide) rfl (Nat.le_of_ble_eq_true rfl) (fun F h hF hE => ?_)
  refine go_aload_n (pc' := 1) h ⟨dS_staying_0, rfl⟩ rfl ?_
  refine gs_get (v := .ref 33) (pc' := 4) h ⟨dS_staying_1, rfl⟩ fgS_20 rfl (by decide) (rfl) ?_
  refine gd_callVI (e := sumI (S.1 34) 4) (E := S) (pc' := 7) (As := []) (st := []) h hF ⟨dS_staying_4, rfl⟩ kvS_43 (cR_sum X rfl) (by omega) rfl (by decide) ⟨_, _, rfl⟩ rfl (Nat.le_of_ble_eq_true rfl) rfl ?_
  exact gs_iret h hE dS_staying_7 (⟨rfl, rfl⟩)
set_option maxRecDepth 4000 in
theorem cS_hasStayed (X : XT) {S : Sg} {t : Int} (ht : 0 ≤ t ∧ t < 4) (hs : S.1 34 t = 0 ∨ S.1 34 t = 1) : Ctr X 1 yS_hasStayed bS_hasStayed 2 (some .boolean) [.ref 30, .int (iI (t))] (mk S) (PI (fun r S' => r = (if S.1 34 t = 1 then 1 else 0) ∧ S' = S)) 0 0 := by
  refine Ctr.ofS (by decide) rfl (Nat.le_of_ble_eq_true rfl) (fun F h hF hE => ?_)
  refine go_aload_n (pc' := 1) h ⟨dS_hasStayed_0, rfl⟩ rfl ?_
  refine gs_get (v := .ref 33) (pc' := 4) h ⟨dS_hasStayed_1, rfl⟩ fgS_20 rfl (by decide) (rfl) ?_
  refine go_iload_n (pc' := 5) h ⟨dS_hasStayed_4, rfl⟩ rfl ?_
  refine gd_callVI (e := S.1 34 t) (E := S) (pc' := 8) (As := [.int (iI (t))]) (st := []) h hF ⟨dS_hasStayed_5, rfl⟩ kvS_39 (cR_ati X (n := 4) rfl rfl (by omega)) (by omega) rfl (by decide) ⟨_, _, rfl⟩ rfl (Nat.le_of_ble_eq_true rfl) rfl ?_
  refine gi_if_eq (tgt := 15) (pc' := 11) h dS_hasStayed_8 rfl rfl (by omega) (fun c8 => ?_) (fun c8 => ?_)
  · refine gi_iconst (pc' := 16) h ⟨dS_hasStayed_15, rfl⟩ ?_
    exact gs_zret h hE dS_hasStayed_16 (by omega) (⟨by split <;> omega, rfl⟩)
  · refine gi_iconst (pc' := 12) h ⟨dS_hasStayed_11, rfl⟩ ?_
    refine gi_goto (tgt := 16) h dS_hasStayed_12 rfl ?_
    exact gs_zret h hE dS_hasStayed_16 (by omega) (⟨by split <;> omega, rfl⟩)
set_option maxRecDepth 4000 in
theorem cS_wearWay (X : XT) {S : Sg} {a b y : Int} (ha : 0 ≤ a ∧ a ≤ 100) (hb : 0 ≤ b ∧ b ≤ 100) (hy : -1 ≤ y ∧ y ≤ 1) (h1 : ∀ m : Int, 0 ≤ m → m < 100 → 0 ≤ S.1 36 m ∧ S.1 36 m ≤ 9999) (h2 : ∀ m : Int, 0 ≤ m → m < 100 → 0 ≤ S.1 38 m ∧ S.1 38 m ≤ 9999) : Ctr X 1 yS_wearWay bS_wearWay 7 none [.ref 30, .int (iI (a)), .int (iI (b)), .int (iI (y))] (mk S) (PV (fun S' => S' = swear S a b y)) 0 0 := by
  refine Ctr.ofS (by decide) rfl (Nat.le_of_ble_eq_true rfl) (fun F h hF hE => ?_)
  have loop : ∀ (k : Nat) (hk : kd k = 3) (hln : ln (k + 1) = 100) (lo hi : Int), 0 ≤ lo → hi ≤ 100 → (∀ m : Int, 0 ≤ m → m < 100 → 0 ≤ S.1 (k + 1) m ∧ S.1 (k + 1) m ≤ 9999) → Fend F (PV fun S' => S' = aset S (k + 1) (wF (S.1 (k + 1)) lo hi y)) 0 0 → ∀ (n : Nat) (j : Int), hi - j < n → lo ≤ j → j ≤ hi → Go F 7 (mk (aset S (k + 1) (wF (S.1 (k + 1)) lo j y))) 0 0 32 [.ref 30, .int (iI a), .int (iI b), .int (iI y), .ref k, .int (iI hi), .int (iI j)] [] := by
    intro k hk hln lo hi g1 g2 g3 hE n
    induction n with
    | zero => intro j g4 g5 g6; exfalso; omega
    | succ n ih =>
      intro j g4 g5 g6
      refine go_iload (pc' := 34) h ⟨dS_wearWay_32, rfl⟩ rfl ?_
      refine go_iload (pc' := 36) h ⟨dS_wearWay_34, rfl⟩ rfl ?_
      refine gi_icmp_ge (tgt := 71) (pc' := 39) h dS_wearWay_36 rfl rfl (by omega) (fun c36 => ?_) (fun c36 => ?_)
      · exact gs_vret h hE dS_wearWay_71 (by rw [show j = hi by omega])
      · refine go_aload (pc' := 41) h ⟨dS_wearWay_39, rfl⟩ rfl ?_
        refine go_iload (pc' := 43) h ⟨dS_wearWay_41, rfl⟩ rfl ?_
        refine gi_iconst (pc' := 44) h ⟨dS_wearWay_43, rfl⟩ ?_
        refine gi_sipush (pc' := 47) h ⟨dS_wearWay_44, rfl⟩ rfl ?_
        refine go_aload (pc' := 49) h ⟨dS_wearWay_47, rfl⟩ rfl ?_
        refine go_iload (pc' := 51) h ⟨dS_wearWay_49, rfl⟩ rfl ?_
        refine gd_callVI (e := (aset S (k + 1) (wF (S.1 (k + 1)) lo j y)).1 (k + 1) j) (E := aset S (k + 1) (wF (S.1 (k + 1)) lo j y)) (pc' := 54) (As := [.int (iI (j))]) (st := [.int (iI (9999)), .int (iI (0)), .int (iI (j)), .ref k]) h hF ⟨dS_wearWay_51, rfl⟩ kvS_39 (cR_ati X (n := 100) hk hln (by omega)) (by omega) hk (by decide) ⟨_, _, rfl⟩ rfl (Nat.le_of_ble_eq_true rfl) rfl ?_
        rw [aset_eq, wF_j]
        have g7 := g3 j (by omega) (by omega)
        refine go_iload_n (pc' := 55) h ⟨dS_wearWay_54, rfl⟩ rfl ?_
        refine gi_iadd (pc' := 56) h ⟨dS_wearWay_55, rfl⟩ ?_
        refine gd_callSI (e := min 9999 ((S.1 (k + 1) j) + y)) (E := aset S (k + 1) (wF (S.1 (k + 1)) lo j y)) (pc' := 59) (As := [.int (iI (9999)), .int (iI ((S.1 (k + 1) j) + y))]) (st := [.int (iI (0)), .int (iI (j)), .ref k]) h hF ⟨dS_wearWay_56, rfl⟩ kvS_53 (cK_min X (by omega)) (by omega) rfl (Nat.le_of_ble_eq_true rfl) rfl ?_
        refine gd_callSI (e := max 0 (min 9999 ((S.1 (k + 1) j) + y))) (E := aset S (k + 1) (wF (S.1 (k + 1)) lo j y)) (pc' := 62) (As := [.int (iI (0)), .int (iI (min 9999 ((S.1 (k + 1) j) + y)))]) (st := [.int (iI (j)), .ref k]) h hF ⟨dS_wearWay_59, rfl⟩ kvS_47 (cK_max X (by omega)) (by omega) rfl (Nat.le_of_ble_eq_true rfl) rfl ?_
        refine gd_callVV (E := rput (aset S (k + 1) (wF (S.1 (k + 1)) lo j y)) k j (max 0 (min 9999 ((S.1 (k + 1) j) + y)))) (pc' := 65) (As := [.int (iI (j)), .int (iI (max 0 (min 9999 ((S.1 (k + 1) j) + y))))]) (st := []) h hF ⟨dS_wearWay_62, rfl⟩ kvS_56 (cR_put X hk (by omega)) (by omega) hk (by decide) ⟨_, _, rfl⟩ rfl (Nat.le_of_ble_eq_true rfl) rfl ?_
        refine gi_iinc (L' := [.ref 30, .int (iI (a)), .int (iI (b)), .int (iI (y)), .ref k, .int (iI (hi)), .int (iI (j + 1))]) (pc' := 68) h ⟨dS_wearWay_65, rfl⟩ rfl (by decide) rfl rfl ?_
        refine gi_goto (tgt := 32) h dS_wearWay_68 rfl ?_
        rw [rput_in _ (by omega), pt_aset, aset_eq, aset_aset, wF_s _ _ (by omega)]
        exact ih (j + 1) (by omega) (by omega) (by omega)
  refine go_iload_n (pc' := 1) h ⟨dS_wearWay_0, rfl⟩ rfl ?_
  refine go_iload_n (pc' := 2) h ⟨dS_wearWay_1, rfl⟩ rfl ?_
  refine gi_icmp_ge (tgt := 12) (pc' := 5) h dS_wearWay_2 rfl rfl (by omega) (fun c2 => ?_) (fun c2 => ?_)
  · refine go_aload_n (pc' := 13) h ⟨dS_wearWay_12, rfl⟩ rfl ?_
    refine gs_get (v := .ref 37) (pc' := 16) h ⟨dS_wearWay_13, rfl⟩ fgS_26 rfl (by decide) (rfl) ?_
    refine go_astore (L' := [.ref 30, .int (iI (a)), .int (iI (b)), .int (iI (y)), .ref 37]) (pc' := 18) h ⟨dS_wearWay_16, rfl⟩ (by decide) rfl rfl ?_
    refine go_iload_n (pc' := 19) h ⟨dS_wearWay_18, rfl⟩ rfl ?_
    refine go_iload_n (pc' := 20) h ⟨dS_wearWay_19, rfl⟩ rfl ?_
    refine gd_callSI (e := max a b) (E := S) (pc' := 23) (As := [.int (iI (a)), .int (iI (b))]) (st := []) h hF ⟨dS_wearWay_20, rfl⟩ kvS_47 (cK_max X (by omega)) (by omega) rfl (Nat.le_of_ble_eq_true rfl) rfl ?_
    refine go_istore (L' := [.ref 30, .int (iI (a)), .int (iI (b)), .int (iI (y)), .ref 37, .int (iI (max a b))]) (pc' := 25) h ⟨dS_wearWay_23, rfl⟩ (by decide) rfl rfl ?_
    refine go_iload_n (pc' := 26) h ⟨dS_wearWay_25, rfl⟩ rfl ?_
    refine go_iload_n (pc' := 27) h ⟨dS_wearWay_26, rfl⟩ rfl ?_
    refine gd_callSI (e := min a b) (E := S) (pc' := 30) (As := [.int (iI (a)), .int (iI (b))]) (st := []) h hF ⟨dS_wearWay_27, rfl⟩ kvS_53 (cK_min X (by omega)) (by omega) rfl (Nat.le_of_ble_eq_true rfl) rfl ?_
    refine go_istore (L' := [.ref 30, .int (iI (a)), .int (iI (b)), .int (iI (y)), .ref 37, .int (iI (max a b)), .int (iI (min a b))]) (pc' := 32) h ⟨dS_wearWay_30, rfl⟩ (by decide) rfl rfl ?_
    have h0 := loop 37 rfl rfl (min a b) (max a b) (by omega) (by omega) h2 (by unfold swear at hE; rw [if_neg (by omega)] at hE; exact hE) 101 (min a b) (by omega) (by omega) (by omega)
    rw [wF_0, aset_self] at h0
    exact h0
  · refine go_aload_n (pc' := 6) h ⟨dS_wearWay_5, rfl⟩ rfl ?_
    refine gs_get (v := .ref 35) (pc' := 9) h ⟨dS_wearWay_6, rfl⟩ fgS_23 rfl (by decide) (rfl) ?_
    refine gi_goto (tgt := 16) h dS_wearWay_9 rfl ?_
    refine go_astore (L' := [.ref 30, .int (iI (a)), .int (iI (b)), .int (iI (y)), .ref 35]) (pc' := 18) h ⟨dS_wearWay_16, rfl⟩ (by decide) rfl rfl ?_
    refine go_iload_n (pc' := 19) h ⟨dS_wearWay_18, rfl⟩ rfl ?_
    refine go_iload_n (pc' := 20) h ⟨dS_wearWay_19, rfl⟩ rfl ?_
    refine gd_callSI (e := max a b) (E := S) (pc' := 23) (As := [.int (iI (a)), .int (iI (b))]) (st := []) h hF ⟨dS_wearWay_20, rfl⟩ kvS_47 (cK_max X (by omega)) (by omega) rfl (Nat.le_of_ble_eq_true rfl) rfl ?_
    refine go_istore (L' := [.ref 30, .int (iI (a)), .int (iI (b)), .int (iI (y)), .ref 35, .int (iI (max a b))]) (pc' := 25) h ⟨dS_wearWay_23, rfl⟩ (by decide) rfl rfl ?_
    refine go_iload_n (pc' := 26) h ⟨dS_wearWay_25, rfl⟩ rfl ?_
    refine go_iload_n (pc' := 27) h ⟨dS_wearWay_26, rfl⟩ rfl ?_
    refine gd_callSI (e := min a b) (E := S) (pc' := 30) (As := [.int (iI (a)), .int (iI (b))]) (st := []) h hF ⟨dS_wearWay_27, rfl⟩ kvS_53 (cK_min X (by omega)) (by omega) rfl (Nat.le_of_ble_eq_true rfl) rfl ?_
    refine go_istore (L' := [.ref 30, .int (iI (a)), .int (iI (b)), .int (iI (y)), .ref 35, .int (iI (max a b)), .int (iI (min a b))]) (pc' := 32) h ⟨dS_wearWay_30, rfl⟩ (by decide) rfl rfl ?_
    have h0 := loop 35 rfl rfl (min a b) (max a b) (by omega) (by omega) h1 (by unfold swear at hE; rw [if_pos (by omega)] at hE; exact hE) 101 (min a b) (by omega) (by omega) (by omega)
    rw [wF_0, aset_self] at h0
    exact h0
set_option maxRecDepth 4000 in
theorem cS_firstThingAt (X : XT) {S : Sg} {x : Int} (hx : -2147483648 ≤ x ∧ x ≤ 2147483647) (hz : 0 ≤ S.1 39 1 ∧ S.1 39 1 ≤ 6) (hf : ∀ i : Int, 0 ≤ i → i < S.1 39 1 → 0 ≤ S.1 40 i ∧ S.1 40 i ≤ 100) : Ctr X 1 yS_firstThingAt bS_firstThingAt 3 (some .int) [.ref 30, .int (iI (x))] (mk S) (PI (fun r S' => S' = S ∧ ((r = -1 ∧ ∀ i : Int, 0 ≤ i → i < S.1 39 1 → S.1 40 i ≠ x) ∨ (0 ≤ r ∧ r < S.1 39 1 ∧ S.1 40 r = x ∧ ∀ i : Int, 0 ≤ i → i < r → S.1 40 i ≠ x)))) 0 0 := by
  refine Ctr.ofS (by decide) rfl (Nat.le_of_ble_eq_true rfl) (fun F h hF hE => ?_)
  have loop : ∀ (n : Nat) (j : Int), 7 < j + n → 0 ≤ j → j ≤ S.1 39 1 → (∀ i : Int, 0 ≤ i → i < j → S.1 40 i ≠ x) → Go F 3 (mk S) 0 0 2 [.ref 30, .int (iI x), .int (iI j)] [] := by
    intro n
    induction n with
    | zero => intro j g4 g5 g6; exfalso; omega
    | succ n ih =>
      intro j g4 g5 g6 g7
      refine go_iload_n (pc' := 3) h ⟨dS_firstThingAt_2, rfl⟩ rfl ?_
      refine go_aload_n (pc' := 4) h ⟨dS_firstThingAt_3, rfl⟩ rfl ?_
      refine gs_get (v := .ref 39) (pc' := 7) h ⟨dS_firstThingAt_4, rfl⟩ fgS_29 rfl (by decide) (rfl) ?_
      refine gd_callVI (e := S.1 39 1) (E := S) (pc' := 10) (As := []) (st := [.int (iI (j))]) h hF ⟨dS_firstThingAt_7, rfl⟩ kvS_60 (cR_size X rfl) (by omega) rfl (by decide) ⟨_, _, rfl⟩ rfl (Nat.le_of_ble_eq_true rfl) rfl ?_
      refine gi_icmp_ge (tgt := 33) (pc' := 13) h dS_firstThingAt_10 rfl rfl (by omega) (fun c10 => ?_) (fun c10 => ?_)
      · refine gi_iconst (pc' := 34) h ⟨dS_firstThingAt_33, rfl⟩ ?_
        exact gs_iret h hE dS_firstThingAt_34 (⟨rfl, Or.inl ⟨rfl, fun i i1 i2 => g7 i i1 (by omega)⟩⟩)
      · refine go_aload_n (pc' := 14) h ⟨dS_firstThingAt_13, rfl⟩ rfl ?_
        refine gs_get (v := .ref 39) (pc' := 17) h ⟨dS_firstThingAt_14, rfl⟩ fgS_29 rfl (by decide) (rfl) ?_
        refine go_iload_n (pc' := 18) h ⟨dS_firstThingAt_17, rfl⟩ rfl ?_
        refine gd_callVI (e := S.1 40 j) (E := S) (pc' := 21) (As := [.int (iI (j))]) (st := []) h hF ⟨dS_firstThingAt_18, rfl⟩ kvS_39 (cR_ati X (n := 6) rfl rfl (by omega)) (by omega) rfl (by decide) ⟨_, _, rfl⟩ rfl (Nat.le_of_ble_eq_true rfl) rfl ?_
        have g8 := hf j (by omega) (by omega)
        refine go_iload_n (pc' := 22) h ⟨dS_firstThingAt_21, rfl⟩ rfl ?_
        refine gi_icmp_ne (tgt := 27) (pc' := 25) h dS_firstThingAt_22 rfl rfl (by omega) (fun c22 => ?_) (fun c22 => ?_)
        · refine gi_iinc (L' := [.ref 30, .int (iI (x)), .int (iI (j + 1))]) (pc' := 30) h ⟨dS_firstThingAt_27, rfl⟩ rfl (by decide) rfl rfl ?_
          refine gi_goto (tgt := 2) h dS_firstThingAt_30 rfl ?_
          exact ih (j + 1) (by omega) (by omega) (by omega) (fun i i1 i2 => by
            by_cases hi : i = j
            · rw [hi]; assumption
            · exact g7 i i1 (by omega))
        · refine go_iload_n (pc' := 26) h ⟨dS_firstThingAt_25, rfl⟩ rfl ?_
          exact gs_iret h hE dS_firstThingAt_26 (⟨rfl, Or.inr ⟨by omega, by omega, by omega, g7⟩⟩)
  refine gi_iconst (pc' := 1) h ⟨dS_firstThingAt_0, rfl⟩ ?_
  refine go_istore_n (L' := [.ref 30, .int (iI (x)), .int (iI (0))]) (pc' := 2) h ⟨dS_firstThingAt_1, rfl⟩ (by decide) rfl rfl ?_
  exact loop 8 0 (by omega) (by omega) (by omega) (fun i i1 i2 => by omega)
set_option maxRecDepth 4000 in
theorem cS_thingsBetween (X : XT) {S : Sg} {x y : Int} (hx : -2147483648 ≤ x ∧ x ≤ 2147483647 ∧ -2147483648 ≤ y ∧ y ≤ 2147483647) (hz : 0 ≤ S.1 39 1 ∧ S.1 39 1 ≤ 6) (hf : ∀ i : Int, 0 ≤ i → i < S.1 39 1 → 0 ≤ S.1 40 i ∧ S.1 40 i ≤ 100) : Ctr X 1 yS_thingsBetween bS_thingsBetween 5 (some .int) [.ref 30, .int (iI (x)), .int (iI (y))] (mk S) (PI (fun r S' => r = sumI (fun i => if x ≤ S.1 40 i ∧ S.1 40 i < y then 1 else 0) (S.1 39 1) ∧ S' = S)) 0 0 := by
  refine Ctr.ofS (by decide) rfl (Nat.le_of_ble_eq_true rfl) (fun F h hF hE => ?_)
  have loop : ∀ (n : Nat) (j : Int), 7 < j + n → 0 ≤ j → j ≤ S.1 39 1 → Go F 5 (mk S) 0 0 5 [.ref 30, .int (iI x), .int (iI y), .int (iI (sumI (fun i => if x ≤ S.1 40 i ∧ S.1 40 i < y then 1 else 0) j)), .int (iI j)] [] := by
    intro n
    induction n with
    | zero => intro j g4 g5 g6; exfalso; omega
    | succ n ih =>
      intro j g4 g5 g6
      have g9 := sumI_s (fun i => if x ≤ S.1 40 i ∧ S.1 40 i < y then 1 else 0) g5
      refine go_iload (pc' := 7) h ⟨dS_thingsBetween_5, rfl⟩ rfl ?_
      refine go_aload_n (pc' := 8) h ⟨dS_thingsBetween_7, rfl⟩ rfl ?_
      refine gs_get (v := .ref 39) (pc' := 11) h ⟨dS_thingsBetween_8, rfl⟩ fgS_29 rfl (by decide) (rfl) ?_
      refine gd_callVI (e := S.1 39 1) (E := S) (pc' := 14) (As := []) (st := [.int (iI (j))]) h hF ⟨dS_thingsBetween_11, rfl⟩ kvS_60 (cR_size X rfl) (by omega) rfl (by decide) ⟨_, _, rfl⟩ rfl (Nat.le_of_ble_eq_true rfl) rfl ?_
      refine gi_icmp_ge (tgt := 52) (pc' := 17) h dS_thingsBetween_14 rfl rfl (by omega) (fun c14 => ?_) (fun c14 => ?_)
      · refine go_iload_n (pc' := 53) h ⟨dS_thingsBetween_52, rfl⟩ rfl ?_
        exact gs_iret h hE dS_thingsBetween_53 (⟨by rw [show j = S.1 39 1 by omega], rfl⟩)
      · refine go_aload_n (pc' := 18) h ⟨dS_thingsBetween_17, rfl⟩ rfl ?_
        refine gs_get (v := .ref 39) (pc' := 21) h ⟨dS_thingsBetween_18, rfl⟩ fgS_29 rfl (by decide) (rfl) ?_
        refine go_iload (pc' := 23) h ⟨dS_thingsBetween_21, rfl⟩ rfl ?_
        refine gd_callVI (e := S.1 40 j) (E := S) (pc' := 26) (As := [.int (iI (j))]) (st := []) h hF ⟨dS_thingsBetween_23, rfl⟩ kvS_39 (cR_ati X (n := 6) rfl rfl (by omega)) (by omega) rfl (by decide) ⟨_, _, rfl⟩ rfl (Nat.le_of_ble_eq_true rfl) rfl ?_
        have g8 := hf j (by omega) (by omega)
        refine go_iload_n (pc' := 27) h ⟨dS_thingsBetween_26, rfl⟩ rfl ?_
        refine gi_icmp_lt (tgt := 46) (pc' := 30) h dS_thingsBetween_27 rfl rfl (by omega) (fun c27 => ?_) (fun c27 => ?_)
        · refine gi_iinc (L' := [.ref 30, .int (iI (x)), .int (iI (y)), .int (iI (sumI (fun i => if x ≤ S.1 40 i ∧ S.1 40 i < y then 1 else 0) j)), .int (iI (j + 1))]) (pc' := 49) h ⟨dS_thingsBetween_46, rfl⟩ rfl (by decide) rfl rfl ?_
          refine gi_goto (tgt := 5) h dS_thingsBetween_49 rfl ?_
          have g10 := ih (j + 1) (by omega) (by omega) (by omega)
          rw [g9, if_neg (by omega), Int.add_zero] at g10
          exact g10
        · refine go_aload_n (pc' := 31) h ⟨dS_thingsBetween_30, rfl⟩ rfl ?_
          refine gs_get (v := .ref 39) (pc' := 34) h ⟨dS_thingsBetween_31, rfl⟩ fgS_29 rfl (by decide) (rfl) ?_
          refine go_iload (pc' := 36) h ⟨dS_thingsBetween_34, rfl⟩ rfl ?_
          refine gd_callVI (e := S.1 40 j) (E := S) (pc' := 39) (As := [.int (iI (j))]) (st := []) h hF ⟨dS_thingsBetween_36, rfl⟩ kvS_39 (cR_ati X (n := 6) rfl rfl (by omega)) (by omega) rfl (by decide) ⟨_, _, rfl⟩ rfl (Nat.le_of_ble_eq_true rfl) rfl ?_
          refine go_iload_n (pc' := 40) h ⟨dS_thingsBetween_39, rfl⟩ rfl ?_
          refine gi_icmp_ge (tgt := 46) (pc' := 43) h dS_thingsBetween_40 rfl rfl (by omega) (fun c40 => ?_) (fun c40 => ?_)
          · refine gi_iinc (L' := [.ref 30, .int (iI (x)), .int (iI (y)), .int (iI (sumI (fun i => if x ≤ S.1 40 i ∧ S.1 40 i < y then 1 else 0) j)), .int (iI (j + 1))]) (pc' := 49) h ⟨dS_thingsBetween_46, rfl⟩ rfl (by decide) rfl rfl ?_
            refine gi_goto (tgt := 5) h dS_thingsBetween_49 rfl ?_
            have g10 := ih (j + 1) (by omega) (by omega) (by omega)
            rw [g9, if_neg (by omega), Int.add_zero] at g10
            exact g10
          · refine gi_iinc (L' := [.ref 30, .int (iI (x)), .int (iI (y)), .int (iI (sumI (fun i => if x ≤ S.1 40 i ∧ S.1 40 i < y then 1 else 0) j + 1)), .int (iI (j))]) (pc' := 46) h ⟨dS_thingsBetween_43, rfl⟩ rfl (by decide) rfl rfl ?_
            refine gi_iinc (L' := [.ref 30, .int (iI (x)), .int (iI (y)), .int (iI (sumI (fun i => if x ≤ S.1 40 i ∧ S.1 40 i < y then 1 else 0) j + 1)), .int (iI (j + 1))]) (pc' := 49) h ⟨dS_thingsBetween_46, rfl⟩ rfl (by decide) rfl rfl ?_
            refine gi_goto (tgt := 5) h dS_thingsBetween_49 rfl ?_
            have g10 := ih (j + 1) (by omega) (by omega) (by omega)
            rw [g9, if_pos (by omega)] at g10
            exact g10
  refine gi_iconst (pc' := 1) h ⟨dS_thingsBetween_0, rfl⟩ ?_
  refine go_istore_n (L' := [.ref 30, .int (iI (x)), .int (iI (y)), .int (iI (0))]) (pc' := 2) h ⟨dS_thingsBetween_1, rfl⟩ (by decide) rfl rfl ?_
  refine gi_iconst (pc' := 3) h ⟨dS_thingsBetween_2, rfl⟩ ?_
  refine go_istore (L' := [.ref 30, .int (iI (x)), .int (iI (y)), .int (iI (0)), .int (iI (0))]) (pc' := 5) h ⟨dS_thingsBetween_3, rfl⟩ (by decide) rfl rfl ?_
  exact loop 8 0 (by omega) (by omega) (by omega)
set_option maxRecDepth 4000 in
theorem cS_copy_41_30 (X : XT) {S : Sg} (hW : Wr S) : Ctr X 2 yS_copy bS_copy 2 none [.ref 41, .ref 30] (mk S) (PV (fun S' => S' = scopy S 41 30)) 0 0 := by
  refine Ctr.ofS (by decide) rfl (Nat.le_of_ble_eq_true rfl) (fun F h hF hE => ?_)
  refine go_aload_n (pc' := 1) h ⟨dS_copy_0, rfl⟩ rfl ?_
  refine gs_get (v := .ref 42) (pc' := 4) h ⟨dS_copy_1, rfl⟩ fgS_14 rfl (by decide) (rfl) ?_
  refine go_aload_n (pc' := 5) h ⟨dS_copy_4, rfl⟩ rfl ?_
  refine gs_get (v := .ref 31) (pc' := 8) h ⟨dS_copy_5, rfl⟩ fgS_14 rfl (by decide) (rfl) ?_
  refine gd_callVV (E := rcopy S 42 31) (pc' := 11) (As := [.ref 31]) (st := []) h hF ⟨dS_copy_8, rfl⟩ kvS_35 (cR_copy X rfl rfl (by decide) (hW 31 rfl)) (by omega) rfl (by decide) ⟨_, _, rfl⟩ rfl (Nat.le_of_ble_eq_true rfl) rfl ?_
  refine go_aload_n (pc' := 12) h ⟨dS_copy_11, rfl⟩ rfl ?_
  refine gs_get (v := .ref 44) (pc' := 15) h ⟨dS_copy_12, rfl⟩ fgS_20 rfl (by decide) (rfl) ?_
  refine go_aload_n (pc' := 16) h ⟨dS_copy_15, rfl⟩ rfl ?_
  refine gs_get (v := .ref 33) (pc' := 19) h ⟨dS_copy_16, rfl⟩ fgS_20 rfl (by decide) (rfl) ?_
  refine gd_callVV (E := rcopy (rcopy S 42 31) 44 33) (pc' := 22) (As := [.ref 33]) (st := []) h hF ⟨dS_copy_19, rfl⟩ kvS_35 (cR_copy X rfl rfl (by decide) ((hW.copy rfl rfl) 33 rfl)) (by omega) rfl (by decide) ⟨_, _, rfl⟩ rfl (Nat.le_of_ble_eq_true rfl) rfl ?_
  refine go_aload_n (pc' := 23) h ⟨dS_copy_22, rfl⟩ rfl ?_
  refine gs_get (v := .ref 46) (pc' := 26) h ⟨dS_copy_23, rfl⟩ fgS_23 rfl (by decide) (rfl) ?_
  refine go_aload_n (pc' := 27) h ⟨dS_copy_26, rfl⟩ rfl ?_
  refine gs_get (v := .ref 35) (pc' := 30) h ⟨dS_copy_27, rfl⟩ fgS_23 rfl (by decide) (rfl) ?_
  refine gd_callVV (E := rcopy (rcopy (rcopy S 42 31) 44 33) 46 35) (pc' := 33) (As := [.ref 35]) (st := []) h hF ⟨dS_copy_30, rfl⟩ kvS_35 (cR_copy X rfl rfl (by decide) (((hW.copy rfl rfl).copy rfl rfl) 35 rfl)) (by omega) rfl (by decide) ⟨_, _, rfl⟩ rfl (Nat.le_of_ble_eq_true rfl) rfl ?_
  refine go_aload_n (pc' := 34) h ⟨dS_copy_33, rfl⟩ rfl ?_
  refine gs_get (v := .ref 48) (pc' := 37) h ⟨dS_copy_34, rfl⟩ fgS_26 rfl (by decide) (rfl) ?_
  refine go_aload_n (pc' := 38) h ⟨dS_copy_37, rfl⟩ rfl ?_
  refine gs_get (v := .ref 37) (pc' := 41) h ⟨dS_copy_38, rfl⟩ fgS_26 rfl (by decide) (rfl) ?_
  refine gd_callVV (E := rcopy (rcopy (rcopy (rcopy S 42 31) 44 33) 46 35) 48 37) (pc' := 44) (As := [.ref 37]) (st := []) h hF ⟨dS_copy_41, rfl⟩ kvS_35 (cR_copy X rfl rfl (by decide) ((((hW.copy rfl rfl).copy rfl rfl).copy rfl rfl) 37 rfl)) (by omega) rfl (by decide) ⟨_, _, rfl⟩ rfl (Nat.le_of_ble_eq_true rfl) rfl ?_
  refine go_aload_n (pc' := 45) h ⟨dS_copy_44, rfl⟩ rfl ?_
  refine gs_get (v := .ref 50) (pc' := 48) h ⟨dS_copy_45, rfl⟩ fgS_29 rfl (by decide) (rfl) ?_
  refine go_aload_n (pc' := 49) h ⟨dS_copy_48, rfl⟩ rfl ?_
  refine gs_get (v := .ref 39) (pc' := 52) h ⟨dS_copy_49, rfl⟩ fgS_29 rfl (by decide) (rfl) ?_
  refine gd_callVV (E := rcopy (rcopy (rcopy (rcopy (rcopy S 42 31) 44 33) 46 35) 48 37) 50 39) (pc' := 55) (As := [.ref 39]) (st := []) h hF ⟨dS_copy_52, rfl⟩ kvS_35 (cR_copy X rfl rfl (by decide) (((((hW.copy rfl rfl).copy rfl rfl).copy rfl rfl).copy rfl rfl) 39 rfl)) (by omega) rfl (by decide) ⟨_, _, rfl⟩ rfl (Nat.le_of_ble_eq_true rfl) rfl ?_
  exact gs_vret h hE dS_copy_55 (rfl)
set_option maxRecDepth 4000 in
theorem cS_copy_52_30 (X : XT) {S : Sg} (hW : Wr S) : Ctr X 2 yS_copy bS_copy 2 none [.ref 52, .ref 30] (mk S) (PV (fun S' => S' = scopy S 52 30)) 0 0 := by
  refine Ctr.ofS (by decide) rfl (Nat.le_of_ble_eq_true rfl) (fun F h hF hE => ?_)
  refine go_aload_n (pc' := 1) h ⟨dS_copy_0, rfl⟩ rfl ?_
  refine gs_get (v := .ref 53) (pc' := 4) h ⟨dS_copy_1, rfl⟩ fgS_14 rfl (by decide) (rfl) ?_
  refine go_aload_n (pc' := 5) h ⟨dS_copy_4, rfl⟩ rfl ?_
  refine gs_get (v := .ref 31) (pc' := 8) h ⟨dS_copy_5, rfl⟩ fgS_14 rfl (by decide) (rfl) ?_
  refine gd_callVV (E := rcopy S 53 31) (pc' := 11) (As := [.ref 31]) (st := []) h hF ⟨dS_copy_8, rfl⟩ kvS_35 (cR_copy X rfl rfl (by decide) (hW 31 rfl)) (by omega) rfl (by decide) ⟨_, _, rfl⟩ rfl (Nat.le_of_ble_eq_true rfl) rfl ?_
  refine go_aload_n (pc' := 12) h ⟨dS_copy_11, rfl⟩ rfl ?_
  refine gs_get (v := .ref 55) (pc' := 15) h ⟨dS_copy_12, rfl⟩ fgS_20 rfl (by decide) (rfl) ?_
  refine go_aload_n (pc' := 16) h ⟨dS_copy_15, rfl⟩ rfl ?_
  refine gs_get (v := .ref 33) (pc' := 19) h ⟨dS_copy_16, rfl⟩ fgS_20 rfl (by decide) (rfl) ?_
  refine gd_callVV (E := rcopy (rcopy S 53 31) 55 33) (pc' := 22) (As := [.ref 33]) (st := []) h hF ⟨dS_copy_19, rfl⟩ kvS_35 (cR_copy X rfl rfl (by decide) ((hW.copy rfl rfl) 33 rfl)) (by omega) rfl (by decide) ⟨_, _, rfl⟩ rfl (Nat.le_of_ble_eq_true rfl) rfl ?_
  refine go_aload_n (pc' := 23) h ⟨dS_copy_22, rfl⟩ rfl ?_
  refine gs_get (v := .ref 57) (pc' := 26) h ⟨dS_copy_23, rfl⟩ fgS_23 rfl (by decide) (rfl) ?_
  refine go_aload_n (pc' := 27) h ⟨dS_copy_26, rfl⟩ rfl ?_
  refine gs_get (v := .ref 35) (pc' := 30) h ⟨dS_copy_27, rfl⟩ fgS_23 rfl (by decide) (rfl) ?_
  refine gd_callVV (E := rcopy (rcopy (rcopy S 53 31) 55 33) 57 35) (pc' := 33) (As := [.ref 35]) (st := []) h hF ⟨dS_copy_30, rfl⟩ kvS_35 (cR_copy X rfl rfl (by decide) (((hW.copy rfl rfl).copy rfl rfl) 35 rfl)) (by omega) rfl (by decide) ⟨_, _, rfl⟩ rfl (Nat.le_of_ble_eq_true rfl) rfl ?_
  refine go_aload_n (pc' := 34) h ⟨dS_copy_33, rfl⟩ rfl ?_
  refine gs_get (v := .ref 59) (pc' := 37) h ⟨dS_copy_34, rfl⟩ fgS_26 rfl (by decide) (rfl) ?_
  refine go_aload_n (pc' := 38) h ⟨dS_copy_37, rfl⟩ rfl ?_
  refine gs_get (v := .ref 37) (pc' := 41) h ⟨dS_copy_38, rfl⟩ fgS_26 rfl (by decide) (rfl) ?_
  refine gd_callVV (E := rcopy (rcopy (rcopy (rcopy S 53 31) 55 33) 57 35) 59 37) (pc' := 44) (As := [.ref 37]) (st := []) h hF ⟨dS_copy_41, rfl⟩ kvS_35 (cR_copy X rfl rfl (by decide) ((((hW.copy rfl rfl).copy rfl rfl).copy rfl rfl) 37 rfl)) (by omega) rfl (by decide) ⟨_, _, rfl⟩ rfl (Nat.le_of_ble_eq_true rfl) rfl ?_
  refine go_aload_n (pc' := 45) h ⟨dS_copy_44, rfl⟩ rfl ?_
  refine gs_get (v := .ref 61) (pc' := 48) h ⟨dS_copy_45, rfl⟩ fgS_29 rfl (by decide) (rfl) ?_
  refine go_aload_n (pc' := 49) h ⟨dS_copy_48, rfl⟩ rfl ?_
  refine gs_get (v := .ref 39) (pc' := 52) h ⟨dS_copy_49, rfl⟩ fgS_29 rfl (by decide) (rfl) ?_
  refine gd_callVV (E := rcopy (rcopy (rcopy (rcopy (rcopy S 53 31) 55 33) 57 35) 59 37) 61 39) (pc' := 55) (As := [.ref 39]) (st := []) h hF ⟨dS_copy_52, rfl⟩ kvS_35 (cR_copy X rfl rfl (by decide) (((((hW.copy rfl rfl).copy rfl rfl).copy rfl rfl).copy rfl rfl) 39 rfl)) (by omega) rfl (by decide) ⟨_, _, rfl⟩ rfl (Nat.le_of_ble_eq_true rfl) rfl ?_
  exact gs_vret h hE dS_copy_55 (rfl)
set_option maxRecDepth 4000 in
theorem cS_copy_30_41 (X : XT) {S : Sg} (hW : Wr S) : Ctr X 2 yS_copy bS_copy 2 none [.ref 30, .ref 41] (mk S) (PV (fun S' => S' = scopy S 30 41)) 0 0 := by
  refine Ctr.ofS (by decide) rfl (Nat.le_of_ble_eq_true rfl) (fun F h hF hE => ?_)
  refine go_aload_n (pc' := 1) h ⟨dS_copy_0, rfl⟩ rfl ?_
  refine gs_get (v := .ref 31) (pc' := 4) h ⟨dS_copy_1, rfl⟩ fgS_14 rfl (by decide) (rfl) ?_
  refine go_aload_n (pc' := 5) h ⟨dS_copy_4, rfl⟩ rfl ?_
  refine gs_get (v := .ref 42) (pc' := 8) h ⟨dS_copy_5, rfl⟩ fgS_14 rfl (by decide) (rfl) ?_
  refine gd_callVV (E := rcopy S 31 42) (pc' := 11) (As := [.ref 42]) (st := []) h hF ⟨dS_copy_8, rfl⟩ kvS_35 (cR_copy X rfl rfl (by decide) (hW 42 rfl)) (by omega) rfl (by decide) ⟨_, _, rfl⟩ rfl (Nat.le_of_ble_eq_true rfl) rfl ?_
  refine go_aload_n (pc' := 12) h ⟨dS_copy_11, rfl⟩ rfl ?_
  refine gs_get (v := .ref 33) (pc' := 15) h ⟨dS_copy_12, rfl⟩ fgS_20 rfl (by decide) (rfl) ?_
  refine go_aload_n (pc' := 16) h ⟨dS_copy_15, rfl⟩ rfl ?_
  refine gs_get (v := .ref 44) (pc' := 19) h ⟨dS_copy_16, rfl⟩ fgS_20 rfl (by decide) (rfl) ?_
  refine gd_callVV (E := rcopy (rcopy S 31 42) 33 44) (pc' := 22) (As := [.ref 44]) (st := []) h hF ⟨dS_copy_19, rfl⟩ kvS_35 (cR_copy X rfl rfl (by decide) ((hW.copy rfl rfl) 44 rfl)) (by omega) rfl (by decide) ⟨_, _, rfl⟩ rfl (Nat.le_of_ble_eq_true rfl) rfl ?_
  refine go_aload_n (pc' := 23) h ⟨dS_copy_22, rfl⟩ rfl ?_
  refine gs_get (v := .ref 35) (pc' := 26) h ⟨dS_copy_23, rfl⟩ fgS_23 rfl (by decide) (rfl) ?_
  refine go_aload_n (pc' := 27) h ⟨dS_copy_26, rfl⟩ rfl ?_
  refine gs_get (v := .ref 46) (pc' := 30) h ⟨dS_copy_27, rfl⟩ fgS_23 rfl (by decide) (rfl) ?_
  refine gd_callVV (E := rcopy (rcopy (rcopy S 31 42) 33 44) 35 46) (pc' := 33) (As := [.ref 46]) (st := []) h hF ⟨dS_copy_30, rfl⟩ kvS_35 (cR_copy X rfl rfl (by decide) (((hW.copy rfl rfl).copy rfl rfl) 46 rfl)) (by omega) rfl (by decide) ⟨_, _, rfl⟩ rfl (Nat.le_of_ble_eq_true rfl) rfl ?_
  refine go_aload_n (pc' := 34) h ⟨dS_copy_33, rfl⟩ rfl ?_
  refine gs_get (v := .ref 37) (pc' := 37) h ⟨dS_copy_34, rfl⟩ fgS_26 rfl (by decide) (rfl) ?_
  refine go_aload_n (pc' := 38) h ⟨dS_copy_37, rfl⟩ rfl ?_
  refine gs_get (v := .ref 48) (pc' := 41) h ⟨dS_copy_38, rfl⟩ fgS_26 rfl (by decide) (rfl) ?_
  refine gd_callVV (E := rcopy (rcopy (rcopy (rcopy S 31 42) 33 44) 35 46) 37 48) (pc' := 44) (As := [.ref 48]) (st := []) h hF ⟨dS_copy_41, rfl⟩ kvS_35 (cR_copy X rfl rfl (by decide) ((((hW.copy rfl rfl).copy rfl rfl).copy rfl rfl) 48 rfl)) (by omega) rfl (by decide) ⟨_, _, rfl⟩ rfl (Nat.le_of_ble_eq_true rfl) rfl ?_
  refine go_aload_n (pc' := 45) h ⟨dS_copy_44, rfl⟩ rfl ?_
  refine gs_get (v := .ref 39) (pc' := 48) h ⟨dS_copy_45, rfl⟩ fgS_29 rfl (by decide) (rfl) ?_
  refine go_aload_n (pc' := 49) h ⟨dS_copy_48, rfl⟩ rfl ?_
  refine gs_get (v := .ref 50) (pc' := 52) h ⟨dS_copy_49, rfl⟩ fgS_29 rfl (by decide) (rfl) ?_
  refine gd_callVV (E := rcopy (rcopy (rcopy (rcopy (rcopy S 31 42) 33 44) 35 46) 37 48) 39 50) (pc' := 55) (As := [.ref 50]) (st := []) h hF ⟨dS_copy_52, rfl⟩ kvS_35 (cR_copy X rfl rfl (by decide) (((((hW.copy rfl rfl).copy rfl rfl).copy rfl rfl).copy rfl rfl) 50 rfl)) (by omega) rfl (by decide) ⟨_, _, rfl⟩ rfl (Nat.le_of_ble_eq_true rfl) rfl ?_
  exact gs_vret h hE dS_copy_55 (rfl)
set_option maxRecDepth 4000 in
theorem cS_copy_30_52 (X : XT) {S : Sg} (hW : Wr S) : Ctr X 2 yS_copy bS_copy 2 none [.ref 30, .ref 52] (mk S) (PV (fun S' => S' = scopy S 30 52)) 0 0 := by
  refine Ctr.ofS (by decide) rfl (Nat.le_of_ble_eq_true rfl) (fun F h hF hE => ?_)
  refine go_aload_n (pc' := 1) h ⟨dS_copy_0, rfl⟩ rfl ?_
  refine gs_get (v := .ref 31) (pc' := 4) h ⟨dS_copy_1, rfl⟩ fgS_14 rfl (by decide) (rfl) ?_
  refine go_aload_n (pc' := 5) h ⟨dS_copy_4, rfl⟩ rfl ?_
  refine gs_get (v := .ref 53) (pc' := 8) h ⟨dS_copy_5, rfl⟩ fgS_14 rfl (by decide) (rfl) ?_
  refine gd_callVV (E := rcopy S 31 53) (pc' := 11) (As := [.ref 53]) (st := []) h hF ⟨dS_copy_8, rfl⟩ kvS_35 (cR_copy X rfl rfl (by decide) (hW 53 rfl)) (by omega) rfl (by decide) ⟨_, _, rfl⟩ rfl (Nat.le_of_ble_eq_true rfl) rfl ?_
  refine go_aload_n (pc' := 12) h ⟨dS_copy_11, rfl⟩ rfl ?_
  refine gs_get (v := .ref 33) (pc' := 15) h ⟨dS_copy_12, rfl⟩ fgS_20 rfl (by decide) (rfl) ?_
  refine go_aload_n (pc' := 16) h ⟨dS_copy_15, rfl⟩ rfl ?_
  refine gs_get (v := .ref 55) (pc' := 19) h ⟨dS_copy_16, rfl⟩ fgS_20 rfl (by decide) (rfl) ?_
  refine gd_callVV (E := rcopy (rcopy S 31 53) 33 55) (pc' := 22) (As := [.ref 55]) (st := []) h hF ⟨dS_copy_19, rfl⟩ kvS_35 (cR_copy X rfl rfl (by decide) ((hW.copy rfl rfl) 55 rfl)) (by omega) rfl (by decide) ⟨_, _, rfl⟩ rfl (Nat.le_of_ble_eq_true rfl) rfl ?_
  refine go_aload_n (pc' := 23) h ⟨dS_copy_22, rfl⟩ rfl ?_
  refine gs_get (v := .ref 35) (pc' := 26) h ⟨dS_copy_23, rfl⟩ fgS_23 rfl (by decide) (rfl) ?_
  refine go_aload_n (pc' := 27) h ⟨dS_copy_26, rfl⟩ rfl ?_
  refine gs_get (v := .ref 57) (pc' := 30) h ⟨dS_copy_27, rfl⟩ fgS_23 rfl (by decide) (rfl) ?_
  refine gd_callVV (E := rcopy (rcopy (rcopy S 31 53) 33 55) 35 57) (pc' := 33) (As := [.ref 57]) (st := []) h hF ⟨dS_copy_30, rfl⟩ kvS_35 (cR_copy X rfl rfl (by decide) (((hW.copy rfl rfl).copy rfl rfl) 57 rfl)) (by omega) rfl (by decide) ⟨_, _, rfl⟩ rfl (Nat.le_of_ble_eq_true rfl) rfl ?_
  refine go_aload_n (pc' := 34) h ⟨dS_copy_33, rfl⟩ rfl ?_
  refine gs_get (v := .ref 37) (pc' := 37) h ⟨dS_copy_34, rfl⟩ fgS_26 rfl (by decide) (rfl) ?_
  refine go_aload_n (pc' := 38) h ⟨dS_copy_37, rfl⟩ rfl ?_
  refine gs_get (v := .ref 59) (pc' := 41) h ⟨dS_copy_38, rfl⟩ fgS_26 rfl (by decide) (rfl) ?_
  refine gd_callVV (E := rcopy (rcopy (rcopy (rcopy S 31 53) 33 55) 35 57) 37 59) (pc' := 44) (As := [.ref 59]) (st := []) h hF ⟨dS_copy_41, rfl⟩ kvS_35 (cR_copy X rfl rfl (by decide) ((((hW.copy rfl rfl).copy rfl rfl).copy rfl rfl) 59 rfl)) (by omega) rfl (by decide) ⟨_, _, rfl⟩ rfl (Nat.le_of_ble_eq_true rfl) rfl ?_
  refine go_aload_n (pc' := 45) h ⟨dS_copy_44, rfl⟩ rfl ?_
  refine gs_get (v := .ref 39) (pc' := 48) h ⟨dS_copy_45, rfl⟩ fgS_29 rfl (by decide) (rfl) ?_
  refine go_aload_n (pc' := 49) h ⟨dS_copy_48, rfl⟩ rfl ?_
  refine gs_get (v := .ref 61) (pc' := 52) h ⟨dS_copy_49, rfl⟩ fgS_29 rfl (by decide) (rfl) ?_
  refine gd_callVV (E := rcopy (rcopy (rcopy (rcopy (rcopy S 31 53) 33 55) 35 57) 37 59) 39 61) (pc' := 55) (As := [.ref 61]) (st := []) h hF ⟨dS_copy_52, rfl⟩ kvS_35 (cR_copy X rfl rfl (by decide) (((((hW.copy rfl rfl).copy rfl rfl).copy rfl rfl).copy rfl rfl) 61 rfl)) (by omega) rfl (by decide) ⟨_, _, rfl⟩ rfl (Nat.le_of_ble_eq_true rfl) rfl ?_
  exact gs_vret h hE dS_copy_55 (rfl)
end
section
/-! Deeds, at 65 -/
def dempty (S : Sg) : Sg := rempty (rempty (rempty S 66) 68) 70
def ddrop (S : Sg) (i : Int) : Sg := rremove (rremove (rremove S 66 i) 68 i) 70 i
def dpush (S : Sg) (k t x : Int) : Sg := rpush (rpush (rpush S 66 k) 68 t) 70 x
def dadd (S : Sg) (k t x : Int) : Sg := if (10 : Int) ≤ S.1 66 1 then dpush (ddrop S 0) k t x else dpush S k t x
def dback (S : Sg) (k t x : Int) : Sg := if k = 0 then rput (swear S x (S.1 32 t) (-1)) 31 t x else if k = 1 then rput S 33 t 0 else if k = 2 then rremove S 39 (S.1 39 1 - 1) else rinsert S 39 x (S.1 32 t)
theorem Wr.wear {S : Sg} (h : Wr S) (a b y : Int) : Wr (swear S a b y) := by
  unfold swear
  by_cases hab : a < b
  · rw [if_pos hab]; exact h.aset (by decide) _
  · rw [if_neg hab]; exact h.aset (by decide) _
theorem Wr.ddrop {S : Sg} (h : Wr S) (i : Int) : Wr (ddrop S i) := ((h.remove rfl _).remove rfl _).remove rfl _
set_option maxRecDepth 4000 in
theorem cD_known (X : XT) {S : Sg} : Ctr X 1 yD_known bD_known 1 (some .int) [.ref 65] (mk S) (PI (fun r S' => r = S.1 66 1 ∧ S' = S)) 0 0 := by
  refine Ctr.ofS (by decide) rfl (Nat.le_of_ble_eq_true rfl) (fun F h hF hE => ?_)
  refine go_aload_n (pc' := 1) h ⟨dD_known_0, rfl⟩ rfl ?_
  refine gs_get (v := .ref 66) (pc' := 4) h ⟨dD_known_1, rfl⟩ fgD_14 rfl (by decide) (rfl) ?_
  refine gd_callVI (e := S.1 66 1) (E := S) (pc' := 7) (As := []) (st := []) h hF ⟨dD_known_4, rfl⟩ kvD_26 (cR_size X rfl) (by omega) rfl (by decide) ⟨_, _, rfl⟩ rfl (Nat.le_of_ble_eq_true rfl) rfl ?_
  exact gs_iret h hE dD_known_7 (⟨rfl, rfl⟩)
set_option maxRecDepth 4000 in
theorem cD_empty (X : XT) {S : Sg} : Ctr X 1 yD_empty bD_empty 1 none [.ref 65] (mk S) (PV (fun S' => S' = dempty S)) 0 0 := by
  refine Ctr.ofS (by decide) rfl (Nat.le_of_ble_eq_true rfl) (fun F h hF hE => ?_)
  refine go_aload_n (pc' := 1) h ⟨dD_empty_0, rfl⟩ rfl ?_
  refine gs_get (v := .ref 66) (pc' := 4) h ⟨dD_empty_1, rfl⟩ fgD_14 rfl (by decide) (rfl) ?_
  refine gd_callVV (E := rempty S 66) (pc' := 7) (As := []) (st := []) h hF ⟨dD_empty_4, rfl⟩ kvD_30 (cR_empty X rfl) (by omega) rfl (by decide) ⟨_, _, rfl⟩ rfl (Nat.le_of_ble_eq_true rfl) rfl ?_
  refine go_aload_n (pc' := 8) h ⟨dD_empty_7, rfl⟩ rfl ?_
  refine gs_get (v := .ref 68) (pc' := 11) h ⟨dD_empty_8, rfl⟩ fgD_20 rfl (by decide) (rfl) ?_
  refine gd_callVV (E := rempty (rempty S 66) 68) (pc' := 14) (As := []) (st := []) h hF ⟨dD_empty_11, rfl⟩ kvD_30 (cR_empty X rfl) (by omega) rfl (by decide) ⟨_, _, rfl⟩ rfl (Nat.le_of_ble_eq_true rfl) rfl ?_
  refine go_aload_n (pc' := 15) h ⟨dD_empty_14, rfl⟩ rfl ?_
  refine gs_get (v := .ref 70) (pc' := 18) h ⟨dD_empty_15, rfl⟩ fgD_23 rfl (by decide) (rfl) ?_
  refine gd_callVV (E := rempty (rempty (rempty S 66) 68) 70) (pc' := 21) (As := []) (st := []) h hF ⟨dD_empty_18, rfl⟩ kvD_30 (cR_empty X rfl) (by omega) rfl (by decide) ⟨_, _, rfl⟩ rfl (Nat.le_of_ble_eq_true rfl) rfl ?_
  exact gs_vret h hE dD_empty_21 (rfl)
set_option maxRecDepth 4000 in
theorem cD_drop (X : XT) {S : Sg} (hW : Wr S) {i : Int} (hi : -2147483648 ≤ i ∧ i ≤ 2147483647) : Ctr X 2 yD_drop bD_drop 2 none [.ref 65, .int (iI (i))] (mk S) (PV (fun S' => S' = ddrop S i)) 0 0 := by
  refine Ctr.ofS (by decide) rfl (Nat.le_of_ble_eq_true rfl) (fun F h hF hE => ?_)
  refine go_aload_n (pc' := 1) h ⟨dD_drop_0, rfl⟩ rfl ?_
  refine gs_get (v := .ref 66) (pc' := 4) h ⟨dD_drop_1, rfl⟩ fgD_14 rfl (by decide) (rfl) ?_
  refine go_iload_n (pc' := 5) h ⟨dD_drop_4, rfl⟩ rfl ?_
  refine gd_callVV (E := rremove S 66 i) (pc' := 8) (As := [.int (iI (i))]) (st := []) h hF ⟨dD_drop_5, rfl⟩ kvD_66 (cR_remove X rfl (by omega) (hW 66 rfl)) (by omega) rfl (by decide) ⟨_, _, rfl⟩ rfl (Nat.le_of_ble_eq_true rfl) rfl ?_
  refine go_aload_n (pc' := 9) h ⟨dD_drop_8, rfl⟩ rfl ?_
  refine gs_get (v := .ref 68) (pc' := 12) h ⟨dD_drop_9, rfl⟩ fgD_20 rfl (by decide) (rfl) ?_
  refine go_iload_n (pc' := 13) h ⟨dD_drop_12, rfl⟩ rfl ?_
  refine gd_callVV (E := rremove (rremove S 66 i) 68 i) (pc' := 16) (As := [.int (iI (i))]) (st := []) h hF ⟨dD_drop_13, rfl⟩ kvD_66 (cR_remove X rfl (by omega) ((hW.remove rfl _) 68 rfl)) (by omega) rfl (by decide) ⟨_, _, rfl⟩ rfl (Nat.le_of_ble_eq_true rfl) rfl ?_
  refine go_aload_n (pc' := 17) h ⟨dD_drop_16, rfl⟩ rfl ?_
  refine gs_get (v := .ref 70) (pc' := 20) h ⟨dD_drop_17, rfl⟩ fgD_23 rfl (by decide) (rfl) ?_
  refine go_iload_n (pc' := 21) h ⟨dD_drop_20, rfl⟩ rfl ?_
  refine gd_callVV (E := rremove (rremove (rremove S 66 i) 68 i) 70 i) (pc' := 24) (As := [.int (iI (i))]) (st := []) h hF ⟨dD_drop_21, rfl⟩ kvD_66 (cR_remove X rfl (by omega) (((hW.remove rfl _).remove rfl _) 70 rfl)) (by omega) rfl (by decide) ⟨_, _, rfl⟩ rfl (Nat.le_of_ble_eq_true rfl) rfl ?_
  exact gs_vret h hE dD_drop_24 (rfl)
set_option maxRecDepth 4000 in
theorem cD_add (X : XT) {S : Sg} (hW : Wr S) {k t x : Int} : Ctr X 3 yD_add bD_add 4 none [.ref 65, .int (iI (k)), .int (iI (t)), .int (iI (x))] (mk S) (PV (fun S' => S' = dadd S k t x)) 0 0 := by
  refine Ctr.ofS (by decide) rfl (Nat.le_of_ble_eq_true rfl) (fun F h hF hE => ?_)
  have hz := hW 66 rfl
  unfold rw1 at hz
  have hl : (ln (66 + 1) : Int) = 10 := rfl
  refine go_aload_n (pc' := 1) h ⟨dD_add_0, rfl⟩ rfl ?_
  refine gs_get (v := .ref 66) (pc' := 4) h ⟨dD_add_1, rfl⟩ fgD_14 rfl (by decide) (rfl) ?_
  refine gd_callVI (e := if (10 : Int) ≤ S.1 66 1 then 1 else 0) (E := S) (pc' := 7) (As := []) (st := []) h hF ⟨dD_add_4, rfl⟩ kvD_33 (cR_isFull X rfl (hW 66 rfl)) (by omega) rfl (by decide) ⟨_, _, rfl⟩ rfl (Nat.le_of_ble_eq_true rfl) rfl ?_
  refine gi_if_eq (tgt := 15) (pc' := 10) h dD_add_7 rfl rfl (by split <;> omega) (fun c7 => ?_) (fun c7 => ?_)
  · have c7 := b0 c7
    refine go_aload_n (pc' := 16) h ⟨dD_add_15, rfl⟩ rfl ?_
    refine gs_get (v := .ref 66) (pc' := 19) h ⟨dD_add_16, rfl⟩ fgD_14 rfl (by decide) (rfl) ?_
    refine go_iload_n (pc' := 20) h ⟨dD_add_19, rfl⟩ rfl ?_
    refine gd_callVV (E := rpush S 66 k) (pc' := 23) (As := [.int (iI (k))]) (st := []) h hF ⟨dD_add_20, rfl⟩ kvD_40 (cR_push X rfl (hW 66 rfl)) (by omega) rfl (by decide) ⟨_, _, rfl⟩ rfl (Nat.le_of_ble_eq_true rfl) rfl ?_
    refine go_aload_n (pc' := 24) h ⟨dD_add_23, rfl⟩ rfl ?_
    refine gs_get (v := .ref 68) (pc' := 27) h ⟨dD_add_24, rfl⟩ fgD_20 rfl (by decide) (rfl) ?_
    refine go_iload_n (pc' := 28) h ⟨dD_add_27, rfl⟩ rfl ?_
    refine gd_callVV (E := rpush (rpush S 66 k) 68 t) (pc' := 31) (As := [.int (iI (t))]) (st := []) h hF ⟨dD_add_28, rfl⟩ kvD_40 (cR_push X rfl ((hW.push rfl _) 68 rfl)) (by omega) rfl (by decide) ⟨_, _, rfl⟩ rfl (Nat.le_of_ble_eq_true rfl) rfl ?_
    refine go_aload_n (pc' := 32) h ⟨dD_add_31, rfl⟩ rfl ?_
    refine gs_get (v := .ref 70) (pc' := 35) h ⟨dD_add_32, rfl⟩ fgD_23 rfl (by decide) (rfl) ?_
    refine go_iload_n (pc' := 36) h ⟨dD_add_35, rfl⟩ rfl ?_
    refine gd_callVV (E := rpush (rpush (rpush S 66 k) 68 t) 70 x) (pc' := 39) (As := [.int (iI (x))]) (st := []) h hF ⟨dD_add_36, rfl⟩ kvD_40 (cR_push X rfl (((hW.push rfl _).push rfl _) 70 rfl)) (by omega) rfl (by decide) ⟨_, _, rfl⟩ rfl (Nat.le_of_ble_eq_true rfl) rfl ?_
    exact gs_vret h hE dD_add_39 (by unfold dadd; rw [if_neg c7]; rfl)
  · have c7 := b1 c7
    refine go_aload_n (pc' := 11) h ⟨dD_add_10, rfl⟩ rfl ?_
    refine gi_iconst (pc' := 12) h ⟨dD_add_11, rfl⟩ ?_
    refine gd_callVV (E := ddrop S 0) (pc' := 15) (As := [.int (iI (0))]) (st := []) h hF ⟨dD_add_12, rfl⟩ kvD_37 (cD_drop X hW (by omega)) (by omega) rfl (by decide) ⟨_, _, rfl⟩ rfl (Nat.le_of_ble_eq_true rfl) rfl ?_
    refine go_aload_n (pc' := 16) h ⟨dD_add_15, rfl⟩ rfl ?_
    refine gs_get (v := .ref 66) (pc' := 19) h ⟨dD_add_16, rfl⟩ fgD_14 rfl (by decide) (rfl) ?_
    refine go_iload_n (pc' := 20) h ⟨dD_add_19, rfl⟩ rfl ?_
    refine gd_callVV (E := rpush (ddrop S 0) 66 k) (pc' := 23) (As := [.int (iI (k))]) (st := []) h hF ⟨dD_add_20, rfl⟩ kvD_40 (cR_push X rfl ((hW.ddrop _) 66 rfl)) (by omega) rfl (by decide) ⟨_, _, rfl⟩ rfl (Nat.le_of_ble_eq_true rfl) rfl ?_
    refine go_aload_n (pc' := 24) h ⟨dD_add_23, rfl⟩ rfl ?_
    refine gs_get (v := .ref 68) (pc' := 27) h ⟨dD_add_24, rfl⟩ fgD_20 rfl (by decide) (rfl) ?_
    refine go_iload_n (pc' := 28) h ⟨dD_add_27, rfl⟩ rfl ?_
    refine gd_callVV (E := rpush (rpush (ddrop S 0) 66 k) 68 t) (pc' := 31) (As := [.int (iI (t))]) (st := []) h hF ⟨dD_add_28, rfl⟩ kvD_40 (cR_push X rfl (((hW.ddrop _).push rfl _) 68 rfl)) (by omega) rfl (by decide) ⟨_, _, rfl⟩ rfl (Nat.le_of_ble_eq_true rfl) rfl ?_
    refine go_aload_n (pc' := 32) h ⟨dD_add_31, rfl⟩ rfl ?_
    refine gs_get (v := .ref 70) (pc' := 35) h ⟨dD_add_32, rfl⟩ fgD_23 rfl (by decide) (rfl) ?_
    refine go_iload_n (pc' := 36) h ⟨dD_add_35, rfl⟩ rfl ?_
    refine gd_callVV (E := rpush (rpush (rpush (ddrop S 0) 66 k) 68 t) 70 x) (pc' := 39) (As := [.int (iI (x))]) (st := []) h hF ⟨dD_add_36, rfl⟩ kvD_40 (cR_push X rfl ((((hW.ddrop _).push rfl _).push rfl _) 70 rfl)) (by omega) rfl (by decide) ⟨_, _, rfl⟩ rfl (Nat.le_of_ble_eq_true rfl) rfl ?_
    exact gs_vret h hE dD_add_39 (by unfold dadd; rw [if_pos c7]; rfl)
set_option maxRecDepth 4000 in
theorem cD_back (X : XT) {S : Sg} (hW : Wr S) {u k t x : Int} (eu : S.1 66 1 - 1 = u) (ek : S.1 67 u = k) (et : S.1 69 u = t) (ed : S.1 71 u = x) (hu : 0 ≤ u) (hk : 0 ≤ k ∧ k ≤ 3) (ht : 0 ≤ t ∧ t ≤ 3) (hd : 0 ≤ x ∧ x ≤ 100) (hp : 0 ≤ S.1 32 t ∧ S.1 32 t ≤ 100) (h1 : ∀ m : Int, 0 ≤ m → m < 100 → 0 ≤ S.1 36 m ∧ S.1 36 m ≤ 9999) (h2 : ∀ m : Int, 0 ≤ m → m < 100 → 0 ≤ S.1 38 m ∧ S.1 38 m ≤ 9999) : Ctr X 4 yD_takeBackLatest bD_takeBackLatest 5 none [.ref 65, .ref 30] (mk S) (PV (fun S' => S' = ddrop (dback S k t x) u)) 0 0 := by
  refine Ctr.ofS (by decide) rfl (Nat.le_of_ble_eq_true rfl) (fun F h hF hE => ?_)
  have hz := hW 66 rfl
  unfold rw1 at hz
  have hl : (ln (66 + 1) : Int) = 10 := rfl
  have hz2 := hW 39 rfl
  unfold rw1 at hz2
  have hl2 : (ln (39 + 1) : Int) = 6 := rfl
  refine go_aload_n (pc' := 1) h ⟨dD_takeBackLatest_0, rfl⟩ rfl ?_
  refine gs_get (v := .ref 66) (pc' := 4) h ⟨dD_takeBackLatest_1, rfl⟩ fgD_14 rfl (by decide) (rfl) ?_
  refine gd_callVI (e := S.1 66 1) (E := S) (pc' := 7) (As := []) (st := []) h hF ⟨dD_takeBackLatest_4, rfl⟩ kvD_26 (cR_size X rfl) (by omega) rfl (by decide) ⟨_, _, rfl⟩ rfl (Nat.le_of_ble_eq_true rfl) rfl ?_
  refine gi_iconst (pc' := 8) h ⟨dD_takeBackLatest_7, rfl⟩ ?_
  refine gi_isub (pc' := 9) h ⟨dD_takeBackLatest_8, rfl⟩ ?_
  rw [eu]
  refine go_istore_n (L' := [.ref 65, .ref 30, .int (iI (u))]) (pc' := 10) h ⟨dD_takeBackLatest_9, rfl⟩ (by decide) rfl rfl ?_
  refine go_aload_n (pc' := 11) h ⟨dD_takeBackLatest_10, rfl⟩ rfl ?_
  refine gs_get (v := .ref 68) (pc' := 14) h ⟨dD_takeBackLatest_11, rfl⟩ fgD_20 rfl (by decide) (rfl) ?_
  refine go_iload_n (pc' := 15) h ⟨dD_takeBackLatest_14, rfl⟩ rfl ?_
  refine gd_callVI (e := S.1 69 u) (E := S) (pc' := 18) (As := [.int (iI (u))]) (st := []) h hF ⟨dD_takeBackLatest_15, rfl⟩ kvD_43 (cR_ati X (n := 10) rfl rfl (by omega)) (by omega) rfl (by decide) ⟨_, _, rfl⟩ rfl (Nat.le_of_ble_eq_true rfl) rfl ?_
  rw [et]
  refine go_istore_n (L' := [.ref 65, .ref 30, .int (iI (u)), .int (iI (t))]) (pc' := 19) h ⟨dD_takeBackLatest_18, rfl⟩ (by decide) rfl rfl ?_
  refine go_aload_n (pc' := 20) h ⟨dD_takeBackLatest_19, rfl⟩ rfl ?_
  refine gs_get (v := .ref 70) (pc' := 23) h ⟨dD_takeBackLatest_20, rfl⟩ fgD_23 rfl (by decide) (rfl) ?_
  refine go_iload_n (pc' := 24) h ⟨dD_takeBackLatest_23, rfl⟩ rfl ?_
  refine gd_callVI (e := S.1 71 u) (E := S) (pc' := 27) (As := [.int (iI (u))]) (st := []) h hF ⟨dD_takeBackLatest_24, rfl⟩ kvD_43 (cR_ati X (n := 10) rfl rfl (by omega)) (by omega) rfl (by decide) ⟨_, _, rfl⟩ rfl (Nat.le_of_ble_eq_true rfl) rfl ?_
  rw [ed]
  refine go_istore (L' := [.ref 65, .ref 30, .int (iI (u)), .int (iI (t)), .int (iI (x))]) (pc' := 29) h ⟨dD_takeBackLatest_27, rfl⟩ (by decide) rfl rfl ?_
  refine go_aload_n (pc' := 30) h ⟨dD_takeBackLatest_29, rfl⟩ rfl ?_
  refine gs_get (v := .ref 66) (pc' := 33) h ⟨dD_takeBackLatest_30, rfl⟩ fgD_14 rfl (by decide) (rfl) ?_
  refine go_iload_n (pc' := 34) h ⟨dD_takeBackLatest_33, rfl⟩ rfl ?_
  refine gd_callVI (e := S.1 67 u) (E := S) (pc' := 37) (As := [.int (iI (u))]) (st := []) h hF ⟨dD_takeBackLatest_34, rfl⟩ kvD_43 (cR_ati X (n := 10) rfl rfl (by omega)) (by omega) rfl (by decide) ⟨_, _, rfl⟩ rfl (Nat.le_of_ble_eq_true rfl) rfl ?_
  rw [ek]
  rcases (show (k < 0 ∨ 3 < k) ∨ k = 0 ∨ k = 1 ∨ k = 2 ∨ k = 3 by omega) with c37 | c37 | c37 | c37 | c37
  · exfalso; omega
  · rw [c37]
    refine gi_tabIn (tgt := 68) (a := 0) h dD_takeBackLatest_37 (by decide) (by decide) rfl rfl ?_
    refine go_aload_n (pc' := 69) h ⟨dD_takeBackLatest_68, rfl⟩ rfl ?_
    refine go_iload (pc' := 71) h ⟨dD_takeBackLatest_69, rfl⟩ rfl ?_
    refine go_aload_n (pc' := 72) h ⟨dD_takeBackLatest_71, rfl⟩ rfl ?_
    refine gs_get (v := .ref 31) (pc' := 75) h ⟨dD_takeBackLatest_72, rfl⟩ fgD_47 rfl (by decide) (rfl) ?_
    refine go_iload_n (pc' := 76) h ⟨dD_takeBackLatest_75, rfl⟩ rfl ?_
    refine gd_callVI (e := S.1 32 t) (E := S) (pc' := 79) (As := [.int (iI (t))]) (st := [.int (iI (x)), .ref 30]) h hF ⟨dD_takeBackLatest_76, rfl⟩ kvD_43 (cR_ati X (n := 4) rfl rfl (by omega)) (by omega) rfl (by decide) ⟨_, _, rfl⟩ rfl (Nat.le_of_ble_eq_true rfl) rfl ?_
    refine gi_iconst (pc' := 80) h ⟨dD_takeBackLatest_79, rfl⟩ ?_
    refine gd_callVV (E := swear S x (S.1 32 t) (-1)) (pc' := 83) (As := [.int (iI (x)), .int (iI (S.1 32 t)), .int (iI (-1))]) (st := []) h hF ⟨dD_takeBackLatest_80, rfl⟩ kvD_52 (cS_wearWay X (by omega) (by omega) (by omega) h1 h2) (by omega) rfl (by decide) ⟨_, _, rfl⟩ rfl (Nat.le_of_ble_eq_true rfl) rfl ?_
    refine go_aload_n (pc' := 84) h ⟨dD_takeBackLatest_83, rfl⟩ rfl ?_
    refine gs_get (v := .ref 31) (pc' := 87) h ⟨dD_takeBackLatest_84, rfl⟩ fgD_47 rfl (by decide) (rfl) ?_
    refine go_iload_n (pc' := 88) h ⟨dD_takeBackLatest_87, rfl⟩ rfl ?_
    refine go_iload (pc' := 90) h ⟨dD_takeBackLatest_88, rfl⟩ rfl ?_
    refine gd_callVV (E := rput (swear S x (S.1 32 t) (-1)) 31 t x) (pc' := 93) (As := [.int (iI (t)), .int (iI (x))]) (st := []) h hF ⟨dD_takeBackLatest_90, rfl⟩ kvD_56 (cR_put X rfl (by omega)) (by omega) rfl (by decide) ⟨_, _, rfl⟩ rfl (Nat.le_of_ble_eq_true rfl) rfl ?_
    refine gi_goto (tgt := 147) h dD_takeBackLatest_93 rfl ?_
    refine go_aload_n (pc' := 148) h ⟨dD_takeBackLatest_147, rfl⟩ rfl ?_
    refine go_iload_n (pc' := 149) h ⟨dD_takeBackLatest_148, rfl⟩ rfl ?_
    refine gd_callVV (E := ddrop (rput (swear S x (S.1 32 t) (-1)) 31 t x) u) (pc' := 152) (As := [.int (iI (u))]) (st := []) h hF ⟨dD_takeBackLatest_149, rfl⟩ kvD_37 (cD_drop X ((hW.wear _ _ _).put rfl _ _) (by omega)) (by omega) rfl (by decide) ⟨_, _, rfl⟩ rfl (Nat.le_of_ble_eq_true rfl) rfl ?_
    exact gs_vret h hE dD_takeBackLatest_152 (by unfold dback; simp [c37])
  · rw [c37]
    refine gi_tabIn (tgt := 96) (a := 1) h dD_takeBackLatest_37 (by decide) (by decide) rfl rfl ?_
    refine go_aload_n (pc' := 97) h ⟨dD_takeBackLatest_96, rfl⟩ rfl ?_
    refine gs_get (v := .ref 33) (pc' := 100) h ⟨dD_takeBackLatest_97, rfl⟩ fgD_60 rfl (by decide) (rfl) ?_
    refine go_iload_n (pc' := 101) h ⟨dD_takeBackLatest_100, rfl⟩ rfl ?_
    refine gi_iconst (pc' := 102) h ⟨dD_takeBackLatest_101, rfl⟩ ?_
    refine gd_callVV (E := rput S 33 t 0) (pc' := 105) (As := [.int (iI (t)), .int (iI (0))]) (st := []) h hF ⟨dD_takeBackLatest_102, rfl⟩ kvD_56 (cR_put X rfl (by omega)) (by omega) rfl (by decide) ⟨_, _, rfl⟩ rfl (Nat.le_of_ble_eq_true rfl) rfl ?_
    refine gi_goto (tgt := 147) h dD_takeBackLatest_105 rfl ?_
    refine go_aload_n (pc' := 148) h ⟨dD_takeBackLatest_147, rfl⟩ rfl ?_
    refine go_iload_n (pc' := 149) h ⟨dD_takeBackLatest_148, rfl⟩ rfl ?_
    refine gd_callVV (E := ddrop (rput S 33 t 0) u) (pc' := 152) (As := [.int (iI (u))]) (st := []) h hF ⟨dD_takeBackLatest_149, rfl⟩ kvD_37 (cD_drop X (hW.put rfl _ _) (by omega)) (by omega) rfl (by decide) ⟨_, _, rfl⟩ rfl (Nat.le_of_ble_eq_true rfl) rfl ?_
    exact gs_vret h hE dD_takeBackLatest_152 (by unfold dback; simp [c37])
  · rw [c37]
    refine gi_tabIn (tgt := 108) (a := 2) h dD_takeBackLatest_37 (by decide) (by decide) rfl rfl ?_
    refine go_aload_n (pc' := 109) h ⟨dD_takeBackLatest_108, rfl⟩ rfl ?_
    refine gs_get (v := .ref 39) (pc' := 112) h ⟨dD_takeBackLatest_109, rfl⟩ fgD_63 rfl (by decide) (rfl) ?_
    refine go_aload_n (pc' := 113) h ⟨dD_takeBackLatest_112, rfl⟩ rfl ?_
    refine gs_get (v := .ref 39) (pc' := 116) h ⟨dD_takeBackLatest_113, rfl⟩ fgD_63 rfl (by decide) (rfl) ?_
    refine gd_callVI (e := S.1 39 1) (E := S) (pc' := 119) (As := []) (st := [.ref 39]) h hF ⟨dD_takeBackLatest_116, rfl⟩ kvD_26 (cR_size X rfl) (by omega) rfl (by decide) ⟨_, _, rfl⟩ rfl (Nat.le_of_ble_eq_true rfl) rfl ?_
    refine gi_iconst (pc' := 120) h ⟨dD_takeBackLatest_119, rfl⟩ ?_
    refine gi_isub (pc' := 121) h ⟨dD_takeBackLatest_120, rfl⟩ ?_
    refine gd_callVV (E := rremove S 39 ((S.1 39 1) - 1)) (pc' := 124) (As := [.int (iI ((S.1 39 1) - 1))]) (st := []) h hF ⟨dD_takeBackLatest_121, rfl⟩ kvD_66 (cR_remove X rfl (by omega) (hW 39 rfl)) (by omega) rfl (by decide) ⟨_, _, rfl⟩ rfl (Nat.le_of_ble_eq_true rfl) rfl ?_
    refine gi_goto (tgt := 147) h dD_takeBackLatest_124 rfl ?_
    refine go_aload_n (pc' := 148) h ⟨dD_takeBackLatest_147, rfl⟩ rfl ?_
    refine go_iload_n (pc' := 149) h ⟨dD_takeBackLatest_148, rfl⟩ rfl ?_
    refine gd_callVV (E := ddrop (rremove S 39 ((S.1 39 1) - 1)) u) (pc' := 152) (As := [.int (iI (u))]) (st := []) h hF ⟨dD_takeBackLatest_149, rfl⟩ kvD_37 (cD_drop X (hW.remove rfl _) (by omega)) (by omega) rfl (by decide) ⟨_, _, rfl⟩ rfl (Nat.le_of_ble_eq_true rfl) rfl ?_
    exact gs_vret h hE dD_takeBackLatest_152 (by unfold dback; simp [c37])
  · rw [c37]
    refine gi_tabIn (tgt := 127) (a := 3) h dD_takeBackLatest_37 (by decide) (by decide) rfl rfl ?_
    refine go_aload_n (pc' := 128) h ⟨dD_takeBackLatest_127, rfl⟩ rfl ?_
    refine gs_get (v := .ref 39) (pc' := 131) h ⟨dD_takeBackLatest_128, rfl⟩ fgD_63 rfl (by decide) (rfl) ?_
    refine go_iload (pc' := 133) h ⟨dD_takeBackLatest_131, rfl⟩ rfl ?_
    refine go_aload_n (pc' := 134) h ⟨dD_takeBackLatest_133, rfl⟩ rfl ?_
    refine gs_get (v := .ref 31) (pc' := 137) h ⟨dD_takeBackLatest_134, rfl⟩ fgD_47 rfl (by decide) (rfl) ?_
    refine go_iload_n (pc' := 138) h ⟨dD_takeBackLatest_137, rfl⟩ rfl ?_
    refine gd_callVI (e := S.1 32 t) (E := S) (pc' := 141) (As := [.int (iI (t))]) (st := [.int (iI (x)), .ref 39]) h hF ⟨dD_takeBackLatest_138, rfl⟩ kvD_43 (cR_ati X (n := 4) rfl rfl (by omega)) (by omega) rfl (by decide) ⟨_, _, rfl⟩ rfl (Nat.le_of_ble_eq_true rfl) rfl ?_
    refine gd_callVV (E := rinsert S 39 x (S.1 32 t)) (pc' := 144) (As := [.int (iI (x)), .int (iI (S.1 32 t))]) (st := []) h hF ⟨dD_takeBackLatest_141, rfl⟩ kvD_69 (cR_insert X rfl (by omega) (hW 39 rfl)) (by omega) rfl (by decide) ⟨_, _, rfl⟩ rfl (Nat.le_of_ble_eq_true rfl) rfl ?_
    refine gi_goto (tgt := 147) h dD_takeBackLatest_144 rfl ?_
    refine go_aload_n (pc' := 148) h ⟨dD_takeBackLatest_147, rfl⟩ rfl ?_
    refine go_iload_n (pc' := 149) h ⟨dD_takeBackLatest_148, rfl⟩ rfl ?_
    refine gd_callVV (E := ddrop (rinsert S 39 x (S.1 32 t)) u) (pc' := 152) (As := [.int (iI (u))]) (st := []) h hF ⟨dD_takeBackLatest_149, rfl⟩ kvD_37 (cD_drop X (hW.insert rfl _ _) (by omega)) (by omega) rfl (by decide) ⟨_, _, rfl⟩ rfl (Nat.le_of_ble_eq_true rfl) rfl ?_
    exact gs_vret h hE dD_takeBackLatest_152 (by unfold dback; simp [c37])
/-! Seen, at 72 -/
def nst (S : Sg) (f : Int → Int) : Sg := aset (pt S 77 1 0) 78 f
theorem nst_78 (S : Sg) (f : Int → Int) : (nst S f).1 78 = f := aset_eq _ _ _
theorem nst_ne (S : Sg) (f : Int → Int) {a : Nat} (h1 : a ≠ 77) (h2 : a ≠ 78) : (nst S f).1 a = S.1 a := by
  unfold nst
  rw [aset_ne _ _ h2, pt_ne _ _ _ h1]
theorem nst_77 (S : Sg) (f : Int → Int) : (nst S f).1 77 = uF (S.1 77) 1 0 := by
  unfold nst
  rw [aset_ne _ _ (by decide), pt_eq]
theorem uF_uF (f : Int → Int) (i x y : Int) : uF (uF f i x) i y = uF f i y := by
  funext j
  unfold uF
  by_cases h : j = i
  · rw [if_pos h, if_pos h]
  · rw [if_neg h, if_neg h, if_neg h]
theorem nst_nst (S : Sg) (f g : Int → Int) : nst (nst S f) g = nst S g := by
  unfold nst
  rw [pt_sw _ f _ _ (by decide), aset_aset, pt_aset, pt_aset, aset_eq, aset_aset, uF_uF]
theorem nst_aset (S : Sg) (f g : Int → Int) : aset (nst S f) 78 g = nst S g := by unfold nst; rw [aset_aset]
theorem Wr.nst {S : Sg} (h : Wr S) (f : Int → Int) : Wr (nst S f) := by
  refine h.one (k := 77) rfl (fun a h1 h2 => nst_ne S f h1 h2) ?_
  unfold rw1
  rw [nst_77, uF_eq]
  exact ⟨by omega, by decide⟩
def keepF (f : Int → Int) (s : Int) : Int → Int := uF (fun _ => 0) s (f s)
theorem nst_pt (S : Sg) (g : Int → Int) : pt (nst S g) 77 1 0 = nst S g := by
  unfold nst
  rw [pt_sw _ g _ _ (by decide), pt_aset, pt_aset, aset_eq, aset_aset, uF_uF]
theorem nst_keep (S : Sg) (f : Int → Int) {s v : Int} (hs : 0 ≤ s ∧ s ≤ 40) : rput (rempty (nst S f) 77) 77 s v = nst S (uF (fun _ => 0) s v) := by
  have hl : (ln (77 + 1) : Int) = 41 := rfl
  rw [rput_in _ (by omega)]
  unfold rempty
  rw [show (77 + 1 : Nat) = 78 from rfl, nst_aset, nst_pt, pt_aset, nst_78, nst_aset]
def dF (cl we : Int → Int) (x : Int) (f : Int → Int) : Nat → Int → Int
  | 0 => f
  | n + 1 => if cl (n : Int) = x then keepF (dF cl we x f n) (we (n : Int)) else dF cl we x f n
def addv (g : Int → Int) (l m j : Int) : Int := sumI (fun t => atV g 41 (j - (l + t))) (m + 1 - l)
def aF (g : Int → Int) (l m s : Int) : Int → Int := fun j => if s < j ∧ j ≤ 40 then addv g l m j else g j
theorem aF_s (g : Int → Int) (l m : Int) {s : Int} (h : 0 ≤ s ∧ s ≤ 40) : uF (aF g l m s) s (addv g l m s) = aF g l m (s + -1) := by
  funext j
  unfold uF aF
  by_cases hj : j = s
  · rw [if_pos hj, if_pos (by omega), hj]
  · rw [if_neg hj]
    by_cases h2 : s < j ∧ j ≤ 40
    · rw [if_pos h2, if_pos (by omega)]
    · rw [if_neg h2, if_neg (by omega)]
theorem aF_0 (g : Int → Int) (l m : Int) : aF g l m 40 = g := by
  funext j
  unfold aF
  rw [if_neg (by omega)]
theorem aF_at (g : Int → Int) (l m s : Int) {j : Int} (h : j ≤ s) : atV (aF g l m s) 41 j = atV g 41 j := by
  unfold atV aF
  rw [if_neg (show ¬ (s < j ∧ j ≤ 40) by omega)]
set_option maxRecDepth 4000 in
theorem cN_empty (X : XT) {S : Sg} : Ctr X 1 yN_empty bN_empty 1 none [.ref 72] (mk S) (PV (fun S' => S' = rempty (rempty S 73) 75)) 0 0 := by
  refine Ctr.ofS (by decide) rfl (Nat.le_of_ble_eq_true rfl) (fun F h hF hE => ?_)
  refine go_aload_n (pc' := 1) h ⟨dN_empty_0, rfl⟩ rfl ?_
  refine gs_get (v := .ref 73) (pc' := 4) h ⟨dN_empty_1, rfl⟩ fgN_14 rfl (by decide) (rfl) ?_
  refine gd_callVV (E := rempty S 73) (pc' := 7) (As := []) (st := []) h hF ⟨dN_empty_4, rfl⟩ kvN_26 (cR_empty X rfl) (by omega) rfl (by decide) ⟨_, _, rfl⟩ rfl (Nat.le_of_ble_eq_true rfl) rfl ?_
  refine go_aload_n (pc' := 8) h ⟨dN_empty_7, rfl⟩ rfl ?_
  refine gs_get (v := .ref 75) (pc' := 11) h ⟨dN_empty_8, rfl⟩ fgN_20 rfl (by decide) (rfl) ?_
  refine gd_callVV (E := rempty (rempty S 73) 75) (pc' := 14) (As := []) (st := []) h hF ⟨dN_empty_11, rfl⟩ kvN_26 (cR_empty X rfl) (by omega) rfl (by decide) ⟨_, _, rfl⟩ rfl (Nat.le_of_ble_eq_true rfl) rfl ?_
  exact gs_vret h hE dN_empty_14 (rfl)
set_option maxRecDepth 4000 in
theorem cN_add (X : XT) {S : Sg} (hW : Wr S) {a b : Int} : Ctr X 2 yN_add bN_add 3 none [.ref 72, .int (iI (a)), .int (iI (b))] (mk S) (PV (fun S' => S' = rpush (rpush S 73 a) 75 b)) 0 0 := by
  refine Ctr.ofS (by decide) rfl (Nat.le_of_ble_eq_true rfl) (fun F h hF hE => ?_)
  refine go_aload_n (pc' := 1) h ⟨dN_add_0, rfl⟩ rfl ?_
  refine gs_get (v := .ref 73) (pc' := 4) h ⟨dN_add_1, rfl⟩ fgN_14 rfl (by decide) (rfl) ?_
  refine go_iload_n (pc' := 5) h ⟨dN_add_4, rfl⟩ rfl ?_
  refine gd_callVV (E := rpush S 73 a) (pc' := 8) (As := [.int (iI (a))]) (st := []) h hF ⟨dN_add_5, rfl⟩ kvN_29 (cR_push X rfl (hW 73 rfl)) (by omega) rfl (by decide) ⟨_, _, rfl⟩ rfl (Nat.le_of_ble_eq_true rfl) rfl ?_
  refine go_aload_n (pc' := 9) h ⟨dN_add_8, rfl⟩ rfl ?_
  refine gs_get (v := .ref 75) (pc' := 12) h ⟨dN_add_9, rfl⟩ fgN_20 rfl (by decide) (rfl) ?_
  refine go_iload_n (pc' := 13) h ⟨dN_add_12, rfl⟩ rfl ?_
  refine gd_callVV (E := rpush (rpush S 73 a) 75 b) (pc' := 16) (As := [.int (iI (b))]) (st := []) h hF ⟨dN_add_13, rfl⟩ kvN_29 (cR_push X rfl ((hW.push rfl _) 75 rfl)) (by omega) rfl (by decide) ⟨_, _, rfl⟩ rfl (Nat.le_of_ble_eq_true rfl) rfl ?_
  exact gs_vret h hE dN_add_16 (rfl)
set_option maxRecDepth 4000 in
theorem cN_keepOnly (X : XT) {S : Sg} {f : Int → Int} {x : Int} (hx : 0 ≤ x ∧ x ≤ 40) : Ctr X 1 yN_keepOnly bN_keepOnly 3 none [.ref 72, .int (iI (x))] (mk (nst S f)) (PV (fun S' => S' = nst S (keepF f x))) 0 0 := by
  refine Ctr.ofS (by decide) rfl (Nat.le_of_ble_eq_true rfl) (fun F h hF hE => ?_)
  refine go_aload_n (pc' := 1) h ⟨dN_keepOnly_0, rfl⟩ rfl ?_
  refine gs_get (v := .ref 77) (pc' := 4) h ⟨dN_keepOnly_1, rfl⟩ fgN_23 rfl (by decide) (rfl) ?_
  refine go_iload_n (pc' := 5) h ⟨dN_keepOnly_4, rfl⟩ rfl ?_
  refine gd_callVI (e := f x) (E := nst S f) (pc' := 8) (As := [.int (iI (x))]) (st := []) h hF ⟨dN_keepOnly_5, rfl⟩ kvN_50 (by have h0 := cR_ati X (S := nst S f) (k := 77) rfl (n := 41) rfl (i := x) (by omega); rw [nst_78] at h0; exact h0) (by omega) rfl (by decide) ⟨_, _, rfl⟩ rfl (Nat.le_of_ble_eq_true rfl) rfl ?_
  refine go_istore_n (L' := [.ref 72, .int (iI (x)), .int (iI (f x))]) (pc' := 9) h ⟨dN_keepOnly_8, rfl⟩ (by decide) rfl rfl ?_
  refine go_aload_n (pc' := 10) h ⟨dN_keepOnly_9, rfl⟩ rfl ?_
  refine gs_get (v := .ref 77) (pc' := 13) h ⟨dN_keepOnly_10, rfl⟩ fgN_23 rfl (by decide) (rfl) ?_
  refine gd_callVV (E := rempty (nst S f) 77) (pc' := 16) (As := []) (st := []) h hF ⟨dN_keepOnly_13, rfl⟩ kvN_26 (cR_empty X rfl) (by omega) rfl (by decide) ⟨_, _, rfl⟩ rfl (Nat.le_of_ble_eq_true rfl) rfl ?_
  refine go_aload_n (pc' := 17) h ⟨dN_keepOnly_16, rfl⟩ rfl ?_
  refine gs_get (v := .ref 77) (pc' := 20) h ⟨dN_keepOnly_17, rfl⟩ fgN_23 rfl (by decide) (rfl) ?_
  refine go_iload_n (pc' := 21) h ⟨dN_keepOnly_20, rfl⟩ rfl ?_
  refine go_iload_n (pc' := 22) h ⟨dN_keepOnly_21, rfl⟩ rfl ?_
  refine gd_callVV (E := rput (rempty (nst S f) 77) 77 x (f x)) (pc' := 25) (As := [.int (iI (x)), .int (iI (f x))]) (st := []) h hF ⟨dN_keepOnly_22, rfl⟩ kvN_32 (cR_put X rfl (by omega)) (by omega) rfl (by decide) ⟨_, _, rfl⟩ rfl (Nat.le_of_ble_eq_true rfl) rfl ?_
  exact gs_vret h hE dN_keepOnly_25 (nst_keep _ _ hx)
set_option maxRecDepth 4000 in
theorem cN_addGoings (X : XT) {S : Sg} {f : Int → Int} {l u : Int} (hl : 0 ≤ l ∧ l ≤ 9 ∧ l ≤ u + 1 ∧ u ≤ 9) : Ctr X 1 yN_addGoings bN_addGoings 6 none [.ref 72, .int (iI (l)), .int (iI (u))] (mk (nst S f)) (PV (fun S' => S' = nst S (aF f l u (-1)))) 0 0 := by
  refine Ctr.ofS (by decide) rfl (Nat.le_of_ble_eq_true rfl) (fun F h hF hE => ?_)
  have inner : ∀ (s : Int), 0 ≤ s → s ≤ 40 → (∀ v : Int, v = addv f l u s → Go F 6 (mk (nst S (aF f l u s))) 0 0 41 [.ref 72, .int (iI l), .int (iI u), .int (iI s), .int (iI v), .int (iI (u + 1))] []) → ∀ (n : Nat) (j : Int), u + 1 - j < n → l ≤ j → j ≤ u + 1 → Go F 6 (mk (nst S (aF f l u s))) 0 0 13 [.ref 72, .int (iI l), .int (iI u), .int (iI s), .int (iI (sumI (fun t => atV f 41 (s - (l + t))) (j - l))), .int (iI j)] [] := by
    intro s g1 g2 hk n
    induction n with
    | zero => intro j g4 g5 g6; exfalso; omega
    | succ n ih =>
      intro j g4 g5 g6
      refine go_iload (pc' := 15) h ⟨dN_addGoings_13, rfl⟩ rfl ?_
      refine go_iload_n (pc' := 16) h ⟨dN_addGoings_15, rfl⟩ rfl ?_
      refine gi_icmp_gt (tgt := 41) (pc' := 19) h dN_addGoings_16 rfl rfl (by omega) (fun c16 => ?_) (fun c16 => ?_)
      · have e1 : j = u + 1 := by omega
        subst e1
        exact hk _ rfl
      · refine go_iload (pc' := 21) h ⟨dN_addGoings_19, rfl⟩ rfl ?_
        refine go_aload_n (pc' := 22) h ⟨dN_addGoings_21, rfl⟩ rfl ?_
        refine gs_get (v := .ref 77) (pc' := 25) h ⟨dN_addGoings_22, rfl⟩ fgN_23 rfl (by decide) (rfl) ?_
        refine go_iload_n (pc' := 26) h ⟨dN_addGoings_25, rfl⟩ rfl ?_
        refine go_iload (pc' := 28) h ⟨dN_addGoings_26, rfl⟩ rfl ?_
        refine gi_isub (pc' := 29) h ⟨dN_addGoings_28, rfl⟩ ?_
        refine gd_callVI (e := atV f 41 (s - j)) (E := nst S (aF f l u s)) (pc' := 32) (As := [.int (iI (s - j))]) (st := [.int (iI (sumI (fun t => atV f 41 (s - (l + t))) (j - l)))]) h hF ⟨dN_addGoings_29, rfl⟩ kvN_50 (by have h0 := cR_atn X (S := nst S (aF f l u s)) (k := 77) rfl (n := 41) rfl (i := s - j) (by omega); rw [nst_78, aF_at _ _ _ _ (by omega)] at h0; exact h0) (by omega) rfl (by decide) ⟨_, _, rfl⟩ rfl (Nat.le_of_ble_eq_true rfl) rfl ?_
        refine gi_iadd (pc' := 33) h ⟨dN_addGoings_32, rfl⟩ ?_
        refine go_istore (L' := [.ref 72, .int (iI (l)), .int (iI (u)), .int (iI (s)), .int (iI ((sumI (fun t => atV f 41 (s - (l + t))) (j - l)) + (atV f 41 (s - j)))), .int (iI (j))]) (pc' := 35) h ⟨dN_addGoings_33, rfl⟩ (by decide) rfl rfl ?_
        refine gi_iinc (L' := [.ref 72, .int (iI (l)), .int (iI (u)), .int (iI (s)), .int (iI ((sumI (fun t => atV f 41 (s - (l + t))) (j - l)) + (atV f 41 (s - j)))), .int (iI (j + 1))]) (pc' := 38) h ⟨dN_addGoings_35, rfl⟩ rfl (by decide) rfl rfl ?_
        refine gi_goto (tgt := 13) h dN_addGoings_38 rfl ?_
        have g7 := ih (j + 1) (by omega) (by omega) (by omega)
        rw [show j + 1 - l = (j - l) + 1 by omega, sumI_s _ (by omega), show l + (j - l) = j by omega] at g7
        exact g7
  have outer : ∀ (n : Nat) (s : Int), s + 1 < n → -1 ≤ s → s ≤ 40 → ∀ (L0 : List Value), L0 <+: [.ref 72, .int (iI l), .int (iI u), .int (iI s)] → Go F 6 (mk (nst S (aF f l u s))) 0 0 3 [.ref 72, .int (iI l), .int (iI u), .int (iI s)] [] := by
    intro n
    induction n with
    | zero => intro s g4 g5 g6; exfalso; omega
    | succ n ih =>
      intro s g4 g5 g6 L0 hL0
      refine go_iload_n (pc' := 4) h ⟨dN_addGoings_3, rfl⟩ rfl ?_
      refine gi_if_lt (tgt := 57) (pc' := 7) h dN_addGoings_4 rfl rfl (by omega) (fun c4 => ?_) (fun c4 => ?_)
      · exact gs_vret h hE dN_addGoings_57 (by rw [show s = -1 by omega])
      · refine gi_iconst (pc' := 8) h ⟨dN_addGoings_7, rfl⟩ ?_
        refine go_istore (L' := [.ref 72, .int (iI (l)), .int (iI (u)), .int (iI (s)), .int (iI (0))]) (pc' := 10) h ⟨dN_addGoings_8, rfl⟩ (by decide) rfl rfl ?_
        refine go_iload_n (pc' := 11) h ⟨dN_addGoings_10, rfl⟩ rfl ?_
        refine go_istore (L' := [.ref 72, .int (iI (l)), .int (iI (u)), .int (iI (s)), .int (iI (0)), .int (iI (l))]) (pc' := 13) h ⟨dN_addGoings_11, rfl⟩ (by decide) rfl rfl ?_
        have h0 := inner s (by omega) (by omega) ?_ 12 l (by omega) (by omega) (by omega)
        · rw [Int.sub_self, sumI_0] at h0
          exact h0
        intro v hv
        refine go_aload_n (pc' := 42) h ⟨dN_addGoings_41, rfl⟩ rfl ?_
        refine gs_get (v := .ref 77) (pc' := 45) h ⟨dN_addGoings_42, rfl⟩ fgN_23 rfl (by decide) (rfl) ?_
        refine go_iload_n (pc' := 46) h ⟨dN_addGoings_45, rfl⟩ rfl ?_
        refine go_iload (pc' := 48) h ⟨dN_addGoings_46, rfl⟩ rfl ?_
        refine gd_callVV (E := rput (nst S (aF f l u s)) 77 s v) (pc' := 51) (As := [.int (iI (s)), .int (iI (v))]) (st := []) h hF ⟨dN_addGoings_48, rfl⟩ kvN_32 (cR_put X rfl (by omega)) (by omega) rfl (by decide) ⟨_, _, rfl⟩ rfl (Nat.le_of_ble_eq_true rfl) rfl ?_
        refine gi_iinc (L' := [.ref 72, .int (iI (l)), .int (iI (u)), .int (iI (s + (-1))), .int (iI (v)), .int (iI (u + 1))]) (pc' := 54) h ⟨dN_addGoings_51, rfl⟩ rfl (by decide) rfl rfl ?_
        refine gi_goto (tgt := 3) h dN_addGoings_54 rfl ?_
        rw [hv, rput_in _ (show 0 ≤ s ∧ s < (ln (77 + 1) : Int) from ⟨by omega, by show s < 41; omega⟩), pt_aset, show (77 + 1 : Nat) = 78 from rfl, nst_78, nst_aset, aF_s _ _ _ (by omega)]
        refine Go.cut [.ref 72, .int (iI l), .int (iI u), .int (iI (s + -1))] 4 rfl ?_
        exact ih (s + -1) (by omega) (by omega) (by omega) _ (List.prefix_refl _)
  refine gi_bipush (pc' := 2) h ⟨dN_addGoings_0, rfl⟩ rfl ?_
  refine go_istore_n (L' := [.ref 72, .int (iI (l)), .int (iI (u)), .int (iI (40))]) (pc' := 3) h ⟨dN_addGoings_2, rfl⟩ (by decide) rfl rfl ?_
  have h0 := outer 42 40 (by omega) (by omega) (by omega) _ (List.prefix_refl _)
  rw [aF_0] at h0
  exact h0
set_option maxRecDepth 4000 in
theorem cN_drop (X : XT) {S : Sg} {f : Int → Int} {x : Int} (hx : 0 ≤ x ∧ x ≤ 100) (hz : 0 ≤ S.1 75 1 ∧ S.1 75 1 ≤ 6) (hc : ∀ i : Int, 0 ≤ i → i < S.1 75 1 → 0 ≤ S.1 74 i ∧ S.1 74 i ≤ 100) (hw : ∀ i : Int, 0 ≤ i → i < S.1 75 1 → 0 ≤ S.1 76 i ∧ S.1 76 i ≤ 40) : Ctr X 2 yN_dropUnlikeSeen bN_dropUnlikeSeen 3 none [.ref 72, .int (iI (x))] (mk (nst S f)) (PV (fun S' => S' = nst S (dF (S.1 74) (S.1 76) x f (S.1 75 1).toNat))) 0 0 := by
  refine Ctr.ofS (by decide) rfl (Nat.le_of_ble_eq_true rfl) (fun F h hF hE => ?_)
  have loop : ∀ (n : Nat) (j : Nat), 7 < j + n → (j : Int) ≤ S.1 75 1 → Go F 3 (mk (nst S (dF (S.1 74) (S.1 76) x f j))) 0 0 2 [.ref 72, .int (iI x), .int (iI (j : Int))] [] := by
    intro n
    induction n with
    | zero => intro j g4 g6; exfalso; omega
    | succ n ih =>
      intro j g4 g6
      refine go_iload_n (pc' := 3) h ⟨dN_dropUnlikeSeen_2, rfl⟩ rfl ?_
      refine go_aload_n (pc' := 4) h ⟨dN_dropUnlikeSeen_3, rfl⟩ rfl ?_
      refine gs_get (v := .ref 75) (pc' := 7) h ⟨dN_dropUnlikeSeen_4, rfl⟩ fgN_20 rfl (by decide) (rfl) ?_
      refine gd_callVI (e := S.1 75 1) (E := nst S (dF (S.1 74) (S.1 76) x f j)) (pc' := 10) (As := []) (st := [.int (iI ((j : Int)))]) h hF ⟨dN_dropUnlikeSeen_7, rfl⟩ kvN_54 (by have h0 := cR_size X (S := nst S (dF (S.1 74) (S.1 76) x f j)) (k := 75) rfl; rw [nst_ne _ _ (by decide) (by decide)] at h0; exact h0) (by omega) rfl (by decide) ⟨_, _, rfl⟩ rfl (Nat.le_of_ble_eq_true rfl) rfl ?_
      refine gi_icmp_ge (tgt := 43) (pc' := 13) h dN_dropUnlikeSeen_10 rfl rfl (by omega) (fun c10 => ?_) (fun c10 => ?_)
      · exact gs_vret h hE dN_dropUnlikeSeen_43 (by rw [show (S.1 75 1).toNat = j by omega])
      · refine go_aload_n (pc' := 14) h ⟨dN_dropUnlikeSeen_13, rfl⟩ rfl ?_
        refine gs_get (v := .ref 73) (pc' := 17) h ⟨dN_dropUnlikeSeen_14, rfl⟩ fgN_14 rfl (by decide) (rfl) ?_
        refine go_iload_n (pc' := 18) h ⟨dN_dropUnlikeSeen_17, rfl⟩ rfl ?_
        refine gd_callVI (e := S.1 74 (j : Int)) (E := nst S (dF (S.1 74) (S.1 76) x f j)) (pc' := 21) (As := [.int (iI ((j : Int)))]) (st := []) h hF ⟨dN_dropUnlikeSeen_18, rfl⟩ kvN_50 (by have h0 := cR_ati X (S := nst S (dF (S.1 74) (S.1 76) x f j)) (k := 73) rfl (n := 6) rfl (i := (j : Int)) (by omega); rw [show (73 + 1 : Nat) = 74 from rfl, nst_ne _ _ (by decide) (by decide)] at h0; exact h0) (by omega) rfl (by decide) ⟨_, _, rfl⟩ rfl (Nat.le_of_ble_eq_true rfl) rfl ?_
        have g8 := hc j (by omega) (by omega)
        refine go_iload_n (pc' := 22) h ⟨dN_dropUnlikeSeen_21, rfl⟩ rfl ?_
        refine gi_icmp_ne (tgt := 37) (pc' := 25) h dN_dropUnlikeSeen_22 rfl rfl (by omega) (fun c22 => ?_) (fun c22 => ?_)
        · refine gi_iinc (L' := [.ref 72, .int (iI (x)), .int (iI ((j : Int) + 1))]) (pc' := 40) h ⟨dN_dropUnlikeSeen_37, rfl⟩ rfl (by decide) rfl rfl ?_
          refine gi_goto (tgt := 2) h dN_dropUnlikeSeen_40 rfl ?_
          have g10 := ih (j + 1) (by omega) (by omega)
          rw [show dF (S.1 74) (S.1 76) x f (j + 1) = _ from rfl, dF, if_neg (by omega)] at g10
          exact g10
        · refine go_aload_n (pc' := 26) h ⟨dN_dropUnlikeSeen_25, rfl⟩ rfl ?_
          refine go_aload_n (pc' := 27) h ⟨dN_dropUnlikeSeen_26, rfl⟩ rfl ?_
          refine gs_get (v := .ref 75) (pc' := 30) h ⟨dN_dropUnlikeSeen_27, rfl⟩ fgN_20 rfl (by decide) (rfl) ?_
          refine go_iload_n (pc' := 31) h ⟨dN_dropUnlikeSeen_30, rfl⟩ rfl ?_
          refine gd_callVI (e := S.1 76 (j : Int)) (E := nst S (dF (S.1 74) (S.1 76) x f j)) (pc' := 34) (As := [.int (iI ((j : Int)))]) (st := [.ref 72]) h hF ⟨dN_dropUnlikeSeen_31, rfl⟩ kvN_50 (by have h0 := cR_ati X (S := nst S (dF (S.1 74) (S.1 76) x f j)) (k := 75) rfl (n := 6) rfl (i := (j : Int)) (by omega); rw [show (75 + 1 : Nat) = 76 from rfl, nst_ne _ _ (by decide) (by decide)] at h0; exact h0) (by omega) rfl (by decide) ⟨_, _, rfl⟩ rfl (Nat.le_of_ble_eq_true rfl) rfl ?_
          have g9 := hw j (by omega) (by omega)
          refine gd_callVV (E := nst S (keepF (dF (S.1 74) (S.1 76) x f j) (S.1 76 (j : Int)))) (pc' := 37) (As := [.int (iI (S.1 76 (j : Int)))]) (st := []) h hF ⟨dN_dropUnlikeSeen_34, rfl⟩ kvN_57 (cN_keepOnly X (by omega)) (by omega) rfl (by decide) ⟨_, _, rfl⟩ rfl (Nat.le_of_ble_eq_true rfl) rfl ?_
          refine gi_iinc (L' := [.ref 72, .int (iI (x)), .int (iI ((j : Int) + 1))]) (pc' := 40) h ⟨dN_dropUnlikeSeen_37, rfl⟩ rfl (by decide) rfl rfl ?_
          refine gi_goto (tgt := 2) h dN_dropUnlikeSeen_40 rfl ?_
          have g10 := ih (j + 1) (by omega) (by omega)
          rw [show dF (S.1 74) (S.1 76) x f (j + 1) = _ from rfl, dF, if_pos (by omega)] at g10
          exact g10
  refine gi_iconst (pc' := 1) h ⟨dN_dropUnlikeSeen_0, rfl⟩ ?_
  refine go_istore_n (L' := [.ref 72, .int (iI (x)), .int (iI (0))]) (pc' := 2) h ⟨dN_dropUnlikeSeen_1, rfl⟩ (by decide) rfl rfl ?_
  exact loop 8 0 (by omega) (by omega)
end
section
theorem rempty_77 (S : Sg) : rempty S 77 = nst S (fun _ => 0) := by
  unfold rempty nst
  rw [pt_sw _ _ _ _ (by decide)]
theorem rput_77 (S : Sg) (f : Int → Int) {s : Int} (v : Int) (hs : 0 ≤ s ∧ s ≤ 40) : rput (nst S f) 77 s v = nst S (uF f s v) := by
  have hl : (ln (77 + 1) : Int) = 41 := rfl
  rw [rput_in _ (by omega), pt_aset, show (77 + 1 : Nat) = 78 from rfl, nst_78, nst_aset]
def cwF (cl we : Int → Int) (n : Nat) (rank times : Int) : Nat → Int → Int
  | 0 => dF cl we 0 (uF (fun _ => 0) 0 1) n
  | r + 1 => dF cl we ((r : Int) + 1) (aF (cwF cl we n rank times r) (if (r : Int) = rank then times else 0) (if (r : Int) = rank then times else 9) (-1)) n
def cw (S : Sg) (tr rank times : Int) : Int → Int := cwF (S.1 74) (S.1 76) (S.1 75 1).toNat rank times tr.toNat
def seenOk (S : Sg) : Prop := (0 ≤ S.1 75 1 ∧ S.1 75 1 ≤ 6) ∧ (∀ i : Int, 0 ≤ i → i < S.1 75 1 → 0 ≤ S.1 74 i ∧ S.1 74 i ≤ 100) ∧ (∀ i : Int, 0 ≤ i → i < S.1 75 1 → 0 ≤ S.1 76 i ∧ S.1 76 i ≤ 40)
theorem seenOk.nst {S : Sg} (h : seenOk S) (f : Int → Int) : seenOk (nst S f) := by
  unfold seenOk
  rw [nst_ne _ _ (by decide) (by decide), nst_ne _ _ (by decide) (by decide), nst_ne _ _ (by decide) (by decide)]
  exact h
theorem cw_nst (S : Sg) (f : Int → Int) (tr rank times : Int) : cw (nst S f) tr rank times = cw S tr rank times := by
  unfold cw
  rw [nst_ne _ _ (by decide) (by decide), nst_ne _ _ (by decide) (by decide), nst_ne _ _ (by decide) (by decide)]
set_option maxRecDepth 4000 in
theorem cN_countWays (X : XT) {S : Sg} {tr rank times : Int} (hok : seenOk S) (htr : 0 ≤ tr ∧ tr ≤ 4) (hr : -1 ≤ rank ∧ rank ≤ 4) (ht : 0 ≤ times ∧ times ≤ 9) : Ctr X 3 yN_countWays bN_countWays 6 (some .int) [.ref 72, .int (iI (tr)), .int (iI (rank)), .int (iI (times))] (mk S) (PI (fun r S' => r = sumI (cw S tr rank times) 41 ∧ S' = nst S (cw S tr rank times))) 0 0 := by
  refine Ctr.ofS (by decide) rfl (Nat.le_of_ble_eq_true rfl) (fun F h hF hE => ?_)
  obtain ⟨hz, hc, hw⟩ := id hok
  have loop : ∀ (n : Nat) (j : Nat), 5 < j + n → (j : Int) ≤ tr → Go F 6 (mk (nst S (cwF (S.1 74) (S.1 76) (S.1 75 1).toNat rank times j))) 0 0 24 [.ref 72, .int (iI tr), .int (iI rank), .int (iI times), .int (iI (j : Int))] [] := by
    intro n
    induction n with
    | zero => intro j g4 g6; exfalso; omega
    | succ n ih =>
      intro j g4 g6
      refine go_iload (pc' := 26) h ⟨dN_countWays_24, rfl⟩ rfl ?_
      refine go_iload_n (pc' := 27) h ⟨dN_countWays_26, rfl⟩ rfl ?_
      refine gi_icmp_ge (tgt := 82) (pc' := 30) h dN_countWays_27 rfl rfl (by omega) (fun c27 => ?_) (fun c27 => ?_)
      · refine go_aload_n (pc' := 83) h ⟨dN_countWays_82, rfl⟩ rfl ?_
        refine gs_get (v := .ref 77) (pc' := 86) h ⟨dN_countWays_83, rfl⟩ fgN_23 rfl (by decide) (rfl) ?_
        refine gd_callVI (e := sumI (cwF (S.1 74) (S.1 76) (S.1 75 1).toNat rank times j) 41) (E := nst S (cwF (S.1 74) (S.1 76) (S.1 75 1).toNat rank times j)) (pc' := 89) (As := []) (st := []) h hF ⟨dN_countWays_86, rfl⟩ kvN_42 (by have h0 := cR_sum X (S := nst S (cwF (S.1 74) (S.1 76) (S.1 75 1).toNat rank times j)) (k := 77) rfl; rw [show (77 + 1 : Nat) = 78 from rfl, nst_78] at h0; exact h0) (by omega) rfl (by decide) ⟨_, _, rfl⟩ rfl (Nat.le_of_ble_eq_true rfl) rfl ?_
        exact gs_iret h hE dN_countWays_89 (by unfold cw; rw [show tr.toNat = j by omega]; exact ⟨rfl, rfl⟩)
      · refine go_iload (pc' := 32) h ⟨dN_countWays_30, rfl⟩ rfl ?_
        refine go_iload_n (pc' := 33) h ⟨dN_countWays_32, rfl⟩ rfl ?_
        refine gi_icmp_ne (tgt := 40) (pc' := 36) h dN_countWays_33 rfl rfl (by omega) (fun c33 => ?_) (fun c33 => ?_)
        · refine gi_iconst (pc' := 41) h ⟨dN_countWays_40, rfl⟩ ?_
          refine go_istore (L' := [.ref 72, .int (iI (tr)), .int (iI (rank)), .int (iI (times)), .int (iI ((j : Int))), .int (iI (0))]) (pc' := 43) h ⟨dN_countWays_41, rfl⟩ (by decide) rfl rfl ?_
          refine go_aload_n (pc' := 44) h ⟨dN_countWays_43, rfl⟩ rfl ?_
          refine go_iload (pc' := 46) h ⟨dN_countWays_44, rfl⟩ rfl ?_
          refine gi_if_eq (tgt := 53) (pc' := 49) h dN_countWays_46 rfl rfl (by omega) (fun c46 => ?_) (fun c46 => ?_)
          · refine gi_iconst (pc' := 54) h ⟨dN_countWays_53, rfl⟩ ?_
            refine go_iload (pc' := 56) h ⟨dN_countWays_54, rfl⟩ rfl ?_
            refine gi_if_eq (tgt := 63) (pc' := 59) h dN_countWays_56 rfl rfl (by omega) (fun c56 => ?_) (fun c56 => ?_)
            · refine gi_bipush (pc' := 65) h ⟨dN_countWays_63, rfl⟩ rfl ?_
              refine gd_callVV (E := nst S (aF (cwF (S.1 74) (S.1 76) (S.1 75 1).toNat rank times j) 0 9 (-1))) (pc' := 68) (As := [.int (iI (0)), .int (iI (9))]) (st := []) h hF ⟨dN_countWays_65, rfl⟩ kvN_39 (cN_addGoings X (S := S) (by omega)) (by omega) rfl (by decide) ⟨_, _, rfl⟩ rfl (Nat.le_of_ble_eq_true rfl) rfl ?_
              refine go_aload_n (pc' := 69) h ⟨dN_countWays_68, rfl⟩ rfl ?_
              refine go_iload (pc' := 71) h ⟨dN_countWays_69, rfl⟩ rfl ?_
              refine gi_iconst (pc' := 72) h ⟨dN_countWays_71, rfl⟩ ?_
              refine gi_iadd (pc' := 73) h ⟨dN_countWays_72, rfl⟩ ?_
              refine gd_callVV (E := nst S (dF (S.1 74) (S.1 76) (((j : Int)) + 1) (aF (cwF (S.1 74) (S.1 76) (S.1 75 1).toNat rank times j) 0 9 (-1)) (S.1 75 1).toNat)) (pc' := 76) (As := [.int (iI (((j : Int)) + 1))]) (st := []) h hF ⟨dN_countWays_73, rfl⟩ kvN_36 (cN_drop X (S := S) (by omega) hz hc hw) (by omega) rfl (by decide) ⟨_, _, rfl⟩ rfl (Nat.le_of_ble_eq_true rfl) rfl ?_
              refine gi_iinc (L' := [.ref 72, .int (iI (tr)), .int (iI (rank)), .int (iI (times)), .int (iI ((j : Int) + 1)), .int (iI (0))]) (pc' := 79) h ⟨dN_countWays_76, rfl⟩ rfl (by decide) rfl rfl ?_
              refine gi_goto (tgt := 24) h dN_countWays_79 rfl ?_
              refine Go.cut [.ref 72, .int (iI tr), .int (iI rank), .int (iI times), .int (iI ((j : Int) + 1))] 5 rfl ?_
              have g10 := ih (j + 1) (by omega) (by omega)
              rw [cwF, if_neg (by omega), if_neg (by omega)] at g10
              exact g10
            · exact absurd c56 (by decide)
          · exact absurd c46 (by decide)
        · refine gi_iconst (pc' := 37) h ⟨dN_countWays_36, rfl⟩ ?_
          refine gi_goto (tgt := 41) h dN_countWays_37 rfl ?_
          refine go_istore (L' := [.ref 72, .int (iI (tr)), .int (iI (rank)), .int (iI (times)), .int (iI ((j : Int))), .int (iI (1))]) (pc' := 43) h ⟨dN_countWays_41, rfl⟩ (by decide) rfl rfl ?_
          refine go_aload_n (pc' := 44) h ⟨dN_countWays_43, rfl⟩ rfl ?_
          refine go_iload (pc' := 46) h ⟨dN_countWays_44, rfl⟩ rfl ?_
          refine gi_if_eq (tgt := 53) (pc' := 49) h dN_countWays_46 rfl rfl (by omega) (fun c46 => ?_) (fun c46 => ?_)
          · exact absurd c46 (by decide)
          · refine go_iload_n (pc' := 50) h ⟨dN_countWays_49, rfl⟩ rfl ?_
            refine gi_goto (tgt := 54) h dN_countWays_50 rfl ?_
            refine go_iload (pc' := 56) h ⟨dN_countWays_54, rfl⟩ rfl ?_
            refine gi_if_eq (tgt := 63) (pc' := 59) h dN_countWays_56 rfl rfl (by omega) (fun c56 => ?_) (fun c56 => ?_)
            · exact absurd c56 (by decide)
            · refine go_iload_n (pc' := 60) h ⟨dN_countWays_59, rfl⟩ rfl ?_
              refine gi_goto (tgt := 65) h dN_countWays_60 rfl ?_
              refine gd_callVV (E := nst S (aF (cwF (S.1 74) (S.1 76) (S.1 75 1).toNat rank times j) times times (-1))) (pc' := 68) (As := [.int (iI (times)), .int (iI (times))]) (st := []) h hF ⟨dN_countWays_65, rfl⟩ kvN_39 (cN_addGoings X (S := S) (by omega)) (by omega) rfl (by decide) ⟨_, _, rfl⟩ rfl (Nat.le_of_ble_eq_true rfl) rfl ?_
              refine go_aload_n (pc' := 69) h ⟨dN_countWays_68, rfl⟩ rfl ?_
              refine go_iload (pc' := 71) h ⟨dN_countWays_69, rfl⟩ rfl ?_
              refine gi_iconst (pc' := 72) h ⟨dN_countWays_71, rfl⟩ ?_
              refine gi_iadd (pc' := 73) h ⟨dN_countWays_72, rfl⟩ ?_
              refine gd_callVV (E := nst S (dF (S.1 74) (S.1 76) (((j : Int)) + 1) (aF (cwF (S.1 74) (S.1 76) (S.1 75 1).toNat rank times j) times times (-1)) (S.1 75 1).toNat)) (pc' := 76) (As := [.int (iI (((j : Int)) + 1))]) (st := []) h hF ⟨dN_countWays_73, rfl⟩ kvN_36 (cN_drop X (S := S) (by omega) hz hc hw) (by omega) rfl (by decide) ⟨_, _, rfl⟩ rfl (Nat.le_of_ble_eq_true rfl) rfl ?_
              refine gi_iinc (L' := [.ref 72, .int (iI (tr)), .int (iI (rank)), .int (iI (times)), .int (iI ((j : Int) + 1)), .int (iI (1))]) (pc' := 79) h ⟨dN_countWays_76, rfl⟩ rfl (by decide) rfl rfl ?_
              refine gi_goto (tgt := 24) h dN_countWays_79 rfl ?_
              refine Go.cut [.ref 72, .int (iI tr), .int (iI rank), .int (iI times), .int (iI ((j : Int) + 1))] 5 rfl ?_
              have g10 := ih (j + 1) (by omega) (by omega)
              rw [cwF, if_pos (by omega), if_pos (by omega)] at g10
              exact g10
  refine go_aload_n (pc' := 1) h ⟨dN_countWays_0, rfl⟩ rfl ?_
  refine gs_get (v := .ref 77) (pc' := 4) h ⟨dN_countWays_1, rfl⟩ fgN_23 rfl (by decide) (rfl) ?_
  refine gd_callVV (E := rempty S 77) (pc' := 7) (As := []) (st := []) h hF ⟨dN_countWays_4, rfl⟩ kvN_26 (cR_empty X rfl) (by omega) rfl (by decide) ⟨_, _, rfl⟩ rfl (Nat.le_of_ble_eq_true rfl) rfl ?_
  rw [rempty_77]
  refine go_aload_n (pc' := 8) h ⟨dN_countWays_7, rfl⟩ rfl ?_
  refine gs_get (v := .ref 77) (pc' := 11) h ⟨dN_countWays_8, rfl⟩ fgN_23 rfl (by decide) (rfl) ?_
  refine gi_iconst (pc' := 12) h ⟨dN_countWays_11, rfl⟩ ?_
  refine gi_iconst (pc' := 13) h ⟨dN_countWays_12, rfl⟩ ?_
  refine gd_callVV (E := rput (nst S (fun _ => 0)) 77 0 1) (pc' := 16) (As := [.int (iI (0)), .int (iI (1))]) (st := []) h hF ⟨dN_countWays_13, rfl⟩ kvN_32 (cR_put X rfl (by omega)) (by omega) rfl (by decide) ⟨_, _, rfl⟩ rfl (Nat.le_of_ble_eq_true rfl) rfl ?_
  rw [rput_77 _ _ _ (by omega)]
  refine go_aload_n (pc' := 17) h ⟨dN_countWays_16, rfl⟩ rfl ?_
  refine gi_iconst (pc' := 18) h ⟨dN_countWays_17, rfl⟩ ?_
  refine gd_callVV (E := nst S (dF (S.1 74) (S.1 76) 0 (uF (fun _ => 0) 0 1) (S.1 75 1).toNat)) (pc' := 21) (As := [.int (iI (0))]) (st := []) h hF ⟨dN_countWays_18, rfl⟩ kvN_36 (cN_drop X (S := S) (by omega) hz hc hw) (by omega) rfl (by decide) ⟨_, _, rfl⟩ rfl (Nat.le_of_ble_eq_true rfl) rfl ?_
  refine gi_iconst (pc' := 22) h ⟨dN_countWays_21, rfl⟩ ?_
  refine go_istore (L' := [.ref 72, .int (iI (tr)), .int (iI (rank)), .int (iI (times)), .int (iI (0))]) (pc' := 24) h ⟨dN_countWays_22, rfl⟩ (by decide) rfl rfl ?_
  exact loop 6 0 (by omega) (by omega)
set_option maxRecDepth 4000 in
theorem cN_fewest (X : XT) {S : Sg} {tr : Int} (hok : seenOk S) (htr : 0 ≤ tr ∧ tr ≤ 4) (hb : ∀ j : Int, 0 ≤ j → j ≤ 40 → 0 ≤ cw S tr (-1) 0 j ∧ cw S tr (-1) 0 j ≤ 2147483647) : Ctr X 4 yN_fewestGoings bN_fewestGoings 3 (some .int) [.ref 72, .int (iI (tr))] (mk S) (PI (fun r S' => S' = nst S (cw S tr (-1) 0) ∧ ((r = -9 ∧ ∀ j : Int, 0 ≤ j → j ≤ 40 → cw S tr (-1) 0 j ≤ 0) ∨ (0 ≤ r ∧ r ≤ 40 ∧ 0 < cw S tr (-1) 0 r ∧ ∀ j : Int, 0 ≤ j → j < r → cw S tr (-1) 0 j ≤ 0)))) 0 0 := by
  refine Ctr.ofS (by decide) rfl (Nat.le_of_ble_eq_true rfl) (fun F h hF hE => ?_)
  have loop : ∀ (n : Nat) (j : Int), 41 < j + n → 0 ≤ j → j ≤ 41 → (∀ i : Int, 0 ≤ i → i < j → cw S tr (-1) 0 i ≤ 0) → Go F 3 (mk (nst S (cw S tr (-1) 0))) 0 0 10 [.ref 72, .int (iI tr), .int (iI j)] [] := by
    intro n
    induction n with
    | zero => intro j g4 g5 g6; exfalso; omega
    | succ n ih =>
      intro j g4 g5 g6 g7
      refine go_iload_n (pc' := 11) h ⟨dN_fewestGoings_10, rfl⟩ rfl ?_
      refine gi_bipush (pc' := 13) h ⟨dN_fewestGoings_11, rfl⟩ rfl ?_
      refine gi_icmp_gt (tgt := 35) (pc' := 16) h dN_fewestGoings_13 rfl rfl (by omega) (fun c13 => ?_) (fun c13 => ?_)
      · refine gi_bipush (pc' := 37) h ⟨dN_fewestGoings_35, rfl⟩ rfl ?_
        exact gs_iret h hE dN_fewestGoings_37 (⟨rfl, Or.inl ⟨rfl, fun i i1 i2 => g7 i i1 (by omega)⟩⟩)
      · refine go_aload_n (pc' := 17) h ⟨dN_fewestGoings_16, rfl⟩ rfl ?_
        refine gs_get (v := .ref 77) (pc' := 20) h ⟨dN_fewestGoings_17, rfl⟩ fgN_23 rfl (by decide) (rfl) ?_
        refine go_iload_n (pc' := 21) h ⟨dN_fewestGoings_20, rfl⟩ rfl ?_
        refine gd_callVI (e := cw S tr (-1) 0 j) (E := nst S (cw S tr (-1) 0)) (pc' := 24) (As := [.int (iI (j))]) (st := []) h hF ⟨dN_fewestGoings_21, rfl⟩ kvN_50 (by have h0 := cR_ati X (S := nst S (cw S tr (-1) 0)) (k := 77) rfl (n := 41) rfl (i := j) (by omega); rw [show (77 + 1 : Nat) = 78 from rfl, nst_78] at h0; exact h0) (by omega) rfl (by decide) ⟨_, _, rfl⟩ rfl (Nat.le_of_ble_eq_true rfl) rfl ?_
        have g8 := hb j (by omega) (by omega)
        refine gi_if_le (tgt := 29) (pc' := 27) h dN_fewestGoings_24 rfl rfl (by omega) (fun c24 => ?_) (fun c24 => ?_)
        · refine gi_iinc (L' := [.ref 72, .int (iI (tr)), .int (iI (j + 1))]) (pc' := 32) h ⟨dN_fewestGoings_29, rfl⟩ rfl (by decide) rfl rfl ?_
          refine gi_goto (tgt := 10) h dN_fewestGoings_32 rfl ?_
          exact ih (j + 1) (by omega) (by omega) (by omega) (fun i i1 i2 => by
            by_cases hi : i = j
            · rw [hi]; omega
            · exact g7 i i1 (by omega))
        · refine go_iload_n (pc' := 28) h ⟨dN_fewestGoings_27, rfl⟩ rfl ?_
          exact gs_iret h hE dN_fewestGoings_28 (⟨rfl, Or.inr ⟨by omega, by omega, by omega, g7⟩⟩)
  refine go_aload_n (pc' := 1) h ⟨dN_fewestGoings_0, rfl⟩ rfl ?_
  refine go_iload_n (pc' := 2) h ⟨dN_fewestGoings_1, rfl⟩ rfl ?_
  refine gi_iconst (pc' := 3) h ⟨dN_fewestGoings_2, rfl⟩ ?_
  refine gi_iconst (pc' := 4) h ⟨dN_fewestGoings_3, rfl⟩ ?_
  refine gd_callVI (e := sumI (cw S tr (-1) 0) 41) (E := nst S (cw S tr (-1) 0)) (pc' := 7) (As := [.int (iI (tr)), .int (iI (-1)), .int (iI (0))]) (st := []) h hF ⟨dN_fewestGoings_4, rfl⟩ kvN_46 (cN_countWays X hok (by omega) (by omega) (by omega)) (by omega) rfl (by decide) ⟨_, _, rfl⟩ rfl (Nat.le_of_ble_eq_true rfl) rfl ?_
  refine go_pop (pc' := 8) h ⟨dN_fewestGoings_7, rfl⟩ rfl ?_
  refine gi_iconst (pc' := 9) h ⟨dN_fewestGoings_8, rfl⟩ ?_
  refine go_istore_n (L' := [.ref 72, .int (iI (tr)), .int (iI (0))]) (pc' := 10) h ⟨dN_fewestGoings_9, rfl⟩ (by decide) rfl rfl ?_
  exact loop 42 0 (by omega) (by omega) (by omega) (fun i i1 i2 => by omega)
def wayN (S : Sg) (tr rank t : Int) : Int := sumI (cw S tr rank t) 41
set_option maxRecDepth 4000 in
theorem cN_times (X : XT) {S : Sg} {tr rank : Int} (hok : seenOk S) (htr : 0 ≤ tr ∧ tr ≤ 4) (hr : 0 ≤ rank ∧ rank ≤ 4) (hb : ∀ q t : Int, 0 ≤ wayN S tr q t ∧ wayN S tr q t ≤ 2147483647) : Ctr X 4 yN_timesInAll bN_timesInAll 5 (some .int) [.ref 72, .int (iI (tr)), .int (iI (rank))] (mk S) (PI (fun r S' => (∃ f, S' = nst S f) ∧ ((r = -9 ∧ (wayN S tr (-1) 0 ≤ 0 ∨ ∀ t : Int, 0 ≤ t → t ≤ 9 → wayN S tr rank t ≠ wayN S tr (-1) 0)) ∨ (0 ≤ r ∧ r ≤ 9 ∧ 0 < wayN S tr (-1) 0 ∧ wayN S tr rank r = wayN S tr (-1) 0 ∧ ∀ t : Int, 0 ≤ t → t < r → wayN S tr rank t ≠ wayN S tr (-1) 0)))) 0 0 := by
  refine Ctr.ofS (by decide) rfl (Nat.le_of_ble_eq_true rfl) (fun F h hF hE => ?_)
  have hb0 := hb (-1) 0
  have loop : ∀ (n : Nat) (j : Int) (f : Int → Int), 10 < j + n → 0 ≤ j → j ≤ 10 → (∀ i : Int, 0 ≤ i → i < j → wayN S tr rank i ≠ wayN S tr (-1) 0) → Go F 5 (mk (nst S f)) 0 0 11 [.ref 72, .int (iI tr), .int (iI rank), .int (iI (wayN S tr (-1) 0)), .int (iI j)] [] := by
    intro n
    induction n with
    | zero => intro j f g4 g5 g6; exfalso; omega
    | succ n ih =>
      intro j f g4 g5 g6 g7
      have hbj := hb rank j
      refine go_iload (pc' := 13) h ⟨dN_timesInAll_11, rfl⟩ rfl ?_
      refine gi_bipush (pc' := 15) h ⟨dN_timesInAll_13, rfl⟩ rfl ?_
      refine gi_icmp_gt (tgt := 43) (pc' := 18) h dN_timesInAll_15 rfl rfl (by omega) (fun c15 => ?_) (fun c15 => ?_)
      · refine gi_bipush (pc' := 45) h ⟨dN_timesInAll_43, rfl⟩ rfl ?_
        exact gs_iret h hE dN_timesInAll_45 (⟨⟨_, rfl⟩, Or.inl ⟨rfl, Or.inr (fun i i1 i2 => g7 i i1 (by omega))⟩⟩)
      · refine go_iload_n (pc' := 19) h ⟨dN_timesInAll_18, rfl⟩ rfl ?_
        refine gi_if_le (tgt := 43) (pc' := 22) h dN_timesInAll_19 rfl rfl (by omega) (fun c19 => ?_) (fun c19 => ?_)
        · refine gi_bipush (pc' := 45) h ⟨dN_timesInAll_43, rfl⟩ rfl ?_
          exact gs_iret h hE dN_timesInAll_45 (⟨⟨_, rfl⟩, Or.inl ⟨rfl, Or.inl (by omega)⟩⟩)
        · refine go_aload_n (pc' := 23) h ⟨dN_timesInAll_22, rfl⟩ rfl ?_
          refine go_iload_n (pc' := 24) h ⟨dN_timesInAll_23, rfl⟩ rfl ?_
          refine go_iload_n (pc' := 25) h ⟨dN_timesInAll_24, rfl⟩ rfl ?_
          refine go_iload (pc' := 27) h ⟨dN_timesInAll_25, rfl⟩ rfl ?_
          refine gd_callVI (e := wayN S tr rank j) (E := nst S (cw S tr rank j)) (pc' := 30) (As := [.int (iI (tr)), .int (iI (rank)), .int (iI (j))]) (st := []) h hF ⟨dN_timesInAll_27, rfl⟩ kvN_46 (by have h0 := cN_countWays X (tr := tr) (rank := rank) (times := j) (hok.nst f) (by omega) (by omega) (by omega); rw [cw_nst, nst_nst] at h0; exact h0) (by omega) rfl (by decide) ⟨_, _, rfl⟩ rfl (Nat.le_of_ble_eq_true rfl) rfl ?_
          refine go_iload_n (pc' := 31) h ⟨dN_timesInAll_30, rfl⟩ rfl ?_
          refine gi_icmp_ne (tgt := 37) (pc' := 34) h dN_timesInAll_31 rfl rfl (by omega) (fun c31 => ?_) (fun c31 => ?_)
          · refine gi_iinc (L' := [.ref 72, .int (iI (tr)), .int (iI (rank)), .int (iI (wayN S tr (-1) 0)), .int (iI (j + 1))]) (pc' := 40) h ⟨dN_timesInAll_37, rfl⟩ rfl (by decide) rfl rfl ?_
            refine gi_goto (tgt := 11) h dN_timesInAll_40 rfl ?_
            exact ih (j + 1) _ (by omega) (by omega) (by omega) (fun i i1 i2 => by
              by_cases hi : i = j
              · rw [hi]; assumption
              · exact g7 i i1 (by omega))
          · refine go_iload (pc' := 36) h ⟨dN_timesInAll_34, rfl⟩ rfl ?_
            exact gs_iret h hE dN_timesInAll_36 (⟨⟨_, rfl⟩, Or.inr ⟨by omega, by omega, by omega, by omega, g7⟩⟩)
  refine go_aload_n (pc' := 1) h ⟨dN_timesInAll_0, rfl⟩ rfl ?_
  refine go_iload_n (pc' := 2) h ⟨dN_timesInAll_1, rfl⟩ rfl ?_
  refine gi_iconst (pc' := 3) h ⟨dN_timesInAll_2, rfl⟩ ?_
  refine gi_iconst (pc' := 4) h ⟨dN_timesInAll_3, rfl⟩ ?_
  refine gd_callVI (e := wayN S tr (-1) 0) (E := nst S (cw S tr (-1) 0)) (pc' := 7) (As := [.int (iI (tr)), .int (iI (-1)), .int (iI (0))]) (st := []) h hF ⟨dN_timesInAll_4, rfl⟩ kvN_46 (cN_countWays X hok (by omega) (by omega) (by omega)) (by omega) rfl (by decide) ⟨_, _, rfl⟩ rfl (Nat.le_of_ble_eq_true rfl) rfl ?_
  refine go_istore_n (L' := [.ref 72, .int (iI (tr)), .int (iI (rank)), .int (iI (wayN S tr (-1) 0))]) (pc' := 8) h ⟨dN_timesInAll_7, rfl⟩ (by decide) rfl rfl ?_
  refine gi_iconst (pc' := 9) h ⟨dN_timesInAll_8, rfl⟩ ?_
  refine go_istore (L' := [.ref 72, .int (iI (tr)), .int (iI (rank)), .int (iI (wayN S tr (-1) 0)), .int (iI (0))]) (pc' := 11) h ⟨dN_timesInAll_9, rfl⟩ (by decide) rfl rfl ?_
  exact loop 11 0 _ (by omega) (by omega) (by omega) (fun i i1 i2 => by omega)
/-! numbers by themselves -/
def dvU (w q : Int) : Int := if q < 1 then 0 else (w + q - 1) / q
def bitI (a k : Int) : Int := a / 2 ^ k.toNat % 2
def onesI (a : Int) : Int := sumI (bitI a) 6
def gcF : Nat → Int → Int → Int
  | 0, f, _ => f
  | n + 1, f, r => if r = 0 then f else gcF n r (f % r)
theorem shl_1 : ∀ k : Nat, k < 5 → iI 1 <<< (iI (k : Int) &&& 31) = iI (2 ^ k) := by decide +kernel
theorem shl1 {k : Int} (h : 0 ≤ k ∧ k ≤ 4) : iI 1 <<< (iI k &&& 31) = iI (2 ^ k.toNat) := by
  have := shl_1 k.toNat (by omega)
  rwa [Int.toNat_of_nonneg h.1] at this
theorem and_1 : ∀ a : Nat, a < 16 → ∀ k : Nat, k < 4 → iI (a : Int) &&& iI (2 ^ k) = iI (bitI (a : Int) (k : Int) * 2 ^ k) := by decide +kernel
theorem and1 {a k : Int} (ha : 0 ≤ a ∧ a ≤ 15) (hk : 0 ≤ k ∧ k ≤ 3) : iI a &&& iI (2 ^ k.toNat) = iI (bitI a k * 2 ^ k.toNat) := by
  have := and_1 a.toNat (by omega) k.toNat (by omega)
  rwa [Int.toNat_of_nonneg ha.1, Int.toNat_of_nonneg hk.1] at this
theorem or_1 : ∀ a : Nat, a < 16 → ∀ k : Nat, k < 4 → bitI (a : Int) (k : Int) = 0 → iI (a : Int) ||| iI (2 ^ k) = iI ((a : Int) + 2 ^ k) ∧ (a : Int) + 2 ^ k ≤ 15 := by decide +kernel
theorem or1 {a k : Int} (ha : 0 ≤ a ∧ a ≤ 15) (hk : 0 ≤ k ∧ k ≤ 3) (h : bitI a k = 0) : iI a ||| iI (2 ^ k.toNat) = iI (a + 2 ^ k.toNat) ∧ a + 2 ^ k.toNat ≤ 15 := by
  have := or_1 a.toNat (by omega) k.toNat (by omega)
  rw [Int.toNat_of_nonneg ha.1, Int.toNat_of_nonneg hk.1] at this
  exact this h
theorem pow2_le : ∀ k : Nat, k < 5 → (1 : Int) ≤ 2 ^ k ∧ (2 : Int) ^ k ≤ 16 := by decide +kernel
theorem pow2le {k : Int} (h : 0 ≤ k ∧ k ≤ 4) : (1 : Int) ≤ 2 ^ k.toNat ∧ (2 : Int) ^ k.toNat ≤ 16 := pow2_le k.toNat (by omega)
theorem bitI_01 (a k : Int) : bitI a k = 0 ∨ bitI a k = 1 := by unfold bitI; omega
set_option maxRecDepth 4000 in
theorem cX_divideUp (X : XT) {S : Sg} {a q : Int} (ha : 0 ≤ a ∧ a ≤ 1000000000) (hq : -1000 ≤ q ∧ q ≤ 1000) : Ctr X 0 yX_divideUp bX_divideUp 2 (some .int) [.int (iI (a)), .int (iI (q))] (mk S) (PI (fun r S' => r = dvU a q ∧ S' = S)) 0 0 := by
  refine Ctr.ofS (by decide) rfl (Nat.le_of_ble_eq_true rfl) (fun F h hF hE => ?_)
  refine go_iload_n (pc' := 1) h ⟨dX_divideUp_0, rfl⟩ rfl ?_
  refine gi_iconst (pc' := 2) h ⟨dX_divideUp_1, rfl⟩ ?_
  refine gi_icmp_ge (tgt := 9) (pc' := 5) h dX_divideUp_2 rfl rfl (by omega) (fun c2 => ?_) (fun c2 => ?_)
  · refine go_iload_n (pc' := 10) h ⟨dX_divideUp_9, rfl⟩ rfl ?_
    refine go_iload_n (pc' := 11) h ⟨dX_divideUp_10, rfl⟩ rfl ?_
    refine gi_iadd (pc' := 12) h ⟨dX_divideUp_11, rfl⟩ ?_
    refine gi_iconst (pc' := 13) h ⟨dX_divideUp_12, rfl⟩ ?_
    refine gi_isub (pc' := 14) h ⟨dX_divideUp_13, rfl⟩ ?_
    refine go_iload_n (pc' := 15) h ⟨dX_divideUp_14, rfl⟩ rfl ?_
    refine gi_idiv (pc' := 16) h ⟨dX_divideUp_15, rfl⟩ (by omega) ?_
    exact gs_iret h hE dX_divideUp_16 (by unfold dvU; rw [if_neg (by omega)]; exact ⟨rfl, rfl⟩)
  · refine gi_iconst (pc' := 6) h ⟨dX_divideUp_5, rfl⟩ ?_
    refine gi_goto (tgt := 16) h dX_divideUp_6 rfl ?_
    exact gs_iret h hE dX_divideUp_16 (by unfold dvU; rw [if_pos (by omega)]; exact ⟨rfl, rfl⟩)
set_option maxRecDepth 4000 in
theorem cX_power (X : XT) {S : Sg} {b e : Int} (he : -100 ≤ e ∧ e ≤ 100) : Ctr X 0 yX_power bX_power 4 (some .int) [.int (iI (b)), .int (iI (e))] (mk S) (PI (fun r S' => r = b ^ e.toNat ∧ S' = S)) 0 0 := by
  refine Ctr.ofS (by decide) rfl (Nat.le_of_ble_eq_true rfl) (fun F h hF hE => ?_)
  have loop : ∀ (n : Nat) (j : Nat), 101 < j + n → (j : Int) ≤ max e 0 → Go F 4 (mk S) 0 0 4 [.int (iI b), .int (iI e), .int (iI (b ^ j)), .int (iI (j : Int))] [] := by
    intro n
    induction n with
    | zero => intro j g4 g6; exfalso; omega
    | succ n ih =>
      intro j g4 g6
      refine go_iload_n (pc' := 5) h ⟨dX_power_4, rfl⟩ rfl ?_
      refine go_iload_n (pc' := 6) h ⟨dX_power_5, rfl⟩ rfl ?_
      refine gi_icmp_ge (tgt := 19) (pc' := 9) h dX_power_6 rfl rfl (by omega) (fun c6 => ?_) (fun c6 => ?_)
      · refine go_iload_n (pc' := 20) h ⟨dX_power_19, rfl⟩ rfl ?_
        exact gs_iret h hE dX_power_20 (⟨by rw [show e.toNat = j by omega], rfl⟩)
      · refine go_iload_n (pc' := 10) h ⟨dX_power_9, rfl⟩ rfl ?_
        refine go_iload_n (pc' := 11) h ⟨dX_power_10, rfl⟩ rfl ?_
        refine gi_imul (pc' := 12) h ⟨dX_power_11, rfl⟩ ?_
        refine go_istore_n (L' := [.int (iI (b)), .int (iI (e)), .int (iI ((b ^ j) * b)), .int (iI ((j : Int)))]) (pc' := 13) h ⟨dX_power_12, rfl⟩ (by decide) rfl rfl ?_
        refine gi_iinc (L' := [.int (iI (b)), .int (iI (e)), .int (iI ((b ^ j) * b)), .int (iI ((j : Int) + 1))]) (pc' := 16) h ⟨dX_power_13, rfl⟩ rfl (by decide) rfl rfl ?_
        refine gi_goto (tgt := 4) h dX_power_16 rfl ?_
        have g7 := ih (j + 1) (by omega) (by omega)
        rw [Int.pow_succ] at g7
        exact g7
  refine gi_iconst (pc' := 1) h ⟨dX_power_0, rfl⟩ ?_
  refine go_istore_n (L' := [.int (iI (b)), .int (iI (e)), .int (iI (1))]) (pc' := 2) h ⟨dX_power_1, rfl⟩ (by decide) rfl rfl ?_
  refine gi_iconst (pc' := 3) h ⟨dX_power_2, rfl⟩ ?_
  refine go_istore_n (L' := [.int (iI (b)), .int (iI (e)), .int (iI (1)), .int (iI (0))]) (pc' := 4) h ⟨dX_power_3, rfl⟩ (by decide) rfl rfl ?_
  have h0 := loop 102 0 (by omega) (by omega)
  rw [Int.pow_zero] at h0
  exact h0
set_option maxRecDepth 4000 in
theorem cX_gcd (X : XT) {S : Sg} {a b : Int} (ha : 0 ≤ a ∧ a ≤ 1000000000) (hb : 0 ≤ b ∧ b ≤ 1000000000) : Ctr X 0 yX_commonFactor bX_commonFactor 6 (some .int) [.int (iI (a)), .int (iI (b))] (mk S) (PI (fun r S' => r = gcF 64 a b ∧ S' = S)) 0 0 := by
  refine Ctr.ofS (by decide) rfl (Nat.le_of_ble_eq_true rfl) (fun F h hF hE => ?_)
  have loop : ∀ (n : Nat) (j f r : Int), j + n = 64 → 0 ≤ j → 0 ≤ f ∧ f ≤ 1000000000 → 0 ≤ r ∧ r ≤ 1000000000 → gcF 64 a b = gcF n f r → Go F 6 (mk S) 0 0 7 [.int (iI a), .int (iI b), .int (iI f), .int (iI r), .int (iI j)] [] := by
    intro n
    induction n with
    | zero =>
      intro j f r g1 g2 g3 g4 g5
      refine go_iload (pc' := 9) h ⟨dX_commonFactor_7, rfl⟩ rfl ?_
      refine gi_bipush (pc' := 11) h ⟨dX_commonFactor_9, rfl⟩ rfl ?_
      refine gi_icmp_ge (tgt := 34) (pc' := 14) h dX_commonFactor_11 rfl rfl (by omega) (fun c11 => ?_) (fun c11 => ?_)
      · refine go_iload_n (pc' := 35) h ⟨dX_commonFactor_34, rfl⟩ rfl ?_
        exact gs_iret h hE dX_commonFactor_35 (⟨by rw [g5]; rfl, rfl⟩)
      · exfalso; omega
    | succ n ih =>
      intro j f r g1 g2 g3 g4 g5
      refine go_iload (pc' := 9) h ⟨dX_commonFactor_7, rfl⟩ rfl ?_
      refine gi_bipush (pc' := 11) h ⟨dX_commonFactor_9, rfl⟩ rfl ?_
      refine gi_icmp_ge (tgt := 34) (pc' := 14) h dX_commonFactor_11 rfl rfl (by omega) (fun c11 => ?_) (fun c11 => ?_)
      · refine go_iload_n (pc' := 35) h ⟨dX_commonFactor_34, rfl⟩ rfl ?_
        exact gs_iret h hE dX_commonFactor_35 (⟨by omega, rfl⟩)
      · refine go_iload_n (pc' := 15) h ⟨dX_commonFactor_14, rfl⟩ rfl ?_
        refine gi_if_eq (tgt := 34) (pc' := 18) h dX_commonFactor_15 rfl rfl (by omega) (fun c15 => ?_) (fun c15 => ?_)
        · refine go_iload_n (pc' := 35) h ⟨dX_commonFactor_34, rfl⟩ rfl ?_
          exact gs_iret h hE dX_commonFactor_35 (⟨by rw [g5, gcF, if_pos (by omega)], rfl⟩)
        · refine go_iload_n (pc' := 19) h ⟨dX_commonFactor_18, rfl⟩ rfl ?_
          refine go_iload_n (pc' := 20) h ⟨dX_commonFactor_19, rfl⟩ rfl ?_
          refine gi_irem (pc' := 21) h ⟨dX_commonFactor_20, rfl⟩ (by omega) ?_
          refine go_istore (L' := [.int (iI (a)), .int (iI (b)), .int (iI (f)), .int (iI (r)), .int (iI (j)), .int (iI (f % r))]) (pc' := 23) h ⟨dX_commonFactor_21, rfl⟩ (by decide) rfl rfl ?_
          refine go_iload_n (pc' := 24) h ⟨dX_commonFactor_23, rfl⟩ rfl ?_
          refine go_istore_n (L' := [.int (iI (a)), .int (iI (b)), .int (iI (r)), .int (iI (r)), .int (iI (j)), .int (iI (f % r))]) (pc' := 25) h ⟨dX_commonFactor_24, rfl⟩ (by decide) rfl rfl ?_
          refine go_iload (pc' := 27) h ⟨dX_commonFactor_25, rfl⟩ rfl ?_
          refine go_istore_n (L' := [.int (iI (a)), .int (iI (b)), .int (iI (r)), .int (iI (f % r)), .int (iI (j)), .int (iI (f % r))]) (pc' := 28) h ⟨dX_commonFactor_27, rfl⟩ (by decide) rfl rfl ?_
          refine gi_iinc (L' := [.int (iI (a)), .int (iI (b)), .int (iI (r)), .int (iI (f % r)), .int (iI (j + 1)), .int (iI (f % r))]) (pc' := 31) h ⟨dX_commonFactor_28, rfl⟩ rfl (by decide) rfl rfl ?_
          refine gi_goto (tgt := 7) h dX_commonFactor_31 rfl ?_
          refine Go.cut [.int (iI a), .int (iI b), .int (iI r), .int (iI (f % r)), .int (iI (j + 1))] 5 rfl ?_
          have g6 : 0 ≤ f % r := Int.emod_nonneg _ (by omega)
          have g7 : f % r < r := Int.emod_lt_of_pos _ (by omega)
          exact ih (j + 1) r (f % r) (by omega) (by omega) (by omega) (by omega) (by rw [g5, gcF, if_neg (by omega)])
  refine go_iload_n (pc' := 1) h ⟨dX_commonFactor_0, rfl⟩ rfl ?_
  refine go_istore_n (L' := [.int (iI (a)), .int (iI (b)), .int (iI (a))]) (pc' := 2) h ⟨dX_commonFactor_1, rfl⟩ (by decide) rfl rfl ?_
  refine go_iload_n (pc' := 3) h ⟨dX_commonFactor_2, rfl⟩ rfl ?_
  refine go_istore_n (L' := [.int (iI (a)), .int (iI (b)), .int (iI (a)), .int (iI (b))]) (pc' := 4) h ⟨dX_commonFactor_3, rfl⟩ (by decide) rfl rfl ?_
  refine gi_iconst (pc' := 5) h ⟨dX_commonFactor_4, rfl⟩ ?_
  refine go_istore (L' := [.int (iI (a)), .int (iI (b)), .int (iI (a)), .int (iI (b)), .int (iI (0))]) (pc' := 7) h ⟨dX_commonFactor_5, rfl⟩ (by decide) rfl rfl ?_
  exact loop 64 0 a b (by omega) (by omega) ha hb rfl
set_option maxRecDepth 4000 in
theorem cJ_bitCount (X : XT) {S : Sg} {a : Int} (ha : 0 ≤ a ∧ a ≤ 15) : Ctr X 0 yJ_bitCount bJ_bitCount 1 (some .int) [.int (iI (a))] (mk S) (PI (fun r S' => r = onesI a ∧ S' = S)) 0 0 := by
  refine Ctr.ofSF (by decide +kernel) rfl (Nat.le_of_ble_eq_true rfl) (fun F h hF hE => ?_)
  refine go_iload_n (pc' := 1) h ⟨dJ_bitCount_0, rfl⟩ rfl ?_
  refine go_iload_n (pc' := 2) h ⟨dJ_bitCount_1, rfl⟩ rfl ?_
  refine gi_iconst (pc' := 3) h ⟨dJ_bitCount_2, rfl⟩ ?_
  refine go_iushr (pc' := 4) h ⟨dJ_bitCount_3, rfl⟩ rfl ?_
  refine go_ldc_w (pc' := 7) h ⟨dJ_bitCount_4, rfl⟩ csJ_265 ?_
  refine go_iand (pc' := 8) h ⟨dJ_bitCount_7, rfl⟩ ?_
  refine go_isub (pc' := 9) h ⟨dJ_bitCount_8, rfl⟩ ?_
  refine go_istore_n (L' := [.int ((iI (a)) - (((Int32.toUInt32 (iI (a)) >>> (Int32.toUInt32 (iI (1)) &&& Int32.toUInt32 31)).toInt32) &&& (iI (1431655765))))]) (pc' := 10) h ⟨dJ_bitCount_9, rfl⟩ (by decide) rfl rfl ?_
  refine go_iload_n (pc' := 11) h ⟨dJ_bitCount_10, rfl⟩ rfl ?_
  refine go_ldc_w (pc' := 14) h ⟨dJ_bitCount_11, rfl⟩ csJ_266 ?_
  refine go_iand (pc' := 15) h ⟨dJ_bitCount_14, rfl⟩ ?_
  refine go_iload_n (pc' := 16) h ⟨dJ_bitCount_15, rfl⟩ rfl ?_
  refine gi_iconst (pc' := 17) h ⟨dJ_bitCount_16, rfl⟩ ?_
  refine go_iushr (pc' := 18) h ⟨dJ_bitCount_17, rfl⟩ rfl ?_
  refine go_ldc_w (pc' := 21) h ⟨dJ_bitCount_18, rfl⟩ csJ_266 ?_
  refine go_iand (pc' := 22) h ⟨dJ_bitCount_21, rfl⟩ ?_
  refine go_iadd (pc' := 23) h ⟨dJ_bitCount_22, rfl⟩ ?_
  refine go_istore_n (L' := [.int ((((iI (a)) - (((Int32.toUInt32 (iI (a)) >>> (Int32.toUInt32 (iI (1)) &&& Int32.toUInt32 31)).toInt32) &&& (iI (1431655765)))) &&& (iI (858993459))) + (((Int32.toUInt32 ((iI (a)) - (((Int32.toUInt32 (iI (a)) >>> (Int32.toUInt32 (iI (1)) &&& Int32.toUInt32 31)).toInt32) &&& (iI (1431655765)))) >>> (Int32.toUInt32 (iI (2)) &&& Int32.toUInt32 31)).toInt32) &&& (iI (858993459))))]) (pc' := 24) h ⟨dJ_bitCount_23, rfl⟩ (by decide) rfl rfl ?_
  refine go_iload_n (pc' := 25) h ⟨dJ_bitCount_24, rfl⟩ rfl ?_
  refine go_iload_n (pc' := 26) h ⟨dJ_bitCount_25, rfl⟩ rfl ?_
  refine gi_iconst (pc' := 27) h ⟨dJ_bitCount_26, rfl⟩ ?_
  refine go_iushr (pc' := 28) h ⟨dJ_bitCount_27, rfl⟩ rfl ?_
  refine go_iadd (pc' := 29) h ⟨dJ_bitCount_28, rfl⟩ ?_
  refine go_ldc_w (pc' := 32) h ⟨dJ_bitCount_29, rfl⟩ csJ_267 ?_
  refine go_iand (pc' := 33) h ⟨dJ_bitCount_32, rfl⟩ ?_
  refine go_istore_n (L' := [.int ((((((iI (a)) - (((Int32.toUInt32 (iI (a)) >>> (Int32.toUInt32 (iI (1)) &&& Int32.toUInt32 31)).toInt32) &&& (iI (1431655765)))) &&& (iI (858993459))) + (((Int32.toUInt32 ((iI (a)) - (((Int32.toUInt32 (iI (a)) >>> (Int32.toUInt32 (iI (1)) &&& Int32.toUInt32 31)).toInt32) &&& (iI (1431655765)))) >>> (Int32.toUInt32 (iI (2)) &&& Int32.toUInt32 31)).toInt32) &&& (iI (858993459)))) + ((Int32.toUInt32 ((((iI (a)) - (((Int32.toUInt32 (iI (a)) >>> (Int32.toUInt32 (iI (1)) &&& Int32.toUInt32 31)).toInt32) &&& (iI (1431655765)))) &&& (iI (858993459))) + (((Int32.toUInt32 ((iI (a)) - (((Int32.toUInt32 (iI (a)) >>> (Int32.toUInt32 (iI (1)) &&& Int32.toUInt32 31)).toInt32) &&& (iI (1431655765)))) >>> (Int32.toUInt32 (iI (2)) &&& Int32.toUInt32 31)).toInt32) &&& (iI (858993459)))) >>> (Int32.toUInt32 (iI (4)) &&& Int32.toUInt32 31)).toInt32)) &&& (iI (252645135)))]) (pc' := 34) h ⟨dJ_bitCount_33, rfl⟩ (by decide) rfl rfl ?_
  refine go_iload_n (pc' := 35) h ⟨dJ_bitCount_34, rfl⟩ rfl ?_
  refine go_iload_n (pc' := 36) h ⟨dJ_bitCount_35, rfl⟩ rfl ?_
  refine gi_bipush (pc' := 38) h ⟨dJ_bitCount_36, rfl⟩ rfl ?_
  refine go_iushr (pc' := 39) h ⟨dJ_bitCount_38, rfl⟩ rfl ?_
  refine go_iadd (pc' := 40) h ⟨dJ_bitCount_39, rfl⟩ ?_
  refine go_istore_n (L' := [.int (((((((iI (a)) - (((Int32.toUInt32 (iI (a)) >>> (Int32.toUInt32 (iI (1)) &&& Int32.toUInt32 31)).toInt32) &&& (iI (1431655765)))) &&& (iI (858993459))) + (((Int32.toUInt32 ((iI (a)) - (((Int32.toUInt32 (iI (a)) >>> (Int32.toUInt32 (iI (1)) &&& Int32.toUInt32 31)).toInt32) &&& (iI (1431655765)))) >>> (Int32.toUInt32 (iI (2)) &&& Int32.toUInt32 31)).toInt32) &&& (iI (858993459)))) + ((Int32.toUInt32 ((((iI (a)) - (((Int32.toUInt32 (iI (a)) >>> (Int32.toUInt32 (iI (1)) &&& Int32.toUInt32 31)).toInt32) &&& (iI (1431655765)))) &&& (iI (858993459))) + (((Int32.toUInt32 ((iI (a)) - (((Int32.toUInt32 (iI (a)) >>> (Int32.toUInt32 (iI (1)) &&& Int32.toUInt32 31)).toInt32) &&& (iI (1431655765)))) >>> (Int32.toUInt32 (iI (2)) &&& Int32.toUInt32 31)).toInt32) &&& (iI (858993459)))) >>> (Int32.toUInt32 (iI (4)) &&& Int32.toUInt32 31)).toInt32)) &&& (iI (252645135))) + ((Int32.toUInt32 ((((((iI (a)) - (((Int32.toUInt32 (iI (a)) >>> (Int32.toUInt32 (iI (1)) &&& Int32.toUInt32 31)).toInt32) &&& (iI (1431655765)))) &&& (iI (858993459))) + (((Int32.toUInt32 ((iI (a)) - (((Int32.toUInt32 (iI (a)) >>> (Int32.toUInt32 (iI (1)) &&& Int32.toUInt32 31)).toInt32) &&& (iI (1431655765)))) >>> (Int32.toUInt32 (iI (2)) &&& Int32.toUInt32 31)).toInt32) &&& (iI (858993459)))) + ((Int32.toUInt32 ((((iI (a)) - (((Int32.toUInt32 (iI (a)) >>> (Int32.toUInt32 (iI (1)) &&& Int32.toUInt32 31)).toInt32) &&& (iI (1431655765)))) &&& (iI (858993459))) + (((Int32.toUInt32 ((iI (a)) - (((Int32.toUInt32 (iI (a)) >>> (Int32.toUInt32 (iI (1)) &&& Int32.toUInt32 31)).toInt32) &&& (iI (1431655765)))) >>> (Int32.toUInt32 (iI (2)) &&& Int32.toUInt32 31)).toInt32) &&& (iI (858993459)))) >>> (Int32.toUInt32 (iI (4)) &&& Int32.toUInt32 31)).toInt32)) &&& (iI (252645135))) >>> (Int32.toUInt32 (iI (8)) &&& Int32.toUInt32 31)).toInt32))]) (pc' := 41) h ⟨dJ_bitCount_40, rfl⟩ (by decide) rfl rfl ?_
  refine go_iload_n (pc' := 42) h ⟨dJ_bitCount_41, rfl⟩ rfl ?_
  refine go_iload_n (pc' := 43) h ⟨dJ_bitCount_42, rfl⟩ rfl ?_
  refine gi_bipush (pc' := 45) h ⟨dJ_bitCount_43, rfl⟩ rfl ?_
  refine go_iushr (pc' := 46) h ⟨dJ_bitCount_45, rfl⟩ rfl ?_
  refine go_iadd (pc' := 47) h ⟨dJ_bitCount_46, rfl⟩ ?_
  refine go_istore_n (L' := [.int ((((((((iI (a)) - (((Int32.toUInt32 (iI (a)) >>> (Int32.toUInt32 (iI (1)) &&& Int32.toUInt32 31)).toInt32) &&& (iI (1431655765)))) &&& (iI (858993459))) + (((Int32.toUInt32 ((iI (a)) - (((Int32.toUInt32 (iI (a)) >>> (Int32.toUInt32 (iI (1)) &&& Int32.toUInt32 31)).toInt32) &&& (iI (1431655765)))) >>> (Int32.toUInt32 (iI (2)) &&& Int32.toUInt32 31)).toInt32) &&& (iI (858993459)))) + ((Int32.toUInt32 ((((iI (a)) - (((Int32.toUInt32 (iI (a)) >>> (Int32.toUInt32 (iI (1)) &&& Int32.toUInt32 31)).toInt32) &&& (iI (1431655765)))) &&& (iI (858993459))) + (((Int32.toUInt32 ((iI (a)) - (((Int32.toUInt32 (iI (a)) >>> (Int32.toUInt32 (iI (1)) &&& Int32.toUInt32 31)).toInt32) &&& (iI (1431655765)))) >>> (Int32.toUInt32 (iI (2)) &&& Int32.toUInt32 31)).toInt32) &&& (iI (858993459)))) >>> (Int32.toUInt32 (iI (4)) &&& Int32.toUInt32 31)).toInt32)) &&& (iI (252645135))) + ((Int32.toUInt32 ((((((iI (a)) - (((Int32.toUInt32 (iI (a)) >>> (Int32.toUInt32 (iI (1)) &&& Int32.toUInt32 31)).toInt32) &&& (iI (1431655765)))) &&& (iI (858993459))) + (((Int32.toUInt32 ((iI (a)) - (((Int32.toUInt32 (iI (a)) >>> (Int32.toUInt32 (iI (1)) &&& Int32.toUInt32 31)).toInt32) &&& (iI (1431655765)))) >>> (Int32.toUInt32 (iI (2)) &&& Int32.toUInt32 31)).toInt32) &&& (iI (858993459)))) + ((Int32.toUInt32 ((((iI (a)) - (((Int32.toUInt32 (iI (a)) >>> (Int32.toUInt32 (iI (1)) &&& Int32.toUInt32 31)).toInt32) &&& (iI (1431655765)))) &&& (iI (858993459))) + (((Int32.toUInt32 ((iI (a)) - (((Int32.toUInt32 (iI (a)) >>> (Int32.toUInt32 (iI (1)) &&& Int32.toUInt32 31)).toInt32) &&& (iI (1431655765)))) >>> (Int32.toUInt32 (iI (2)) &&& Int32.toUInt32 31)).toInt32) &&& (iI (858993459)))) >>> (Int32.toUInt32 (iI (4)) &&& Int32.toUInt32 31)).toInt32)) &&& (iI (252645135))) >>> (Int32.toUInt32 (iI (8)) &&& Int32.toUInt32 31)).toInt32)) + ((Int32.toUInt32 (((((((iI (a)) - (((Int32.toUInt32 (iI (a)) >>> (Int32.toUInt32 (iI (1)) &&& Int32.toUInt32 31)).toInt32) &&& (iI (1431655765)))) &&& (iI (858993459))) + (((Int32.toUInt32 ((iI (a)) - (((Int32.toUInt32 (iI (a)) >>> (Int32.toUInt32 (iI (1)) &&& Int32.toUInt32 31)).toInt32) &&& (iI (1431655765)))) >>> (Int32.toUInt32 (iI (2)) &&& Int32.toUInt32 31)).toInt32) &&& (iI (858993459)))) + ((Int32.toUInt32 ((((iI (a)) - (((Int32.toUInt32 (iI (a)) >>> (Int32.toUInt32 (iI (1)) &&& Int32.toUInt32 31)).toInt32) &&& (iI (1431655765)))) &&& (iI (858993459))) + (((Int32.toUInt32 ((iI (a)) - (((Int32.toUInt32 (iI (a)) >>> (Int32.toUInt32 (iI (1)) &&& Int32.toUInt32 31)).toInt32) &&& (iI (1431655765)))) >>> (Int32.toUInt32 (iI (2)) &&& Int32.toUInt32 31)).toInt32) &&& (iI (858993459)))) >>> (Int32.toUInt32 (iI (4)) &&& Int32.toUInt32 31)).toInt32)) &&& (iI (252645135))) + ((Int32.toUInt32 ((((((iI (a)) - (((Int32.toUInt32 (iI (a)) >>> (Int32.toUInt32 (iI (1)) &&& Int32.toUInt32 31)).toInt32) &&& (iI (1431655765)))) &&& (iI (858993459))) + (((Int32.toUInt32 ((iI (a)) - (((Int32.toUInt32 (iI (a)) >>> (Int32.toUInt32 (iI (1)) &&& Int32.toUInt32 31)).toInt32) &&& (iI (1431655765)))) >>> (Int32.toUInt32 (iI (2)) &&& Int32.toUInt32 31)).toInt32) &&& (iI (858993459)))) + ((Int32.toUInt32 ((((iI (a)) - (((Int32.toUInt32 (iI (a)) >>> (Int32.toUInt32 (iI (1)) &&& Int32.toUInt32 31)).toInt32) &&& (iI (1431655765)))) &&& (iI (858993459))) + (((Int32.toUInt32 ((iI (a)) - (((Int32.toUInt32 (iI (a)) >>> (Int32.toUInt32 (iI (1)) &&& Int32.toUInt32 31)).toInt32) &&& (iI (1431655765)))) >>> (Int32.toUInt32 (iI (2)) &&& Int32.toUInt32 31)).toInt32) &&& (iI (858993459)))) >>> (Int32.toUInt32 (iI (4)) &&& Int32.toUInt32 31)).toInt32)) &&& (iI (252645135))) >>> (Int32.toUInt32 (iI (8)) &&& Int32.toUInt32 31)).toInt32)) >>> (Int32.toUInt32 (iI (16)) &&& Int32.toUInt32 31)).toInt32))]) (pc' := 48) h ⟨dJ_bitCount_47, rfl⟩ (by decide) rfl rfl ?_
  refine go_iload_n (pc' := 49) h ⟨dJ_bitCount_48, rfl⟩ rfl ?_
  refine gi_bipush (pc' := 51) h ⟨dJ_bitCount_49, rfl⟩ rfl ?_
  refine go_iand (pc' := 52) h ⟨dJ_bitCount_51, rfl⟩ ?_
  exact go_iret h hE ⟨onesI a, S, congrArg (fun v => some (Value.int v)) (by rcases (show a = 0 ∨ a = 1 ∨ a = 2 ∨ a = 3 ∨ a = 4 ∨ a = 5 ∨ a = 6 ∨ a = 7 ∨ a = 8 ∨ a = 9 ∨ a = 10 ∨ a = 11 ∨ a = 12 ∨ a = 13 ∨ a = 14 ∨ a = 15 by omega) with rfl | rfl | rfl | rfl | rfl | rfl | rfl | rfl | rfl | rfl | rfl | rfl | rfl | rfl | rfl | rfl <;> decide +kernel), rfl, rfl, rfl⟩ dJ_bitCount_52
end
section
/-! Plan, at p -/
theorem plan_ok {p : Nat} (h : kd p = 2) : kd (p + 1) = 3 ∧ kd (p + 3) = 3 ∧ kd (p + 5) = 3 ∧ kd (p + 7) = 3 ∧ kd (p + 9) = 3 ∧ kd (p + 11) = 3 ∧ ln (p + 2) = 5 ∧ ln (p + 4) = 5 ∧ ln (p + 6) = 5 ∧ ln (p + 8) = 5 ∧ ln (p + 10) = 100 ∧ ln (p + 12) = 4 := by
  by_cases hj : p < 106
  · have : ∀ p, p < 106 → kd p = 2 → kd (p + 1) = 3 ∧ kd (p + 3) = 3 ∧ kd (p + 5) = 3 ∧ kd (p + 7) = 3 ∧ kd (p + 9) = 3 ∧ kd (p + 11) = 3 ∧ ln (p + 2) = 5 ∧ ln (p + 4) = 5 ∧ ln (p + 6) = 5 ∧ ln (p + 8) = 5 ∧ ln (p + 10) = 100 ∧ ln (p + 12) = 4 := by decide +kernel
    exact this p hj h
  · have : kd p = 11 := by
      unfold kd
      have h2 : kdL.length = 106 := by decide +kernel
      rw [List.getD_eq_getElem?_getD, List.getElem?_eq_none (by omega)]
      rfl
    omega
def pbegin (S : Sg) (p : Nat) : Sg := pt (pt (rempty (rempty (rempty (rempty (rempty (rempty S (p + 1)) (p + 3)) (p + 5)) (p + 7)) (p + 9)) (p + 11)) p 6 3) p 7 3
def hpush (S : Sg) (p : Nat) (r b : Int) : Nat → Sg
  | 0 => S
  | n + 1 => rpush (hpush S p r b n) (p + 9) (max 1 (r + (n : Int) * b))
def padd0 (S : Sg) (p : Nat) (n r b : Int) : Sg := hpush (rpush (rpush (rpush S (p + 1) n) (p + 3) r) (p + 5) b) p r b n.toNat
def padd (S : Sg) (p : Nat) (n r b : Int) : Sg := rpush (padd0 S p n r b) (p + 7) ((padd0 S p n r b).1 (p + 9) 1)
theorem Wr.hpush {S : Sg} (h : Wr S) {p : Nat} (hk : kd (p + 9) = 3) (r b : Int) : ∀ n : Nat, Wr (hpush S p r b n)
  | 0 => h
  | n + 1 => (Wr.hpush h hk r b n).push hk _
theorem mul_bd {j b : Int} (hj : 0 ≤ j ∧ j ≤ 20) (hb : -3 ≤ b ∧ b ≤ 3) : -60 ≤ j * b ∧ j * b ≤ 60 := by
  rcases (show b = -3 ∨ b = -2 ∨ b = -1 ∨ b = 0 ∨ b = 1 ∨ b = 2 ∨ b = 3 by omega) with rfl | rfl | rfl | rfl | rfl | rfl | rfl <;> omega
theorem mul_80 {x y : Int} (hx : 0 ≤ x ∧ x ≤ 1000) (hy : 0 ≤ y ∧ y ≤ 80) : 0 ≤ x * y ∧ x * y ≤ 80000 := ⟨Int.mul_nonneg hx.1 hy.1, Int.le_trans (Int.mul_le_mul hx.2 hy.2 hy.1 (by omega)) (by omega)⟩
/-- what a plan's rows hold is within bounds -/
def planOk (S : Sg) (p : Nat) : Prop := (0 ≤ S.1 (p + 1) 1 ∧ S.1 (p + 1) 1 ≤ 5) ∧ (0 ≤ S.1 (p + 9) 1 ∧ S.1 (p + 9) 1 ≤ 100) ∧ (0 ≤ S.1 (p + 11) 1 ∧ S.1 (p + 11) 1 ≤ 4) ∧ (∀ i : Int, 0 ≤ i → i < S.1 (p + 1) 1 → 1 ≤ S.1 (p + 2) i ∧ S.1 (p + 2) i ≤ 20) ∧ (∀ i : Int, 0 ≤ i → i < S.1 (p + 9) 1 → 1 ≤ S.1 (p + 10) i ∧ S.1 (p + 10) i ≤ 80) ∧ (∀ i : Int, 0 ≤ i → i < S.1 (p + 11) 1 → 1 ≤ S.1 (p + 12) i ∧ S.1 (p + 12) i ≤ 99) ∧ (1 ≤ S.1 p 6 ∧ S.1 p 6 ≤ 9)
set_option maxRecDepth 4000 in
theorem cP_begin (X : XT) {S : Sg} {p : Nat} (hp : kd p = 2) : Ctr X 1 yP_begin bP_begin 1 none [.ref p] (mk S) (PV (fun S' => S' = pbegin S p)) 0 0 := by
  refine Ctr.ofS (by decide) rfl (Nat.le_of_ble_eq_true rfl) (fun F h hF hE => ?_)
  obtain ⟨k1, k3, k5, k7, k9, k11, l2, l4, l6, l8, l10, l12⟩ := plan_ok hp
  refine go_aload_n (pc' := 1) h ⟨dP_begin_0, rfl⟩ rfl ?_
  refine gs_get (v := .ref (p + 1)) (pc' := 4) h ⟨dP_begin_1, rfl⟩ fgP_14 hp (by decide) (rfl) ?_
  refine gd_callVV (E := rempty S (p + 1)) (pc' := 7) (As := []) (st := []) h hF ⟨dP_begin_4, rfl⟩ kvP_42 (cR_empty X k1) (by omega) k1 (by decide) ⟨_, _, rfl⟩ rfl (Nat.le_of_ble_eq_true rfl) rfl ?_
  refine go_aload_n (pc' := 8) h ⟨dP_begin_7, rfl⟩ rfl ?_
  refine gs_get (v := .ref (p + 3)) (pc' := 11) h ⟨dP_begin_8, rfl⟩ fgP_20 hp (by decide) (rfl) ?_
  refine gd_callVV (E := rempty (rempty S (p + 1)) (p + 3)) (pc' := 14) (As := []) (st := []) h hF ⟨dP_begin_11, rfl⟩ kvP_42 (cR_empty X k3) (by omega) k3 (by decide) ⟨_, _, rfl⟩ rfl (Nat.le_of_ble_eq_true rfl) rfl ?_
  refine go_aload_n (pc' := 15) h ⟨dP_begin_14, rfl⟩ rfl ?_
  refine gs_get (v := .ref (p + 5)) (pc' := 18) h ⟨dP_begin_15, rfl⟩ fgP_23 hp (by decide) (rfl) ?_
  refine gd_callVV (E := rempty (rempty (rempty S (p + 1)) (p + 3)) (p + 5)) (pc' := 21) (As := []) (st := []) h hF ⟨dP_begin_18, rfl⟩ kvP_42 (cR_empty X k5) (by omega) k5 (by decide) ⟨_, _, rfl⟩ rfl (Nat.le_of_ble_eq_true rfl) rfl ?_
  refine go_aload_n (pc' := 22) h ⟨dP_begin_21, rfl⟩ rfl ?_
  refine gs_get (v := .ref (p + 7)) (pc' := 25) h ⟨dP_begin_22, rfl⟩ fgP_26 hp (by decide) (rfl) ?_
  refine gd_callVV (E := rempty (rempty (rempty (rempty S (p + 1)) (p + 3)) (p + 5)) (p + 7)) (pc' := 28) (As := []) (st := []) h hF ⟨dP_begin_25, rfl⟩ kvP_42 (cR_empty X k7) (by omega) k7 (by decide) ⟨_, _, rfl⟩ rfl (Nat.le_of_ble_eq_true rfl) rfl ?_
  refine go_aload_n (pc' := 29) h ⟨dP_begin_28, rfl⟩ rfl ?_
  refine gs_get (v := .ref (p + 9)) (pc' := 32) h ⟨dP_begin_29, rfl⟩ fgP_29 hp (by decide) (rfl) ?_
  refine gd_callVV (E := rempty (rempty (rempty (rempty (rempty S (p + 1)) (p + 3)) (p + 5)) (p + 7)) (p + 9)) (pc' := 35) (As := []) (st := []) h hF ⟨dP_begin_32, rfl⟩ kvP_42 (cR_empty X k9) (by omega) k9 (by decide) ⟨_, _, rfl⟩ rfl (Nat.le_of_ble_eq_true rfl) rfl ?_
  refine go_aload_n (pc' := 36) h ⟨dP_begin_35, rfl⟩ rfl ?_
  refine gs_get (v := .ref (p + 11)) (pc' := 39) h ⟨dP_begin_36, rfl⟩ fgP_32 hp (by decide) (rfl) ?_
  refine gd_callVV (E := rempty (rempty (rempty (rempty (rempty (rempty S (p + 1)) (p + 3)) (p + 5)) (p + 7)) (p + 9)) (p + 11)) (pc' := 42) (As := []) (st := []) h hF ⟨dP_begin_39, rfl⟩ kvP_42 (cR_empty X k11) (by omega) k11 (by decide) ⟨_, _, rfl⟩ rfl (Nat.le_of_ble_eq_true rfl) rfl ?_
  refine go_aload_n (pc' := 43) h ⟨dP_begin_42, rfl⟩ rfl ?_
  refine gi_iconst (pc' := 44) h ⟨dP_begin_43, rfl⟩ ?_
  refine gd_putI (i := 6) (pc' := 47) h ⟨dP_begin_44, rfl⟩ fpP_35 hp (by decide) rfl rfl ?_
  refine go_aload_n (pc' := 48) h ⟨dP_begin_47, rfl⟩ rfl ?_
  refine gi_iconst (pc' := 49) h ⟨dP_begin_48, rfl⟩ ?_
  refine gd_putI (i := 7) (pc' := 52) h ⟨dP_begin_49, rfl⟩ fpP_39 hp (by decide) rfl rfl ?_
  exact gs_vret h hE dP_begin_52 (rfl)
set_option maxRecDepth 4000 in
theorem cP_add (X : XT) {S : Sg} {p : Nat} (hp : kd p = 2) (hW : Wr S) {n r b : Int} (hn : 1 ≤ n ∧ n ≤ 20) (hr : 1 ≤ r ∧ r ≤ 20) (hb : -3 ≤ b ∧ b ≤ 3) : Ctr X 2 yP_addStretch bP_addStretch 5 none [.ref p, .int (iI (n)), .int (iI (r)), .int (iI (b))] (mk S) (PV (fun S' => S' = padd S p n r b)) 0 0 := by
  refine Ctr.ofS (by decide) rfl (Nat.le_of_ble_eq_true rfl) (fun F h hF hE => ?_)
  obtain ⟨k1, k3, k5, k7, k9, k11, l2, l4, l6, l8, l10, l12⟩ := plan_ok hp
  have hW1 : Wr (rpush (rpush (rpush S (p + 1) n) (p + 3) r) (p + 5) b) := ((hW.push k1 _).push k3 _).push k5 _
  have loop : ∀ (m : Nat) (j : Nat), n < j + m → (j : Int) ≤ n → Go F 5 (mk (hpush (rpush (rpush (rpush S (p + 1) n) (p + 3) r) (p + 5) b) p r b j)) 0 0 27 [.ref p, .int (iI n), .int (iI r), .int (iI b), .int (iI (j : Int))] [] := by
    intro m
    induction m with
    | zero => intro j g4 g6; exfalso; omega
    | succ m ih =>
      intro j g4 g6
      have g7 := mul_bd (j := (j : Int)) (b := b) (by omega) hb
      refine go_iload (pc' := 29) h ⟨dP_addStretch_27, rfl⟩ rfl ?_
      refine go_iload_n (pc' := 30) h ⟨dP_addStretch_29, rfl⟩ rfl ?_
      refine gi_icmp_ge (tgt := 56) (pc' := 33) h dP_addStretch_30 rfl rfl (by omega) (fun c30 => ?_) (fun c30 => ?_)
      · rw [show hpush (rpush (rpush (rpush S (p + 1) n) (p + 3) r) (p + 5) b) p r b j = padd0 S p n r b from by unfold padd0; rw [show n.toNat = j by omega]]
        refine go_aload_n (pc' := 57) h ⟨dP_addStretch_56, rfl⟩ rfl ?_
        refine gs_get (v := .ref (p + 7)) (pc' := 60) h ⟨dP_addStretch_57, rfl⟩ fgP_26 hp (by decide) (rfl) ?_
        refine go_aload_n (pc' := 61) h ⟨dP_addStretch_60, rfl⟩ rfl ?_
        refine gs_get (v := .ref (p + 9)) (pc' := 64) h ⟨dP_addStretch_61, rfl⟩ fgP_29 hp (by decide) (rfl) ?_
        refine gd_callVI (e := (padd0 S p n r b).1 (p + 9) 1) (E := padd0 S p n r b) (pc' := 67) (As := []) (st := [.ref (p + 7)]) h hF ⟨dP_addStretch_64, rfl⟩ kvP_54 (cR_size X k9) (by omega) k9 (by decide) ⟨_, _, rfl⟩ rfl (Nat.le_of_ble_eq_true rfl) rfl ?_
        refine gd_callVV (E := padd S p n r b) (pc' := 70) (As := [.int (iI ((padd0 S p n r b).1 (p + 9) 1))]) (st := []) h hF ⟨dP_addStretch_67, rfl⟩ kvP_45 (cR_push X k7 (by unfold padd0; exact (Wr.hpush hW1 k9 r b _) _ k7)) (by omega) k7 (by decide) ⟨_, _, rfl⟩ rfl (Nat.le_of_ble_eq_true rfl) rfl ?_
        exact gs_vret h hE dP_addStretch_70 (rfl)
      · refine go_aload_n (pc' := 34) h ⟨dP_addStretch_33, rfl⟩ rfl ?_
        refine gs_get (v := .ref (p + 9)) (pc' := 37) h ⟨dP_addStretch_34, rfl⟩ fgP_29 hp (by decide) (rfl) ?_
        refine gi_iconst (pc' := 38) h ⟨dP_addStretch_37, rfl⟩ ?_
        refine go_iload_n (pc' := 39) h ⟨dP_addStretch_38, rfl⟩ rfl ?_
        refine go_iload (pc' := 41) h ⟨dP_addStretch_39, rfl⟩ rfl ?_
        refine go_iload_n (pc' := 42) h ⟨dP_addStretch_41, rfl⟩ rfl ?_
        refine gi_imul (pc' := 43) h ⟨dP_addStretch_42, rfl⟩ ?_
        refine gi_iadd (pc' := 44) h ⟨dP_addStretch_43, rfl⟩ ?_
        refine gd_callSI (e := max 1 (r + (((j : Int)) * b))) (E := hpush (rpush (rpush (rpush S (p + 1) n) (p + 3) r) (p + 5) b) p r b j) (pc' := 47) (As := [.int (iI (1)), .int (iI (r + (((j : Int)) * b)))]) (st := [.ref (p + 9)]) h hF ⟨dP_addStretch_44, rfl⟩ kvP_48 (cK_max X (by omega)) (by omega) rfl (Nat.le_of_ble_eq_true rfl) rfl ?_
        refine gd_callVV (E := rpush (hpush (rpush (rpush (rpush S (p + 1) n) (p + 3) r) (p + 5) b) p r b j) (p + 9) (max 1 (r + (((j : Int)) * b)))) (pc' := 50) (As := [.int (iI (max 1 (r + (((j : Int)) * b))))]) (st := []) h hF ⟨dP_addStretch_47, rfl⟩ kvP_45 (cR_push X k9 ((Wr.hpush hW1 k9 r b j) (p + 9) k9)) (by omega) k9 (by decide) ⟨_, _, rfl⟩ rfl (Nat.le_of_ble_eq_true rfl) rfl ?_
        refine gi_iinc (L' := [.ref p, .int (iI (n)), .int (iI (r)), .int (iI (b)), .int (iI ((j : Int) + 1))]) (pc' := 53) h ⟨dP_addStretch_50, rfl⟩ rfl (by decide) rfl rfl ?_
        refine gi_goto (tgt := 27) h dP_addStretch_53 rfl ?_
        exact ih (j + 1) (by omega) (by omega)
  refine go_aload_n (pc' := 1) h ⟨dP_addStretch_0, rfl⟩ rfl ?_
  refine gs_get (v := .ref (p + 1)) (pc' := 4) h ⟨dP_addStretch_1, rfl⟩ fgP_14 hp (by decide) (rfl) ?_
  refine go_iload_n (pc' := 5) h ⟨dP_addStretch_4, rfl⟩ rfl ?_
  refine gd_callVV (E := rpush S (p + 1) n) (pc' := 8) (As := [.int (iI (n))]) (st := []) h hF ⟨dP_addStretch_5, rfl⟩ kvP_45 (cR_push X k1 (hW (p + 1) k1)) (by omega) k1 (by decide) ⟨_, _, rfl⟩ rfl (Nat.le_of_ble_eq_true rfl) rfl ?_
  refine go_aload_n (pc' := 9) h ⟨dP_addStretch_8, rfl⟩ rfl ?_
  refine gs_get (v := .ref (p + 3)) (pc' := 12) h ⟨dP_addStretch_9, rfl⟩ fgP_20 hp (by decide) (rfl) ?_
  refine go_iload_n (pc' := 13) h ⟨dP_addStretch_12, rfl⟩ rfl ?_
  refine gd_callVV (E := rpush (rpush S (p + 1) n) (p + 3) r) (pc' := 16) (As := [.int (iI (r))]) (st := []) h hF ⟨dP_addStretch_13, rfl⟩ kvP_45 (cR_push X k3 ((hW.push k1 _) (p + 3) k3)) (by omega) k3 (by decide) ⟨_, _, rfl⟩ rfl (Nat.le_of_ble_eq_true rfl) rfl ?_
  refine go_aload_n (pc' := 17) h ⟨dP_addStretch_16, rfl⟩ rfl ?_
  refine gs_get (v := .ref (p + 5)) (pc' := 20) h ⟨dP_addStretch_17, rfl⟩ fgP_23 hp (by decide) (rfl) ?_
  refine go_iload_n (pc' := 21) h ⟨dP_addStretch_20, rfl⟩ rfl ?_
  refine gd_callVV (E := rpush (rpush (rpush S (p + 1) n) (p + 3) r) (p + 5) b) (pc' := 24) (As := [.int (iI (b))]) (st := []) h hF ⟨dP_addStretch_21, rfl⟩ kvP_45 (cR_push X k5 (((hW.push k1 _).push k3 _) (p + 5) k5)) (by omega) k5 (by decide) ⟨_, _, rfl⟩ rfl (Nat.le_of_ble_eq_true rfl) rfl ?_
  refine gi_iconst (pc' := 25) h ⟨dP_addStretch_24, rfl⟩ ?_
  refine go_istore (L' := [.ref p, .int (iI (n)), .int (iI (r)), .int (iI (b)), .int (iI (0))]) (pc' := 27) h ⟨dP_addStretch_25, rfl⟩ (by decide) rfl rfl ?_
  exact loop (n.toNat + 1) 0 (by omega) (by omega)
set_option maxRecDepth 4000 in
theorem cP_hasStretch (X : XT) {S : Sg} {p : Nat} (hp : kd p = 2) (hok : planOk S p) {x : Int} (hx : -2147483648 ≤ x ∧ x ≤ 2147483647) : Ctr X 1 yP_hasStretch bP_hasStretch 2 (some .boolean) [.ref p, .int (iI (x))] (mk S) (PI (fun r S' => r = (if 0 ≤ x ∧ x < S.1 (p + 1) 1 then 1 else 0) ∧ S' = S)) 0 0 := by
  refine Ctr.ofS (by decide) rfl (Nat.le_of_ble_eq_true rfl) (fun F h hF hE => ?_)
  obtain ⟨k1, k3, k5, k7, k9, k11, l2, l4, l6, l8, l10, l12⟩ := plan_ok hp
  obtain ⟨o1, o2, o3, o4, o5, o6, o7⟩ := id hok
  refine go_iload_n (pc' := 1) h ⟨dP_hasStretch_0, rfl⟩ rfl ?_
  refine gi_if_lt (tgt := 19) (pc' := 4) h dP_hasStretch_1 rfl rfl (by omega) (fun c1 => ?_) (fun c1 => ?_)
  · refine gi_iconst (pc' := 20) h ⟨dP_hasStretch_19, rfl⟩ ?_
    exact gs_zret h hE dP_hasStretch_20 (by omega) (⟨by rw [if_neg (by omega)], rfl⟩)
  · refine go_iload_n (pc' := 5) h ⟨dP_hasStretch_4, rfl⟩ rfl ?_
    refine go_aload_n (pc' := 6) h ⟨dP_hasStretch_5, rfl⟩ rfl ?_
    refine gs_get (v := .ref (p + 1)) (pc' := 9) h ⟨dP_hasStretch_6, rfl⟩ fgP_14 hp (by decide) (rfl) ?_
    refine gd_callVI (e := S.1 (p + 1) 1) (E := S) (pc' := 12) (As := []) (st := [.int (iI (x))]) h hF ⟨dP_hasStretch_9, rfl⟩ kvP_54 (cR_size X k1) (by omega) k1 (by decide) ⟨_, _, rfl⟩ rfl (Nat.le_of_ble_eq_true rfl) rfl ?_
    refine gi_icmp_ge (tgt := 19) (pc' := 15) h dP_hasStretch_12 rfl rfl (by omega) (fun c12 => ?_) (fun c12 => ?_)
    · refine gi_iconst (pc' := 20) h ⟨dP_hasStretch_19, rfl⟩ ?_
      exact gs_zret h hE dP_hasStretch_20 (by omega) (⟨by rw [if_neg (by omega)], rfl⟩)
    · refine gi_iconst (pc' := 16) h ⟨dP_hasStretch_15, rfl⟩ ?_
      refine gi_goto (tgt := 20) h dP_hasStretch_16 rfl ?_
      exact gs_zret h hE dP_hasStretch_20 (by omega) (⟨by rw [if_pos (by omega)], rfl⟩)
set_option maxRecDepth 4000 in
theorem cP_hasTraveller (X : XT) {S : Sg} {p : Nat} (hp : kd p = 2) (hok : planOk S p) {x : Int} (hx : -2147483648 ≤ x ∧ x ≤ 2147483647) : Ctr X 1 yP_hasTraveller bP_hasTraveller 2 (some .boolean) [.ref p, .int (iI (x))] (mk S) (PI (fun r S' => r = (if 0 ≤ x ∧ x < S.1 (p + 11) 1 then 1 else 0) ∧ S' = S)) 0 0 := by
  refine Ctr.ofS (by decide) rfl (Nat.le_of_ble_eq_true rfl) (fun F h hF hE => ?_)
  obtain ⟨k1, k3, k5, k7, k9, k11, l2, l4, l6, l8, l10, l12⟩ := plan_ok hp
  obtain ⟨o1, o2, o3, o4, o5, o6, o7⟩ := id hok
  refine go_iload_n (pc' := 1) h ⟨dP_hasTraveller_0, rfl⟩ rfl ?_
  refine gi_if_lt (tgt := 19) (pc' := 4) h dP_hasTraveller_1 rfl rfl (by omega) (fun c1 => ?_) (fun c1 => ?_)
  · refine gi_iconst (pc' := 20) h ⟨dP_hasTraveller_19, rfl⟩ ?_
    exact gs_zret h hE dP_hasTraveller_20 (by omega) (⟨by rw [if_neg (by omega)], rfl⟩)
  · refine go_iload_n (pc' := 5) h ⟨dP_hasTraveller_4, rfl⟩ rfl ?_
    refine go_aload_n (pc' := 6) h ⟨dP_hasTraveller_5, rfl⟩ rfl ?_
    refine gs_get (v := .ref (p + 11)) (pc' := 9) h ⟨dP_hasTraveller_6, rfl⟩ fgP_32 hp (by decide) (rfl) ?_
    refine gd_callVI (e := S.1 (p + 11) 1) (E := S) (pc' := 12) (As := []) (st := [.int (iI (x))]) h hF ⟨dP_hasTraveller_9, rfl⟩ kvP_54 (cR_size X k11) (by omega) k11 (by decide) ⟨_, _, rfl⟩ rfl (Nat.le_of_ble_eq_true rfl) rfl ?_
    refine gi_icmp_ge (tgt := 19) (pc' := 15) h dP_hasTraveller_12 rfl rfl (by omega) (fun c12 => ?_) (fun c12 => ?_)
    · refine gi_iconst (pc' := 20) h ⟨dP_hasTraveller_19, rfl⟩ ?_
      exact gs_zret h hE dP_hasTraveller_20 (by omega) (⟨by rw [if_neg (by omega)], rfl⟩)
    · refine gi_iconst (pc' := 16) h ⟨dP_hasTraveller_15, rfl⟩ ?_
      refine gi_goto (tgt := 20) h dP_hasTraveller_16 rfl ?_
      exact gs_zret h hE dP_hasTraveller_20 (by omega) (⟨by rw [if_pos (by omega)], rfl⟩)
set_option maxRecDepth 4000 in
theorem cP_hasThousand (X : XT) {S : Sg} {p : Nat} (hp : kd p = 2) (hok : planOk S p) {x : Int} (hx : -2147483648 ≤ x ∧ x ≤ 2147483647) : Ctr X 1 yP_hasThousand bP_hasThousand 2 (some .boolean) [.ref p, .int (iI (x))] (mk S) (PI (fun r S' => r = (if 0 ≤ x ∧ x < S.1 (p + 9) 1 then 1 else 0) ∧ S' = S)) 0 0 := by
  refine Ctr.ofS (by decide) rfl (Nat.le_of_ble_eq_true rfl) (fun F h hF hE => ?_)
  obtain ⟨k1, k3, k5, k7, k9, k11, l2, l4, l6, l8, l10, l12⟩ := plan_ok hp
  obtain ⟨o1, o2, o3, o4, o5, o6, o7⟩ := id hok
  refine go_iload_n (pc' := 1) h ⟨dP_hasThousand_0, rfl⟩ rfl ?_
  refine gi_if_lt (tgt := 19) (pc' := 4) h dP_hasThousand_1 rfl rfl (by omega) (fun c1 => ?_) (fun c1 => ?_)
  · refine gi_iconst (pc' := 20) h ⟨dP_hasThousand_19, rfl⟩ ?_
    exact gs_zret h hE dP_hasThousand_20 (by omega) (⟨by rw [if_neg (by omega)], rfl⟩)
  · refine go_iload_n (pc' := 5) h ⟨dP_hasThousand_4, rfl⟩ rfl ?_
    refine go_aload_n (pc' := 6) h ⟨dP_hasThousand_5, rfl⟩ rfl ?_
    refine gs_get (v := .ref (p + 9)) (pc' := 9) h ⟨dP_hasThousand_6, rfl⟩ fgP_29 hp (by decide) (rfl) ?_
    refine gd_callVI (e := S.1 (p + 9) 1) (E := S) (pc' := 12) (As := []) (st := [.int (iI (x))]) h hF ⟨dP_hasThousand_9, rfl⟩ kvP_54 (cR_size X k9) (by omega) k9 (by decide) ⟨_, _, rfl⟩ rfl (Nat.le_of_ble_eq_true rfl) rfl ?_
    refine gi_icmp_ge (tgt := 19) (pc' := 15) h dP_hasThousand_12 rfl rfl (by omega) (fun c12 => ?_) (fun c12 => ?_)
    · refine gi_iconst (pc' := 20) h ⟨dP_hasThousand_19, rfl⟩ ?_
      exact gs_zret h hE dP_hasThousand_20 (by omega) (⟨by rw [if_neg (by omega)], rfl⟩)
    · refine gi_iconst (pc' := 16) h ⟨dP_hasThousand_15, rfl⟩ ?_
      refine gi_goto (tgt := 20) h dP_hasThousand_16 rfl ?_
      exact gs_zret h hE dP_hasThousand_20 (by omega) (⟨by rw [if_pos (by omega)], rfl⟩)
set_option maxRecDepth 4000 in
theorem cP_hasLanding (X : XT) {S : Sg} {p : Nat} (hp : kd p = 2) (hok : planOk S p) {x : Int} (hx : -2147483648 ≤ x ∧ x ≤ 2147483647) : Ctr X 1 yP_hasLanding bP_hasLanding 2 (some .boolean) [.ref p, .int (iI (x))] (mk S) (PI (fun r S' => r = (if 0 ≤ x ∧ x ≤ S.1 (p + 1) 1 then 1 else 0) ∧ S' = S)) 0 0 := by
  refine Ctr.ofS (by decide) rfl (Nat.le_of_ble_eq_true rfl) (fun F h hF hE => ?_)
  obtain ⟨k1, k3, k5, k7, k9, k11, l2, l4, l6, l8, l10, l12⟩ := plan_ok hp
  obtain ⟨o1, o2, o3, o4, o5, o6, o7⟩ := id hok
  refine go_iload_n (pc' := 1) h ⟨dP_hasLanding_0, rfl⟩ rfl ?_
  refine gi_if_lt (tgt := 19) (pc' := 4) h dP_hasLanding_1 rfl rfl (by omega) (fun c1 => ?_) (fun c1 => ?_)
  · refine gi_iconst (pc' := 20) h ⟨dP_hasLanding_19, rfl⟩ ?_
    exact gs_zret h hE dP_hasLanding_20 (by omega) (⟨by rw [if_neg (by omega)], rfl⟩)
  · refine go_iload_n (pc' := 5) h ⟨dP_hasLanding_4, rfl⟩ rfl ?_
    refine go_aload_n (pc' := 6) h ⟨dP_hasLanding_5, rfl⟩ rfl ?_
    refine gs_get (v := .ref (p + 1)) (pc' := 9) h ⟨dP_hasLanding_6, rfl⟩ fgP_14 hp (by decide) (rfl) ?_
    refine gd_callVI (e := S.1 (p + 1) 1) (E := S) (pc' := 12) (As := []) (st := [.int (iI (x))]) h hF ⟨dP_hasLanding_9, rfl⟩ kvP_54 (cR_size X k1) (by omega) k1 (by decide) ⟨_, _, rfl⟩ rfl (Nat.le_of_ble_eq_true rfl) rfl ?_
    refine gi_icmp_gt (tgt := 19) (pc' := 15) h dP_hasLanding_12 rfl rfl (by omega) (fun c12 => ?_) (fun c12 => ?_)
    · refine gi_iconst (pc' := 20) h ⟨dP_hasLanding_19, rfl⟩ ?_
      exact gs_zret h hE dP_hasLanding_20 (by omega) (⟨by rw [if_neg (by omega)], rfl⟩)
    · refine gi_iconst (pc' := 16) h ⟨dP_hasLanding_15, rfl⟩ ?_
      refine gi_goto (tgt := 20) h dP_hasLanding_16 rfl ?_
      exact gs_zret h hE dP_hasLanding_20 (by omega) (⟨by rw [if_pos (by omega)], rfl⟩)
set_option maxRecDepth 4000 in
theorem cP_top (X : XT) {S : Sg} {p : Nat} (hp : kd p = 2) : Ctr X 1 yP_topMark bP_topMark 1 (some .int) [.ref p] (mk S) (PI (fun r S' => r = S.1 (p + 9) 1 ∧ S' = S)) 0 0 := by
  refine Ctr.ofS (by decide) rfl (Nat.le_of_ble_eq_true rfl) (fun F h hF hE => ?_)
  obtain ⟨k1, k3, k5, k7, k9, k11, l2, l4, l6, l8, l10, l12⟩ := plan_ok hp
  refine go_aload_n (pc' := 1) h ⟨dP_topMark_0, rfl⟩ rfl ?_
  refine gs_get (v := .ref (p + 9)) (pc' := 4) h ⟨dP_topMark_1, rfl⟩ fgP_29 hp (by decide) (rfl) ?_
  refine gd_callVI (e := S.1 (p + 9) 1) (E := S) (pc' := 7) (As := []) (st := []) h hF ⟨dP_topMark_4, rfl⟩ kvP_54 (cR_size X k9) (by omega) k9 (by decide) ⟨_, _, rfl⟩ rfl (Nat.le_of_ble_eq_true rfl) rfl ?_
  exact gs_iret h hE dP_topMark_7 (⟨rfl, rfl⟩)
set_option maxRecDepth 4000 in
theorem cP_mark (X : XT) {S : Sg} {p : Nat} (hp : kd p = 2) {x : Int} (hx : -1000 ≤ x ∧ x ≤ 1000) : Ctr X 1 yP_landingMark bP_landingMark 2 (some .int) [.ref p, .int (iI (x))] (mk S) (PI (fun r S' => r = atV (S.1 (p + 8)) 5 (x - 1) ∧ S' = S)) 0 0 := by
  refine Ctr.ofS (by decide) rfl (Nat.le_of_ble_eq_true rfl) (fun F h hF hE => ?_)
  obtain ⟨k1, k3, k5, k7, k9, k11, l2, l4, l6, l8, l10, l12⟩ := plan_ok hp
  refine go_aload_n (pc' := 1) h ⟨dP_landingMark_0, rfl⟩ rfl ?_
  refine gs_get (v := .ref (p + 7)) (pc' := 4) h ⟨dP_landingMark_1, rfl⟩ fgP_26 hp (by decide) (rfl) ?_
  refine go_iload_n (pc' := 5) h ⟨dP_landingMark_4, rfl⟩ rfl ?_
  refine gi_iconst (pc' := 6) h ⟨dP_landingMark_5, rfl⟩ ?_
  refine gi_isub (pc' := 7) h ⟨dP_landingMark_6, rfl⟩ ?_
  refine gd_callVI (e := atV (S.1 (p + 8)) 5 (x - 1)) (E := S) (pc' := 10) (As := [.int (iI (x - 1))]) (st := []) h hF ⟨dP_landingMark_7, rfl⟩ kvP_58 (cR_atn X (n := 5) k7 l8 (by omega)) (by omega) k7 (by decide) ⟨_, _, rfl⟩ rfl (Nat.le_of_ble_eq_true rfl) rfl ?_
  exact gs_iret h hE dP_landingMark_10 (⟨rfl, rfl⟩)
set_option maxRecDepth 4000 in
theorem cP_alt (X : XT) {S : Sg} {p : Nat} (hp : kd p = 2) (hok : planOk S p) {x : Int} (hx : 0 ≤ x ∧ x ≤ 1000000) : Ctr X 1 yP_altitudeOf bP_altitudeOf 5 (some .int) [.ref p, .int (iI (x))] (mk S) (PI (fun r S' => r = sumI (fun m => max 0 (min 1000 (x - 1000 * m)) * S.1 (p + 10) m) (S.1 (p + 9) 1) ∧ S' = S)) 0 0 := by
  refine Ctr.ofS (by decide) rfl (Nat.le_of_ble_eq_true rfl) (fun F h hF hE => ?_)
  obtain ⟨k1, k3, k5, k7, k9, k11, l2, l4, l6, l8, l10, l12⟩ := plan_ok hp
  obtain ⟨o1, o2, o3, o4, o5, o6, o7⟩ := id hok
  have loop : ∀ (n : Nat) (j : Int), 101 < j + n → 0 ≤ j → j ≤ S.1 (p + 9) 1 → Go F 5 (mk S) 0 0 4 [.ref p, .int (iI x), .int (iI (sumI (fun m => max 0 (min 1000 (x - 1000 * m)) * S.1 (p + 10) m) j)), .int (iI j)] [] := by
    intro n
    induction n with
    | zero => intro j g4 g5 g6; exfalso; omega
    | succ n ih =>
      intro j g4 g5 g6
      refine go_iload_n (pc' := 5) h ⟨dP_altitudeOf_4, rfl⟩ rfl ?_
      refine go_aload_n (pc' := 6) h ⟨dP_altitudeOf_5, rfl⟩ rfl ?_
      refine gs_get (v := .ref (p + 9)) (pc' := 9) h ⟨dP_altitudeOf_6, rfl⟩ fgP_29 hp (by decide) (rfl) ?_
      refine gd_callVI (e := S.1 (p + 9) 1) (E := S) (pc' := 12) (As := []) (st := [.int (iI (j))]) h hF ⟨dP_altitudeOf_9, rfl⟩ kvP_54 (cR_size X k9) (by omega) k9 (by decide) ⟨_, _, rfl⟩ rfl (Nat.le_of_ble_eq_true rfl) rfl ?_
      refine gi_icmp_ge (tgt := 54) (pc' := 15) h dP_altitudeOf_12 rfl rfl (by omega) (fun c12 => ?_) (fun c12 => ?_)
      · refine go_iload_n (pc' := 55) h ⟨dP_altitudeOf_54, rfl⟩ rfl ?_
        exact gs_iret h hE dP_altitudeOf_55 (⟨by rw [show j = S.1 (p + 9) 1 by omega], rfl⟩)
      · refine gi_iconst (pc' := 16) h ⟨dP_altitudeOf_15, rfl⟩ ?_
        refine gi_sipush (pc' := 19) h ⟨dP_altitudeOf_16, rfl⟩ rfl ?_
        refine go_iload_n (pc' := 20) h ⟨dP_altitudeOf_19, rfl⟩ rfl ?_
        refine gi_sipush (pc' := 23) h ⟨dP_altitudeOf_20, rfl⟩ rfl ?_
        refine go_iload_n (pc' := 24) h ⟨dP_altitudeOf_23, rfl⟩ rfl ?_
        refine gi_imul (pc' := 25) h ⟨dP_altitudeOf_24, rfl⟩ ?_
        refine gi_isub (pc' := 26) h ⟨dP_altitudeOf_25, rfl⟩ ?_
        refine gd_callSI (e := min 1000 (x - (1000 * j))) (E := S) (pc' := 29) (As := [.int (iI (1000)), .int (iI (x - (1000 * j)))]) (st := [.int (iI (0))]) h hF ⟨dP_altitudeOf_26, rfl⟩ kvP_62 (cK_min X (by omega)) (by omega) rfl (Nat.le_of_ble_eq_true rfl) rfl ?_
        refine gd_callSI (e := max 0 (min 1000 (x - (1000 * j)))) (E := S) (pc' := 32) (As := [.int (iI (0)), .int (iI (min 1000 (x - (1000 * j))))]) (st := []) h hF ⟨dP_altitudeOf_29, rfl⟩ kvP_48 (cK_max X (by omega)) (by omega) rfl (Nat.le_of_ble_eq_true rfl) rfl ?_
        refine go_istore (L' := [.ref p, .int (iI (x)), .int (iI (sumI (fun m => max 0 (min 1000 (x - 1000 * m)) * S.1 (p + 10) m) j)), .int (iI (j)), .int (iI (max 0 (min 1000 (x - (1000 * j)))))]) (pc' := 34) h ⟨dP_altitudeOf_32, rfl⟩ (by decide) rfl rfl ?_
        refine go_iload_n (pc' := 35) h ⟨dP_altitudeOf_34, rfl⟩ rfl ?_
        refine go_iload (pc' := 37) h ⟨dP_altitudeOf_35, rfl⟩ rfl ?_
        refine go_aload_n (pc' := 38) h ⟨dP_altitudeOf_37, rfl⟩ rfl ?_
        refine gs_get (v := .ref (p + 9)) (pc' := 41) h ⟨dP_altitudeOf_38, rfl⟩ fgP_29 hp (by decide) (rfl) ?_
        refine go_iload_n (pc' := 42) h ⟨dP_altitudeOf_41, rfl⟩ rfl ?_
        refine gd_callVI (e := S.1 (p + 10) j) (E := S) (pc' := 45) (As := [.int (iI (j))]) (st := [.int (iI (max 0 (min 1000 (x - (1000 * j))))), .int (iI (sumI (fun m => max 0 (min 1000 (x - 1000 * m)) * S.1 (p + 10) m) j))]) h hF ⟨dP_altitudeOf_42, rfl⟩ kvP_58 (cR_ati X (n := 100) k9 l10 (by omega)) (by omega) k9 (by decide) ⟨_, _, rfl⟩ rfl (Nat.le_of_ble_eq_true rfl) rfl ?_
        refine gi_imul (pc' := 46) h ⟨dP_altitudeOf_45, rfl⟩ ?_
        refine gi_iadd (pc' := 47) h ⟨dP_altitudeOf_46, rfl⟩ ?_
        refine go_istore_n (L' := [.ref p, .int (iI (x)), .int (iI ((sumI (fun m => max 0 (min 1000 (x - 1000 * m)) * S.1 (p + 10) m) j) + ((max 0 (min 1000 (x - (1000 * j)))) * (S.1 (p + 10) j)))), .int (iI (j)), .int (iI (max 0 (min 1000 (x - (1000 * j)))))]) (pc' := 48) h ⟨dP_altitudeOf_47, rfl⟩ (by decide) rfl rfl ?_
        refine gi_iinc (L' := [.ref p, .int (iI (x)), .int (iI ((sumI (fun m => max 0 (min 1000 (x - 1000 * m)) * S.1 (p + 10) m) j) + ((max 0 (min 1000 (x - (1000 * j)))) * (S.1 (p + 10) j)))), .int (iI (j + 1)), .int (iI (max 0 (min 1000 (x - (1000 * j)))))]) (pc' := 51) h ⟨dP_altitudeOf_48, rfl⟩ rfl (by decide) rfl rfl ?_
        refine gi_goto (tgt := 4) h dP_altitudeOf_51 rfl ?_
        refine Go.cut [.ref p, .int (iI x), .int (iI (sumI (fun m => max 0 (min 1000 (x - 1000 * m)) * S.1 (p + 10) m) j + max 0 (min 1000 (x - 1000 * j)) * S.1 (p + 10) j)), .int (iI (j + 1))] 4 rfl ?_
        have g7 := ih (j + 1) (by omega) (by omega) (by omega)
        rw [sumI_s _ g5] at g7
        exact g7
  refine gi_iconst (pc' := 1) h ⟨dP_altitudeOf_0, rfl⟩ ?_
  refine go_istore_n (L' := [.ref p, .int (iI (x)), .int (iI (0))]) (pc' := 2) h ⟨dP_altitudeOf_1, rfl⟩ (by decide) rfl rfl ?_
  refine gi_iconst (pc' := 3) h ⟨dP_altitudeOf_2, rfl⟩ ?_
  refine go_istore_n (L' := [.ref p, .int (iI (x)), .int (iI (0)), .int (iI (0))]) (pc' := 4) h ⟨dP_altitudeOf_3, rfl⟩ (by decide) rfl rfl ?_
  exact loop 102 0 (by omega) (by omega) (by omega)
set_option maxRecDepth 4000 in
theorem cP_climb (X : XT) {S : Sg} {p : Nat} (hp : kd p = 2) (hok : planOk S p) {x : Int} (hx : -2147483648 ≤ x ∧ x ≤ 2147483647) : Ctr X 1 yP_climbersAbove bP_climbersAbove 4 (some .int) [.ref p, .int (iI (x))] (mk S) (PI (fun r S' => r = sumI (fun t => if x < S.1 (p + 12) t then 1 else 0) (S.1 (p + 11) 1) ∧ S' = S)) 0 0 := by
  refine Ctr.ofS (by decide) rfl (Nat.le_of_ble_eq_true rfl) (fun F h hF hE => ?_)
  obtain ⟨k1, k3, k5, k7, k9, k11, l2, l4, l6, l8, l10, l12⟩ := plan_ok hp
  obtain ⟨o1, o2, o3, o4, o5, o6, o7⟩ := id hok
  have loop : ∀ (n : Nat) (j : Int), 5 < j + n → 0 ≤ j → j ≤ S.1 (p + 11) 1 → Go F 4 (mk S) 0 0 4 [.ref p, .int (iI x), .int (iI (sumI (fun t => if x < S.1 (p + 12) t then 1 else 0) j)), .int (iI j)] [] := by
    intro n
    induction n with
    | zero => intro j g4 g5 g6; exfalso; omega
    | succ n ih =>
      intro j g4 g5 g6
      have g7 := sumI_s (fun t => if x < S.1 (p + 12) t then 1 else 0) g5
      refine go_iload_n (pc' := 5) h ⟨dP_climbersAbove_4, rfl⟩ rfl ?_
      refine go_aload_n (pc' := 6) h ⟨dP_climbersAbove_5, rfl⟩ rfl ?_
      refine gs_get (v := .ref (p + 11)) (pc' := 9) h ⟨dP_climbersAbove_6, rfl⟩ fgP_32 hp (by decide) (rfl) ?_
      refine gd_callVI (e := S.1 (p + 11) 1) (E := S) (pc' := 12) (As := []) (st := [.int (iI (j))]) h hF ⟨dP_climbersAbove_9, rfl⟩ kvP_54 (cR_size X k11) (by omega) k11 (by decide) ⟨_, _, rfl⟩ rfl (Nat.le_of_ble_eq_true rfl) rfl ?_
      refine gi_icmp_ge (tgt := 36) (pc' := 15) h dP_climbersAbove_12 rfl rfl (by omega) (fun c12 => ?_) (fun c12 => ?_)
      · refine go_iload_n (pc' := 37) h ⟨dP_climbersAbove_36, rfl⟩ rfl ?_
        exact gs_iret h hE dP_climbersAbove_37 (⟨by rw [show j = S.1 (p + 11) 1 by omega], rfl⟩)
      · refine go_aload_n (pc' := 16) h ⟨dP_climbersAbove_15, rfl⟩ rfl ?_
        refine gs_get (v := .ref (p + 11)) (pc' := 19) h ⟨dP_climbersAbove_16, rfl⟩ fgP_32 hp (by decide) (rfl) ?_
        refine go_iload_n (pc' := 20) h ⟨dP_climbersAbove_19, rfl⟩ rfl ?_
        refine gd_callVI (e := S.1 (p + 12) j) (E := S) (pc' := 23) (As := [.int (iI (j))]) (st := []) h hF ⟨dP_climbersAbove_20, rfl⟩ kvP_58 (cR_ati X (n := 4) k11 l12 (by omega)) (by omega) k11 (by decide) ⟨_, _, rfl⟩ rfl (Nat.le_of_ble_eq_true rfl) rfl ?_
        have g8 := o6 j (by omega) (by omega)
        refine go_iload_n (pc' := 24) h ⟨dP_climbersAbove_23, rfl⟩ rfl ?_
        refine gi_icmp_le (tgt := 30) (pc' := 27) h dP_climbersAbove_24 rfl rfl (by omega) (fun c24 => ?_) (fun c24 => ?_)
        · refine gi_iinc (L' := [.ref p, .int (iI (x)), .int (iI (sumI (fun t => if x < S.1 (p + 12) t then 1 else 0) j)), .int (iI (j + 1))]) (pc' := 33) h ⟨dP_climbersAbove_30, rfl⟩ rfl (by decide) rfl rfl ?_
          refine gi_goto (tgt := 4) h dP_climbersAbove_33 rfl ?_
          have g10 := ih (j + 1) (by omega) (by omega) (by omega)
          rw [g7, if_neg (by omega), Int.add_zero] at g10
          exact g10
        · refine gi_iinc (L' := [.ref p, .int (iI (x)), .int (iI (sumI (fun t => if x < S.1 (p + 12) t then 1 else 0) j + 1)), .int (iI (j))]) (pc' := 30) h ⟨dP_climbersAbove_27, rfl⟩ rfl (by decide) rfl rfl ?_
          refine gi_iinc (L' := [.ref p, .int (iI (x)), .int (iI (sumI (fun t => if x < S.1 (p + 12) t then 1 else 0) j + 1)), .int (iI (j + 1))]) (pc' := 33) h ⟨dP_climbersAbove_30, rfl⟩ rfl (by decide) rfl rfl ?_
          refine gi_goto (tgt := 4) h dP_climbersAbove_33 rfl ?_
          have g10 := ih (j + 1) (by omega) (by omega) (by omega)
          rw [g7, if_pos (by omega)] at g10
          exact g10
  refine gi_iconst (pc' := 1) h ⟨dP_climbersAbove_0, rfl⟩ ?_
  refine go_istore_n (L' := [.ref p, .int (iI (x)), .int (iI (0))]) (pc' := 2) h ⟨dP_climbersAbove_1, rfl⟩ (by decide) rfl rfl ?_
  refine gi_iconst (pc' := 3) h ⟨dP_climbersAbove_2, rfl⟩ ?_
  refine go_istore_n (L' := [.ref p, .int (iI (x)), .int (iI (0)), .int (iI (0))]) (pc' := 4) h ⟨dP_climbersAbove_3, rfl⟩ (by decide) rfl rfl ?_
  exact loop 6 0 (by omega) (by omega) (by omega)
set_option maxRecDepth 4000 in
theorem cP_rank (X : XT) {S : Sg} {p : Nat} (hp : kd p = 2) (hok : planOk S p) {t : Int} (ht : 0 ≤ t ∧ t < S.1 (p + 11) 1) : Ctr X 1 yP_rankOf bP_rankOf 4 (some .int) [.ref p, .int (iI (t))] (mk S) (PI (fun r S' => r = sumI (fun u => if S.1 (p + 12) t < S.1 (p + 12) u ∨ (S.1 (p + 12) u = S.1 (p + 12) t ∧ u < t) then 1 else 0) (S.1 (p + 11) 1) ∧ S' = S)) 0 0 := by
  refine Ctr.ofS (by decide) rfl (Nat.le_of_ble_eq_true rfl) (fun F h hF hE => ?_)
  obtain ⟨k1, k3, k5, k7, k9, k11, l2, l4, l6, l8, l10, l12⟩ := plan_ok hp
  obtain ⟨o1, o2, o3, o4, o5, o6, o7⟩ := id hok
  have g9 := o6 t (by omega) (by omega)
  have loop : ∀ (n : Nat) (j : Int), 5 < j + n → 0 ≤ j → j ≤ S.1 (p + 11) 1 → Go F 4 (mk S) 0 0 4 [.ref p, .int (iI t), .int (iI (sumI (fun u => if S.1 (p + 12) t < S.1 (p + 12) u ∨ (S.1 (p + 12) u = S.1 (p + 12) t ∧ u < t) then 1 else 0) j)), .int (iI j)] [] := by
    intro n
    induction n with
    | zero => intro j g4 g5 g6; exfalso; omega
    | succ n ih =>
      intro j g4 g5 g6
      have g7 := sumI_s (fun u => if S.1 (p + 12) t < S.1 (p + 12) u ∨ (S.1 (p + 12) u = S.1 (p + 12) t ∧ u < t) then 1 else 0) g5
      refine go_iload_n (pc' := 5) h ⟨dP_rankOf_4, rfl⟩ rfl ?_
      refine go_aload_n (pc' := 6) h ⟨dP_rankOf_5, rfl⟩ rfl ?_
      refine gs_get (v := .ref (p + 11)) (pc' := 9) h ⟨dP_rankOf_6, rfl⟩ fgP_32 hp (by decide) (rfl) ?_
      refine gd_callVI (e := S.1 (p + 11) 1) (E := S) (pc' := 12) (As := []) (st := [.int (iI (j))]) h hF ⟨dP_rankOf_9, rfl⟩ kvP_54 (cR_size X k11) (by omega) k11 (by decide) ⟨_, _, rfl⟩ rfl (Nat.le_of_ble_eq_true rfl) rfl ?_
      refine gi_icmp_ge (tgt := 67) (pc' := 15) h dP_rankOf_12 rfl rfl (by omega) (fun c12 => ?_) (fun c12 => ?_)
      · refine go_iload_n (pc' := 68) h ⟨dP_rankOf_67, rfl⟩ rfl ?_
        exact gs_iret h hE dP_rankOf_68 (⟨by rw [show j = S.1 (p + 11) 1 by omega], rfl⟩)
      · refine go_aload_n (pc' := 16) h ⟨dP_rankOf_15, rfl⟩ rfl ?_
        refine gs_get (v := .ref (p + 11)) (pc' := 19) h ⟨dP_rankOf_16, rfl⟩ fgP_32 hp (by decide) (rfl) ?_
        refine go_iload_n (pc' := 20) h ⟨dP_rankOf_19, rfl⟩ rfl ?_
        refine gd_callVI (e := S.1 (p + 12) j) (E := S) (pc' := 23) (As := [.int (iI (j))]) (st := []) h hF ⟨dP_rankOf_20, rfl⟩ kvP_58 (cR_ati X (n := 4) k11 l12 (by omega)) (by omega) k11 (by decide) ⟨_, _, rfl⟩ rfl (Nat.le_of_ble_eq_true rfl) rfl ?_
        have g8 := o6 j (by omega) (by omega)
        refine go_aload_n (pc' := 24) h ⟨dP_rankOf_23, rfl⟩ rfl ?_
        refine gs_get (v := .ref (p + 11)) (pc' := 27) h ⟨dP_rankOf_24, rfl⟩ fgP_32 hp (by decide) (rfl) ?_
        refine go_iload_n (pc' := 28) h ⟨dP_rankOf_27, rfl⟩ rfl ?_
        refine gd_callVI (e := S.1 (p + 12) t) (E := S) (pc' := 31) (As := [.int (iI (t))]) (st := [.int (iI (S.1 (p + 12) j))]) h hF ⟨dP_rankOf_28, rfl⟩ kvP_58 (cR_ati X (n := 4) k11 l12 (by omega)) (by omega) k11 (by decide) ⟨_, _, rfl⟩ rfl (Nat.le_of_ble_eq_true rfl) rfl ?_
        refine gi_icmp_gt (tgt := 58) (pc' := 34) h dP_rankOf_31 rfl rfl (by omega) (fun c31 => ?_) (fun c31 => ?_)
        · refine gi_iinc (L' := [.ref p, .int (iI (t)), .int (iI (sumI (fun u => if S.1 (p + 12) t < S.1 (p + 12) u ∨ (S.1 (p + 12) u = S.1 (p + 12) t ∧ u < t) then 1 else 0) j + 1)), .int (iI (j))]) (pc' := 61) h ⟨dP_rankOf_58, rfl⟩ rfl (by decide) rfl rfl ?_
          refine gi_iinc (L' := [.ref p, .int (iI (t)), .int (iI (sumI (fun u => if S.1 (p + 12) t < S.1 (p + 12) u ∨ (S.1 (p + 12) u = S.1 (p + 12) t ∧ u < t) then 1 else 0) j + 1)), .int (iI (j + 1))]) (pc' := 64) h ⟨dP_rankOf_61, rfl⟩ rfl (by decide) rfl rfl ?_
          refine gi_goto (tgt := 4) h dP_rankOf_64 rfl ?_
          have g10 := ih (j + 1) (by omega) (by omega) (by omega)
          rw [g7, if_pos (by omega)] at g10
          exact g10
        · refine go_aload_n (pc' := 35) h ⟨dP_rankOf_34, rfl⟩ rfl ?_
          refine gs_get (v := .ref (p + 11)) (pc' := 38) h ⟨dP_rankOf_35, rfl⟩ fgP_32 hp (by decide) (rfl) ?_
          refine go_iload_n (pc' := 39) h ⟨dP_rankOf_38, rfl⟩ rfl ?_
          refine gd_callVI (e := S.1 (p + 12) j) (E := S) (pc' := 42) (As := [.int (iI (j))]) (st := []) h hF ⟨dP_rankOf_39, rfl⟩ kvP_58 (cR_ati X (n := 4) k11 l12 (by omega)) (by omega) k11 (by decide) ⟨_, _, rfl⟩ rfl (Nat.le_of_ble_eq_true rfl) rfl ?_
          refine go_aload_n (pc' := 43) h ⟨dP_rankOf_42, rfl⟩ rfl ?_
          refine gs_get (v := .ref (p + 11)) (pc' := 46) h ⟨dP_rankOf_43, rfl⟩ fgP_32 hp (by decide) (rfl) ?_
          refine go_iload_n (pc' := 47) h ⟨dP_rankOf_46, rfl⟩ rfl ?_
          refine gd_callVI (e := S.1 (p + 12) t) (E := S) (pc' := 50) (As := [.int (iI (t))]) (st := [.int (iI (S.1 (p + 12) j))]) h hF ⟨dP_rankOf_47, rfl⟩ kvP_58 (cR_ati X (n := 4) k11 l12 (by omega)) (by omega) k11 (by decide) ⟨_, _, rfl⟩ rfl (Nat.le_of_ble_eq_true rfl) rfl ?_
          refine gi_icmp_ne (tgt := 61) (pc' := 53) h dP_rankOf_50 rfl rfl (by omega) (fun c50 => ?_) (fun c50 => ?_)
          · refine gi_iinc (L' := [.ref p, .int (iI (t)), .int (iI (sumI (fun u => if S.1 (p + 12) t < S.1 (p + 12) u ∨ (S.1 (p + 12) u = S.1 (p + 12) t ∧ u < t) then 1 else 0) j)), .int (iI (j + 1))]) (pc' := 64) h ⟨dP_rankOf_61, rfl⟩ rfl (by decide) rfl rfl ?_
            refine gi_goto (tgt := 4) h dP_rankOf_64 rfl ?_
            have g10 := ih (j + 1) (by omega) (by omega) (by omega)
            rw [g7, if_neg (by omega), Int.add_zero] at g10
            exact g10
          · refine go_iload_n (pc' := 54) h ⟨dP_rankOf_53, rfl⟩ rfl ?_
            refine go_iload_n (pc' := 55) h ⟨dP_rankOf_54, rfl⟩ rfl ?_
            refine gi_icmp_ge (tgt := 61) (pc' := 58) h dP_rankOf_55 rfl rfl (by omega) (fun c55 => ?_) (fun c55 => ?_)
            · refine gi_iinc (L' := [.ref p, .int (iI (t)), .int (iI (sumI (fun u => if S.1 (p + 12) t < S.1 (p + 12) u ∨ (S.1 (p + 12) u = S.1 (p + 12) t ∧ u < t) then 1 else 0) j)), .int (iI (j + 1))]) (pc' := 64) h ⟨dP_rankOf_61, rfl⟩ rfl (by decide) rfl rfl ?_
              refine gi_goto (tgt := 4) h dP_rankOf_64 rfl ?_
              have g10 := ih (j + 1) (by omega) (by omega) (by omega)
              rw [g7, if_neg (by omega), Int.add_zero] at g10
              exact g10
            · refine gi_iinc (L' := [.ref p, .int (iI (t)), .int (iI (sumI (fun u => if S.1 (p + 12) t < S.1 (p + 12) u ∨ (S.1 (p + 12) u = S.1 (p + 12) t ∧ u < t) then 1 else 0) j + 1)), .int (iI (j))]) (pc' := 61) h ⟨dP_rankOf_58, rfl⟩ rfl (by decide) rfl rfl ?_
              refine gi_iinc (L' := [.ref p, .int (iI (t)), .int (iI (sumI (fun u => if S.1 (p + 12) t < S.1 (p + 12) u ∨ (S.1 (p + 12) u = S.1 (p + 12) t ∧ u < t) then 1 else 0) j + 1)), .int (iI (j + 1))]) (pc' := 64) h ⟨dP_rankOf_61, rfl⟩ rfl (by decide) rfl rfl ?_
              refine gi_goto (tgt := 4) h dP_rankOf_64 rfl ?_
              have g10 := ih (j + 1) (by omega) (by omega) (by omega)
              rw [g7, if_pos (by omega)] at g10
              exact g10
  refine gi_iconst (pc' := 1) h ⟨dP_rankOf_0, rfl⟩ ?_
  refine go_istore_n (L' := [.ref p, .int (iI (t)), .int (iI (0))]) (pc' := 2) h ⟨dP_rankOf_1, rfl⟩ (by decide) rfl rfl ?_
  refine gi_iconst (pc' := 3) h ⟨dP_rankOf_2, rfl⟩ ?_
  refine go_istore_n (L' := [.ref p, .int (iI (t)), .int (iI (0)), .int (iI (0))]) (pc' := 4) h ⟨dP_rankOf_3, rfl⟩ (by decide) rfl rfl ?_
  exact loop 6 0 (by omega) (by omega) (by omega)
theorem dvU_bd {a q : Int} (ha : 0 ≤ a) (hq : 1 ≤ q) : 0 ≤ dvU a q ∧ dvU a q ≤ a := by
  unfold dvU
  rw [if_neg (by omega)]
  have h1 := Int.ediv_nonneg (a := a + q - 1) (b := q) (by omega) (by omega)
  refine ⟨h1, ?_⟩
  by_cases h0 : a = 0
  · rw [h0, show (0 : Int) + q - 1 = q - 1 by omega, Int.ediv_eq_zero_of_lt (by omega) (by omega)]; omega
  · have : (a + q - 1) / q < a + 1 := Int.ediv_lt_of_lt_mul (by omega) (by
      have := Int.mul_le_mul_of_nonneg_left (show (1 : Int) ≤ q from hq) (show 0 ≤ a from ha)
      have h3 := Int.mul_comm a q
      have : (a + 1) * q = a * q + q := by rw [Int.add_mul, Int.one_mul]
      omega)
    omega
set_option maxRecDepth 4000 in
theorem cP_days (X : XT) {S : Sg} {p : Nat} (hp : kd p = 2) (hok : planOk S p) {b : Int} (hb : 2 ≤ b ∧ b ≤ 9) : Ctr X 1 yP_daysWith bP_daysWith 4 (some .int) [.ref p, .int (iI (b))] (mk S) (PI (fun r S' => r = dvU (sumI (fun s => dvU (S.1 (p + 2) s) (S.1 p 6)) (S.1 (p + 1) 1)) (b - 1) ∧ S' = S)) 0 0 := by
  refine Ctr.ofS (by decide) rfl (Nat.le_of_ble_eq_true rfl) (fun F h hF hE => ?_)
  obtain ⟨k1, k3, k5, k7, k9, k11, l2, l4, l6, l8, l10, l12⟩ := plan_ok hp
  obtain ⟨o1, o2, o3, o4, o5, o6, o7⟩ := id hok
  have loop : ∀ (n : Nat) (j : Int), 6 < j + n → 0 ≤ j → j ≤ S.1 (p + 1) 1 → 0 ≤ sumI (fun s => dvU (S.1 (p + 2) s) (S.1 p 6)) j ∧ sumI (fun s => dvU (S.1 (p + 2) s) (S.1 p 6)) j ≤ 20 * j → Go F 4 (mk S) 0 0 4 [.ref p, .int (iI b), .int (iI (sumI (fun s => dvU (S.1 (p + 2) s) (S.1 p 6)) j)), .int (iI j)] [] := by
    intro n
    induction n with
    | zero => intro j g4 g5 g6; exfalso; omega
    | succ n ih =>
      intro j g4 g5 g6 g7
      refine go_iload_n (pc' := 5) h ⟨dP_daysWith_4, rfl⟩ rfl ?_
      refine go_aload_n (pc' := 6) h ⟨dP_daysWith_5, rfl⟩ rfl ?_
      refine gs_get (v := .ref (p + 1)) (pc' := 9) h ⟨dP_daysWith_6, rfl⟩ fgP_14 hp (by decide) (rfl) ?_
      refine gd_callVI (e := S.1 (p + 1) 1) (E := S) (pc' := 12) (As := []) (st := [.int (iI (j))]) h hF ⟨dP_daysWith_9, rfl⟩ kvP_54 (cR_size X k1) (by omega) k1 (by decide) ⟨_, _, rfl⟩ rfl (Nat.le_of_ble_eq_true rfl) rfl ?_
      refine gi_icmp_ge (tgt := 39) (pc' := 15) h dP_daysWith_12 rfl rfl (by omega) (fun c12 => ?_) (fun c12 => ?_)
      · refine go_iload_n (pc' := 40) h ⟨dP_daysWith_39, rfl⟩ rfl ?_
        refine go_iload_n (pc' := 41) h ⟨dP_daysWith_40, rfl⟩ rfl ?_
        refine gi_iconst (pc' := 42) h ⟨dP_daysWith_41, rfl⟩ ?_
        refine gi_isub (pc' := 43) h ⟨dP_daysWith_42, rfl⟩ ?_
        refine gd_callSNI (e := dvU (sumI (fun s => dvU (S.1 (p + 2) s) (S.1 p 6)) j) (b - 1)) (E := S) (pc' := 46) (As := [.int (iI (sumI (fun s => dvU (S.1 (p + 2) s) (S.1 p 6)) j)), .int (iI (b - 1))]) (st := []) h hF ⟨dP_daysWith_43, rfl⟩ kvP_65 (cX_divideUp X (by omega) (by omega)) (by omega) rfl (Nat.le_of_ble_eq_true rfl) rfl ?_
        exact gs_iret h hE dP_daysWith_46 (⟨by rw [show j = S.1 (p + 1) 1 by omega], rfl⟩)
      · refine go_iload_n (pc' := 16) h ⟨dP_daysWith_15, rfl⟩ rfl ?_
        refine go_aload_n (pc' := 17) h ⟨dP_daysWith_16, rfl⟩ rfl ?_
        refine gs_get (v := .ref (p + 1)) (pc' := 20) h ⟨dP_daysWith_17, rfl⟩ fgP_14 hp (by decide) (rfl) ?_
        refine go_iload_n (pc' := 21) h ⟨dP_daysWith_20, rfl⟩ rfl ?_
        refine gd_callVI (e := S.1 (p + 2) j) (E := S) (pc' := 24) (As := [.int (iI (j))]) (st := [.int (iI (sumI (fun s => dvU (S.1 (p + 2) s) (S.1 p 6)) j))]) h hF ⟨dP_daysWith_21, rfl⟩ kvP_58 (cR_ati X (n := 5) k1 l2 (by omega)) (by omega) k1 (by decide) ⟨_, _, rfl⟩ rfl (Nat.le_of_ble_eq_true rfl) rfl ?_
        have g8 := o4 j (by omega) (by omega)
        refine go_aload_n (pc' := 25) h ⟨dP_daysWith_24, rfl⟩ rfl ?_
        refine gs_get (v := .int (iI (S.1 p 6))) (pc' := 28) h ⟨dP_daysWith_25, rfl⟩ fgP_35 hp (by decide) (rfl) ?_
        refine gd_callSNI (e := dvU (S.1 (p + 2) j) (S.1 p 6)) (E := S) (pc' := 31) (As := [.int (iI (S.1 (p + 2) j)), .int (iI (S.1 p 6))]) (st := [.int (iI (sumI (fun s => dvU (S.1 (p + 2) s) (S.1 p 6)) j))]) h hF ⟨dP_daysWith_28, rfl⟩ kvP_65 (cX_divideUp X (by omega) (by omega)) (by omega) rfl (Nat.le_of_ble_eq_true rfl) rfl ?_
        refine gi_iadd (pc' := 32) h ⟨dP_daysWith_31, rfl⟩ ?_
        refine go_istore_n (L' := [.ref p, .int (iI (b)), .int (iI ((sumI (fun s => dvU (S.1 (p + 2) s) (S.1 p 6)) j) + (dvU (S.1 (p + 2) j) (S.1 p 6)))), .int (iI (j))]) (pc' := 33) h ⟨dP_daysWith_32, rfl⟩ (by decide) rfl rfl ?_
        refine gi_iinc (L' := [.ref p, .int (iI (b)), .int (iI ((sumI (fun s => dvU (S.1 (p + 2) s) (S.1 p 6)) j) + (dvU (S.1 (p + 2) j) (S.1 p 6)))), .int (iI (j + 1))]) (pc' := 36) h ⟨dP_daysWith_33, rfl⟩ rfl (by decide) rfl rfl ?_
        refine gi_goto (tgt := 4) h dP_daysWith_36 rfl ?_
        have g9 := dvU_bd (a := S.1 (p + 2) j) (q := S.1 p 6) (by omega) (by omega)
        have g11 := sumI_s (fun s => dvU (S.1 (p + 2) s) (S.1 p 6)) g5
        have g10 := ih (j + 1) (by omega) (by omega) (by omega) (by rw [g11]; omega)
        rw [g11] at g10
        exact g10
  refine gi_iconst (pc' := 1) h ⟨dP_daysWith_0, rfl⟩ ?_
  refine go_istore_n (L' := [.ref p, .int (iI (b)), .int (iI (0))]) (pc' := 2) h ⟨dP_daysWith_1, rfl⟩ (by decide) rfl rfl ?_
  refine gi_iconst (pc' := 3) h ⟨dP_daysWith_2, rfl⟩ ?_
  refine go_istore_n (L' := [.ref p, .int (iI (b)), .int (iI (0)), .int (iI (0))]) (pc' := 4) h ⟨dP_daysWith_3, rfl⟩ (by decide) rfl rfl ?_
  exact loop 7 0 (by omega) (by omega) (by omega) (by rw [sumI_0]; omega)
def stF (h : Int → Int) (z : Int) : Nat → Int → Int → Int
  | 0, _, c => c
  | n + 1, m, c => if m < z then stF h z n (m + 1) (if c = -9 ∨ h c < h m then m else c) else c
def fsF (h : Int → Int) (z a : Int) : Nat → Int → Int → Int
  | 0, _, _ => 0
  | n + 1, m, b => if m < z ∧ b < a then (if a ≤ b + 1000 * h m then 1000 * m + dvU (a - b) (h m) else fsF h z a n (m + 1) (b + 1000 * h m)) else if a = 0 then 0 else -9
set_option maxRecDepth 4000 in
theorem cP_steep (X : XT) {S : Sg} {p : Nat} (hp : kd p = 2) (hok : planOk S p) : Ctr X 1 yP_steepest bP_steepest 3 (some .int) [.ref p] (mk S) (PI (fun r S' => r = stF (S.1 (p + 10)) (S.1 (p + 9) 1) 102 0 (-9) ∧ S' = S)) 0 0 := by
  refine Ctr.ofS (by decide) rfl (Nat.le_of_ble_eq_true rfl) (fun F h hF hE => ?_)
  obtain ⟨k1, k3, k5, k7, k9, k11, l2, l4, l6, l8, l10, l12⟩ := plan_ok hp
  obtain ⟨o1, o2, o3, o4, o5, o6, o7⟩ := id hok
  have loop : ∀ (n : Nat) (j c : Int), 101 < j + n → 0 ≤ j → j ≤ S.1 (p + 9) 1 → (c = -9 ∨ (0 ≤ c ∧ c < S.1 (p + 9) 1)) → stF (S.1 (p + 10)) (S.1 (p + 9) 1) 102 0 (-9) = stF (S.1 (p + 10)) (S.1 (p + 9) 1) n j c → Go F 3 (mk S) 0 0 5 [.ref p, .int (iI c), .int (iI j)] [] := by
    intro n
    induction n with
    | zero => intro j c g4 g5 g6; exfalso; omega
    | succ n ih =>
      intro j c g4 g5 g6 g7 g8
      refine go_iload_n (pc' := 6) h ⟨dP_steepest_5, rfl⟩ rfl ?_
      refine go_aload_n (pc' := 7) h ⟨dP_steepest_6, rfl⟩ rfl ?_
      refine gs_get (v := .ref (p + 9)) (pc' := 10) h ⟨dP_steepest_7, rfl⟩ fgP_29 hp (by decide) (rfl) ?_
      refine gd_callVI (e := S.1 (p + 9) 1) (E := S) (pc' := 13) (As := []) (st := [.int (iI (j))]) h hF ⟨dP_steepest_10, rfl⟩ kvP_54 (cR_size X k9) (by omega) k9 (by decide) ⟨_, _, rfl⟩ rfl (Nat.le_of_ble_eq_true rfl) rfl ?_
      refine gi_icmp_ge (tgt := 49) (pc' := 16) h dP_steepest_13 rfl rfl (by omega) (fun c13 => ?_) (fun c13 => ?_)
      · refine go_iload_n (pc' := 50) h ⟨dP_steepest_49, rfl⟩ rfl ?_
        exact gs_iret h hE dP_steepest_50 (⟨by rw [g8, stF, if_neg (by omega)], rfl⟩)
      · refine go_iload_n (pc' := 17) h ⟨dP_steepest_16, rfl⟩ rfl ?_
        refine gi_bipush (pc' := 19) h ⟨dP_steepest_17, rfl⟩ rfl ?_
        refine gi_icmp_eq (tgt := 41) (pc' := 22) h dP_steepest_19 rfl rfl (by omega) (fun c19 => ?_) (fun c19 => ?_)
        · refine go_iload_n (pc' := 42) h ⟨dP_steepest_41, rfl⟩ rfl ?_
          refine go_istore_n (L' := [.ref p, .int (iI (j)), .int (iI (j))]) (pc' := 43) h ⟨dP_steepest_42, rfl⟩ (by decide) rfl rfl ?_
          refine gi_iinc (L' := [.ref p, .int (iI (j)), .int (iI (j + 1))]) (pc' := 46) h ⟨dP_steepest_43, rfl⟩ rfl (by decide) rfl rfl ?_
          refine gi_goto (tgt := 5) h dP_steepest_46 rfl ?_
          exact ih (j + 1) j (by omega) (by omega) (by omega) (by omega) (by rw [g8, stF, if_pos (by omega), if_pos (by omega)])
        · refine go_aload_n (pc' := 23) h ⟨dP_steepest_22, rfl⟩ rfl ?_
          refine gs_get (v := .ref (p + 9)) (pc' := 26) h ⟨dP_steepest_23, rfl⟩ fgP_29 hp (by decide) (rfl) ?_
          refine go_iload_n (pc' := 27) h ⟨dP_steepest_26, rfl⟩ rfl ?_
          refine gd_callVI (e := S.1 (p + 10) j) (E := S) (pc' := 30) (As := [.int (iI (j))]) (st := []) h hF ⟨dP_steepest_27, rfl⟩ kvP_58 (cR_ati X (n := 100) k9 l10 (by omega)) (by omega) k9 (by decide) ⟨_, _, rfl⟩ rfl (Nat.le_of_ble_eq_true rfl) rfl ?_
          have g9 := o5 j (by omega) (by omega)
          refine go_aload_n (pc' := 31) h ⟨dP_steepest_30, rfl⟩ rfl ?_
          refine gs_get (v := .ref (p + 9)) (pc' := 34) h ⟨dP_steepest_31, rfl⟩ fgP_29 hp (by decide) (rfl) ?_
          refine go_iload_n (pc' := 35) h ⟨dP_steepest_34, rfl⟩ rfl ?_
          refine gd_callVI (e := S.1 (p + 10) c) (E := S) (pc' := 38) (As := [.int (iI (c))]) (st := [.int (iI (S.1 (p + 10) j))]) h hF ⟨dP_steepest_35, rfl⟩ kvP_58 (cR_ati X (n := 100) k9 l10 (by omega)) (by omega) k9 (by decide) ⟨_, _, rfl⟩ rfl (Nat.le_of_ble_eq_true rfl) rfl ?_
          have g10 := o5 c (by omega) (by omega)
          refine gi_icmp_le (tgt := 43) (pc' := 41) h dP_steepest_38 rfl rfl (by omega) (fun c38 => ?_) (fun c38 => ?_)
          · refine gi_iinc (L' := [.ref p, .int (iI (c)), .int (iI (j + 1))]) (pc' := 46) h ⟨dP_steepest_43, rfl⟩ rfl (by decide) rfl rfl ?_
            refine gi_goto (tgt := 5) h dP_steepest_46 rfl ?_
            exact ih (j + 1) c (by omega) (by omega) (by omega) (by omega) (by rw [g8, stF, if_pos (by omega), if_neg (by omega)])
          · refine go_iload_n (pc' := 42) h ⟨dP_steepest_41, rfl⟩ rfl ?_
            refine go_istore_n (L' := [.ref p, .int (iI (j)), .int (iI (j))]) (pc' := 43) h ⟨dP_steepest_42, rfl⟩ (by decide) rfl rfl ?_
            refine gi_iinc (L' := [.ref p, .int (iI (j)), .int (iI (j + 1))]) (pc' := 46) h ⟨dP_steepest_43, rfl⟩ rfl (by decide) rfl rfl ?_
            refine gi_goto (tgt := 5) h dP_steepest_46 rfl ?_
            exact ih (j + 1) j (by omega) (by omega) (by omega) (by omega) (by rw [g8, stF, if_pos (by omega), if_pos (by omega)])
  refine gi_bipush (pc' := 2) h ⟨dP_steepest_0, rfl⟩ rfl ?_
  refine go_istore_n (L' := [.ref p, .int (iI (-9))]) (pc' := 3) h ⟨dP_steepest_2, rfl⟩ (by decide) rfl rfl ?_
  refine gi_iconst (pc' := 4) h ⟨dP_steepest_3, rfl⟩ ?_
  refine go_istore_n (L' := [.ref p, .int (iI (-9)), .int (iI (0))]) (pc' := 5) h ⟨dP_steepest_4, rfl⟩ (by decide) rfl rfl ?_
  exact loop 102 0 (-9) (by omega) (by omega) (by omega) (by omega) rfl
set_option maxRecDepth 4000 in
theorem cP_step (X : XT) {S : Sg} {p : Nat} (hp : kd p = 2) (hok : planOk S p) {a : Int} (ha : 0 ≤ a ∧ a ≤ 100000000) : Ctr X 1 yP_firstStepAt bP_firstStepAt 5 (some .int) [.ref p, .int (iI (a))] (mk S) (PI (fun r S' => r = fsF (S.1 (p + 10)) (S.1 (p + 9) 1) a 102 0 0 ∧ S' = S)) 0 0 := by
  refine Ctr.ofS (by decide) rfl (Nat.le_of_ble_eq_true rfl) (fun F h hF hE => ?_)
  obtain ⟨k1, k3, k5, k7, k9, k11, l2, l4, l6, l8, l10, l12⟩ := plan_ok hp
  obtain ⟨o1, o2, o3, o4, o5, o6, o7⟩ := id hok
  have loop : ∀ (n : Nat) (j b : Int), 101 < j + n → 0 ≤ j → j ≤ S.1 (p + 9) 1 → 0 ≤ b ∧ b ≤ 80000 * j → fsF (S.1 (p + 10)) (S.1 (p + 9) 1) a 102 0 0 = fsF (S.1 (p + 10)) (S.1 (p + 9) 1) a n j b → Go F 5 (mk S) 0 0 4 [.ref p, .int (iI a), .int (iI b), .int (iI j)] [] := by
    intro n
    induction n with
    | zero => intro j b g4 g5 g6; exfalso; omega
    | succ n ih =>
      intro j b g4 g5 g6 g7 g8
      refine go_iload_n (pc' := 5) h ⟨dP_firstStepAt_4, rfl⟩ rfl ?_
      refine go_aload_n (pc' := 6) h ⟨dP_firstStepAt_5, rfl⟩ rfl ?_
      refine gs_get (v := .ref (p + 9)) (pc' := 9) h ⟨dP_firstStepAt_6, rfl⟩ fgP_29 hp (by decide) (rfl) ?_
      refine gd_callVI (e := S.1 (p + 9) 1) (E := S) (pc' := 12) (As := []) (st := [.int (iI (j))]) h hF ⟨dP_firstStepAt_9, rfl⟩ kvP_54 (cR_size X k9) (by omega) k9 (by decide) ⟨_, _, rfl⟩ rfl (Nat.le_of_ble_eq_true rfl) rfl ?_
      refine gi_icmp_ge (tgt := 72) (pc' := 15) h dP_firstStepAt_12 rfl rfl (by omega) (fun c12 => ?_) (fun c12 => ?_)
      · refine go_iload_n (pc' := 73) h ⟨dP_firstStepAt_72, rfl⟩ rfl ?_
        refine gi_if_ne (tgt := 80) (pc' := 76) h dP_firstStepAt_73 rfl rfl (by omega) (fun c73 => ?_) (fun c73 => ?_)
        · refine gi_bipush (pc' := 82) h ⟨dP_firstStepAt_80, rfl⟩ rfl ?_
          exact gs_iret h hE dP_firstStepAt_82 (⟨by rw [g8, fsF, if_neg (by omega), if_neg (by omega)], rfl⟩)
        · refine gi_iconst (pc' := 77) h ⟨dP_firstStepAt_76, rfl⟩ ?_
          refine gi_goto (tgt := 82) h dP_firstStepAt_77 rfl ?_
          exact gs_iret h hE dP_firstStepAt_82 (⟨by rw [g8, fsF, if_neg (by omega), if_pos (by omega)], rfl⟩)
      · refine go_iload_n (pc' := 16) h ⟨dP_firstStepAt_15, rfl⟩ rfl ?_
        refine go_iload_n (pc' := 17) h ⟨dP_firstStepAt_16, rfl⟩ rfl ?_
        refine gi_icmp_ge (tgt := 72) (pc' := 20) h dP_firstStepAt_17 rfl rfl (by omega) (fun c17 => ?_) (fun c17 => ?_)
        · refine go_iload_n (pc' := 73) h ⟨dP_firstStepAt_72, rfl⟩ rfl ?_
          refine gi_if_ne (tgt := 80) (pc' := 76) h dP_firstStepAt_73 rfl rfl (by omega) (fun c73 => ?_) (fun c73 => ?_)
          · refine gi_bipush (pc' := 82) h ⟨dP_firstStepAt_80, rfl⟩ rfl ?_
            exact gs_iret h hE dP_firstStepAt_82 (⟨by rw [g8, fsF, if_neg (by omega), if_neg (by omega)], rfl⟩)
          · refine gi_iconst (pc' := 77) h ⟨dP_firstStepAt_76, rfl⟩ ?_
            refine gi_goto (tgt := 82) h dP_firstStepAt_77 rfl ?_
            exact gs_iret h hE dP_firstStepAt_82 (⟨by rw [g8, fsF, if_neg (by omega), if_pos (by omega)], rfl⟩)
        · refine go_iload_n (pc' := 21) h ⟨dP_firstStepAt_20, rfl⟩ rfl ?_
          refine gi_sipush (pc' := 24) h ⟨dP_firstStepAt_21, rfl⟩ rfl ?_
          refine go_aload_n (pc' := 25) h ⟨dP_firstStepAt_24, rfl⟩ rfl ?_
          refine gs_get (v := .ref (p + 9)) (pc' := 28) h ⟨dP_firstStepAt_25, rfl⟩ fgP_29 hp (by decide) (rfl) ?_
          refine go_iload_n (pc' := 29) h ⟨dP_firstStepAt_28, rfl⟩ rfl ?_
          refine gd_callVI (e := S.1 (p + 10) j) (E := S) (pc' := 32) (As := [.int (iI (j))]) (st := [.int (iI (1000)), .int (iI (b))]) h hF ⟨dP_firstStepAt_29, rfl⟩ kvP_58 (cR_ati X (n := 100) k9 l10 (by omega)) (by omega) k9 (by decide) ⟨_, _, rfl⟩ rfl (Nat.le_of_ble_eq_true rfl) rfl ?_
          have g9 := o5 j (by omega) (by omega)
          refine gi_imul (pc' := 33) h ⟨dP_firstStepAt_32, rfl⟩ ?_
          refine gi_iadd (pc' := 34) h ⟨dP_firstStepAt_33, rfl⟩ ?_
          refine go_istore (L' := [.ref p, .int (iI (a)), .int (iI (b)), .int (iI (j)), .int (iI (b + (1000 * (S.1 (p + 10) j))))]) (pc' := 36) h ⟨dP_firstStepAt_34, rfl⟩ (by decide) rfl rfl ?_
          refine go_iload_n (pc' := 37) h ⟨dP_firstStepAt_36, rfl⟩ rfl ?_
          refine go_iload (pc' := 39) h ⟨dP_firstStepAt_37, rfl⟩ rfl ?_
          refine gi_icmp_gt (tgt := 63) (pc' := 42) h dP_firstStepAt_39 rfl rfl (by omega) (fun c39 => ?_) (fun c39 => ?_)
          · refine go_iload (pc' := 65) h ⟨dP_firstStepAt_63, rfl⟩ rfl ?_
            refine go_istore_n (L' := [.ref p, .int (iI (a)), .int (iI (b + (1000 * (S.1 (p + 10) j)))), .int (iI (j)), .int (iI (b + (1000 * (S.1 (p + 10) j))))]) (pc' := 66) h ⟨dP_firstStepAt_65, rfl⟩ (by decide) rfl rfl ?_
            refine gi_iinc (L' := [.ref p, .int (iI (a)), .int (iI (b + (1000 * (S.1 (p + 10) j)))), .int (iI (j + 1)), .int (iI (b + (1000 * (S.1 (p + 10) j))))]) (pc' := 69) h ⟨dP_firstStepAt_66, rfl⟩ rfl (by decide) rfl rfl ?_
            refine gi_goto (tgt := 4) h dP_firstStepAt_69 rfl ?_
            refine Go.cut [.ref p, .int (iI a), .int (iI (b + 1000 * S.1 (p + 10) j)), .int (iI (j + 1))] 4 rfl ?_
            exact ih (j + 1) _ (by omega) (by omega) (by omega) (by omega) (by rw [g8, fsF, if_pos (by omega), if_neg (by omega)])
          · refine gi_sipush (pc' := 45) h ⟨dP_firstStepAt_42, rfl⟩ rfl ?_
            refine go_iload_n (pc' := 46) h ⟨dP_firstStepAt_45, rfl⟩ rfl ?_
            refine gi_imul (pc' := 47) h ⟨dP_firstStepAt_46, rfl⟩ ?_
            refine go_iload_n (pc' := 48) h ⟨dP_firstStepAt_47, rfl⟩ rfl ?_
            refine go_iload_n (pc' := 49) h ⟨dP_firstStepAt_48, rfl⟩ rfl ?_
            refine gi_isub (pc' := 50) h ⟨dP_firstStepAt_49, rfl⟩ ?_
            refine go_aload_n (pc' := 51) h ⟨dP_firstStepAt_50, rfl⟩ rfl ?_
            refine gs_get (v := .ref (p + 9)) (pc' := 54) h ⟨dP_firstStepAt_51, rfl⟩ fgP_29 hp (by decide) (rfl) ?_
            refine go_iload_n (pc' := 55) h ⟨dP_firstStepAt_54, rfl⟩ rfl ?_
            refine gd_callVI (e := S.1 (p + 10) j) (E := S) (pc' := 58) (As := [.int (iI (j))]) (st := [.int (iI (a - b)), .int (iI (1000 * j))]) h hF ⟨dP_firstStepAt_55, rfl⟩ kvP_58 (cR_ati X (n := 100) k9 l10 (by omega)) (by omega) k9 (by decide) ⟨_, _, rfl⟩ rfl (Nat.le_of_ble_eq_true rfl) rfl ?_
            refine gd_callSNI (e := dvU (a - b) (S.1 (p + 10) j)) (E := S) (pc' := 61) (As := [.int (iI (a - b)), .int (iI (S.1 (p + 10) j))]) (st := [.int (iI (1000 * j))]) h hF ⟨dP_firstStepAt_58, rfl⟩ kvP_65 (cX_divideUp X (by omega) (by omega)) (by omega) rfl (Nat.le_of_ble_eq_true rfl) rfl ?_
            refine gi_iadd (pc' := 62) h ⟨dP_firstStepAt_61, rfl⟩ ?_
            exact gs_iret h hE dP_firstStepAt_62 (⟨by rw [g8, fsF, if_pos (by omega), if_pos (by omega)], rfl⟩)
  refine gi_iconst (pc' := 1) h ⟨dP_firstStepAt_0, rfl⟩ ?_
  refine go_istore_n (L' := [.ref p, .int (iI (a)), .int (iI (0))]) (pc' := 2) h ⟨dP_firstStepAt_1, rfl⟩ (by decide) rfl rfl ?_
  refine gi_iconst (pc' := 3) h ⟨dP_firstStepAt_2, rfl⟩ ?_
  refine go_istore_n (L' := [.ref p, .int (iI (a)), .int (iI (0)), .int (iI (0))]) (pc' := 4) h ⟨dP_firstStepAt_3, rfl⟩ (by decide) rfl rfl ?_
  exact loop 102 0 0 (by omega) (by omega) (by omega) (by omega) rfl
end
