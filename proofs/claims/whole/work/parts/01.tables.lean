-- ===== PART A: goes FIRST, ahead of the names: the tables' words, and 'selects' of the private methods out of them =====
/-- a private method of a class that the tables say can be made, by its rows of tables_1 -/
def lw_okq (q : MethodName × Nat) : Prop := (q.1.cls ≠ "java/lang/invoke/MethodHandle" ∧ q.1.cls ≠ "java/lang/invoke/VarHandle") ∧ Cond.instantiable q.1.cls q.2 ∈ tables_1 ∧ Cond.privateMethod q.1 ∈ tables_1 ∧ Cond.instanceMethod q.1 ∈ tables_1
theorem lw_p0 : lw_okq (⟨"LadderSurvey$Text", "nextToken", "()V"⟩, 7) := ⟨⟨by decide +kernel, by decide +kernel⟩, List.mem_of_getElem? (i := 21) (by decide +kernel), List.mem_of_getElem? (i := 277) (by decide +kernel), List.mem_of_getElem? (i := 278) (by decide +kernel)⟩
theorem lw_p1 : lw_okq (⟨"LadderSurvey$Text", "readItem", "(LLadderSurvey$Plan;)Z"⟩, 7) := ⟨⟨by decide +kernel, by decide +kernel⟩, List.mem_of_getElem? (i := 21) (by decide +kernel), List.mem_of_getElem? (i := 292) (by decide +kernel), List.mem_of_getElem? (i := 293) (by decide +kernel)⟩
theorem lw_p2 : lw_okq (⟨"LadderSurvey$Text", "readStretch", "(LLadderSurvey$Plan;)Z"⟩, 7) := ⟨⟨by decide +kernel, by decide +kernel⟩, List.mem_of_getElem? (i := 21) (by decide +kernel), List.mem_of_getElem? (i := 297) (by decide +kernel), List.mem_of_getElem? (i := 298) (by decide +kernel)⟩
theorem lw_p3 : lw_okq (⟨"LadderSurvey$Text", "readNumber", "(II)Z"⟩, 7) := ⟨⟨by decide +kernel, by decide +kernel⟩, List.mem_of_getElem? (i := 21) (by decide +kernel), List.mem_of_getElem? (i := 301) (by decide +kernel), List.mem_of_getElem? (i := 302) (by decide +kernel)⟩
theorem lw_p4 : lw_okq (⟨"LadderSurvey$Text", "readItemEnd", "()Z"⟩, 7) := ⟨⟨by decide +kernel, by decide +kernel⟩, List.mem_of_getElem? (i := 21) (by decide +kernel), List.mem_of_getElem? (i := 312) (by decide +kernel), List.mem_of_getElem? (i := 313) (by decide +kernel)⟩
theorem lw_p5 : lw_okq (⟨"LadderSurvey$Text", "readTraveller", "(LLadderSurvey$Plan;)Z"⟩, 7) := ⟨⟨by decide +kernel, by decide +kernel⟩, List.mem_of_getElem? (i := 21) (by decide +kernel), List.mem_of_getElem? (i := 316) (by decide +kernel), List.mem_of_getElem? (i := 317) (by decide +kernel)⟩
theorem lw_p6 : lw_okq (⟨"LadderSurvey$Text", "readReach", "(LLadderSurvey$Plan;)Z"⟩, 7) := ⟨⟨by decide +kernel, by decide +kernel⟩, List.mem_of_getElem? (i := 21) (by decide +kernel), List.mem_of_getElem? (i := 321) (by decide +kernel), List.mem_of_getElem? (i := 322) (by decide +kernel)⟩
theorem lw_p7 : lw_okq (⟨"LadderSurvey$Text", "readBoys", "(LLadderSurvey$Plan;)Z"⟩, 7) := ⟨⟨by decide +kernel, by decide +kernel⟩, List.mem_of_getElem? (i := 21) (by decide +kernel), List.mem_of_getElem? (i := 325) (by decide +kernel), List.mem_of_getElem? (i := 326) (by decide +kernel)⟩
theorem lw_p8 : lw_okq (⟨"LadderSurvey$Deeds", "drop", "(I)V"⟩, 3) := ⟨⟨by decide +kernel, by decide +kernel⟩, List.mem_of_getElem? (i := 142) (by decide +kernel), List.mem_of_getElem? (i := 447) (by decide +kernel), List.mem_of_getElem? (i := 448) (by decide +kernel)⟩
theorem lw_p9 : lw_okq (⟨"LadderSurvey$Seen", "dropUnlikeSeen", "(I)V"⟩, 3) := ⟨⟨by decide +kernel, by decide +kernel⟩, List.mem_of_getElem? (i := 160) (by decide +kernel), List.mem_of_getElem? (i := 537) (by decide +kernel), List.mem_of_getElem? (i := 538) (by decide +kernel)⟩
theorem lw_p10 : lw_okq (⟨"LadderSurvey$Seen", "keepOnly", "(I)V"⟩, 3) := ⟨⟨by decide +kernel, by decide +kernel⟩, List.mem_of_getElem? (i := 160) (by decide +kernel), List.mem_of_getElem? (i := 543) (by decide +kernel), List.mem_of_getElem? (i := 544) (by decide +kernel)⟩
theorem lw_p11 : lw_okq (⟨"LadderSurvey$Seen", "addGoings", "(II)V"⟩, 3) := ⟨⟨by decide +kernel, by decide +kernel⟩, List.mem_of_getElem? (i := 160) (by decide +kernel), List.mem_of_getElem? (i := 547) (by decide +kernel), List.mem_of_getElem? (i := 548) (by decide +kernel)⟩
theorem lw_p12 : lw_okq (⟨"LadderSurvey$Measures", "gapOf", "(I)I"⟩, 4) := ⟨⟨by decide +kernel, by decide +kernel⟩, List.mem_of_getElem? (i := 179) (by decide +kernel), List.mem_of_getElem? (i := 591) (by decide +kernel), List.mem_of_getElem? (i := 592) (by decide +kernel)⟩
theorem lw_p13 : lw_okq (⟨"LadderSurvey", "rateStretch", "(I)I"⟩, 11) := ⟨⟨by decide +kernel, by decide +kernel⟩, List.mem_of_getElem? (i := 13) (by decide +kernel), List.mem_of_getElem? (i := 637) (by decide +kernel), List.mem_of_getElem? (i := 638) (by decide +kernel)⟩
theorem lw_p14 : lw_okq (⟨"LadderSurvey", "rateFeather", "(I)I"⟩, 11) := ⟨⟨by decide +kernel, by decide +kernel⟩, List.mem_of_getElem? (i := 13) (by decide +kernel), List.mem_of_getElem? (i := 641) (by decide +kernel), List.mem_of_getElem? (i := 642) (by decide +kernel)⟩
theorem lw_p15 : lw_okq (⟨"LadderSurvey", "rateBench", "(I)I"⟩, 11) := ⟨⟨by decide +kernel, by decide +kernel⟩, List.mem_of_getElem? (i := 13) (by decide +kernel), List.mem_of_getElem? (i := 650) (by decide +kernel), List.mem_of_getElem? (i := 651) (by decide +kernel)⟩
def lw_privs_1 : List (MethodName × Nat) := [(⟨"LadderSurvey$Text", "nextToken", "()V"⟩, 7), (⟨"LadderSurvey$Text", "readItem", "(LLadderSurvey$Plan;)Z"⟩, 7), (⟨"LadderSurvey$Text", "readStretch", "(LLadderSurvey$Plan;)Z"⟩, 7), (⟨"LadderSurvey$Text", "readNumber", "(II)Z"⟩, 7), (⟨"LadderSurvey$Text", "readItemEnd", "()Z"⟩, 7), (⟨"LadderSurvey$Text", "readTraveller", "(LLadderSurvey$Plan;)Z"⟩, 7), (⟨"LadderSurvey$Text", "readReach", "(LLadderSurvey$Plan;)Z"⟩, 7), (⟨"LadderSurvey$Text", "readBoys", "(LLadderSurvey$Plan;)Z"⟩, 7), (⟨"LadderSurvey$Deeds", "drop", "(I)V"⟩, 3), (⟨"LadderSurvey$Seen", "dropUnlikeSeen", "(I)V"⟩, 3), (⟨"LadderSurvey$Seen", "keepOnly", "(I)V"⟩, 3), (⟨"LadderSurvey$Seen", "addGoings", "(II)V"⟩, 3), (⟨"LadderSurvey$Measures", "gapOf", "(I)I"⟩, 4), (⟨"LadderSurvey", "rateStretch", "(I)I"⟩, 11), (⟨"LadderSurvey", "rateFeather", "(I)I"⟩, 11), (⟨"LadderSurvey", "rateBench", "(I)I"⟩, 11)]
theorem lw_r1 : ∀ q ∈ lw_privs_1, lw_okq q := List.forall_mem_cons.mpr ⟨lw_p0, List.forall_mem_cons.mpr ⟨lw_p1, List.forall_mem_cons.mpr ⟨lw_p2, List.forall_mem_cons.mpr ⟨lw_p3, List.forall_mem_cons.mpr ⟨lw_p4, List.forall_mem_cons.mpr ⟨lw_p5, List.forall_mem_cons.mpr ⟨lw_p6, List.forall_mem_cons.mpr ⟨lw_p7, List.forall_mem_cons.mpr ⟨lw_p8, List.forall_mem_cons.mpr ⟨lw_p9, List.forall_mem_cons.mpr ⟨lw_p10, List.forall_mem_cons.mpr ⟨lw_p11, List.forall_mem_cons.mpr ⟨lw_p12, List.forall_mem_cons.mpr ⟨lw_p13, List.forall_mem_cons.mpr ⟨lw_p14, List.forall_mem_cons.mpr ⟨lw_p15, fun _ h => absurd h List.not_mem_nil⟩⟩⟩⟩⟩⟩⟩⟩⟩⟩⟩⟩⟩⟩⟩⟩
theorem lw_p16 : lw_okq (⟨"LadderSurvey", "rateWing", "(I)I"⟩, 11) := ⟨⟨by decide +kernel, by decide +kernel⟩, List.mem_of_getElem? (i := 13) (by decide +kernel), List.mem_of_getElem? (i := 655) (by decide +kernel), List.mem_of_getElem? (i := 656) (by decide +kernel)⟩
theorem lw_p17 : lw_okq (⟨"LadderSurvey", "rateName", "(I)I"⟩, 11) := ⟨⟨by decide +kernel, by decide +kernel⟩, List.mem_of_getElem? (i := 13) (by decide +kernel), List.mem_of_getElem? (i := 660) (by decide +kernel), List.mem_of_getElem? (i := 661) (by decide +kernel)⟩
theorem lw_p18 : lw_okq (⟨"LadderSurvey", "rateCloud", "(I)I"⟩, 11) := ⟨⟨by decide +kernel, by decide +kernel⟩, List.mem_of_getElem? (i := 13) (by decide +kernel), List.mem_of_getElem? (i := 665) (by decide +kernel), List.mem_of_getElem? (i := 666) (by decide +kernel)⟩
theorem lw_p19 : lw_okq (⟨"LadderSurvey", "imageOf", "(I)LLadderSurvey$Scene;"⟩, 11) := ⟨⟨by decide +kernel, by decide +kernel⟩, List.mem_of_getElem? (i := 13) (by decide +kernel), List.mem_of_getElem? (i := 674) (by decide +kernel), List.mem_of_getElem? (i := 675) (by decide +kernel)⟩
theorem lw_p20 : lw_okq (⟨"LadderSurveyModel", "begins", "()V"⟩, 29) := ⟨⟨by decide +kernel, by decide +kernel⟩, List.mem_of_getElem? (i := 699) (by decide +kernel), List.mem_of_getElem? (i := 705) (by decide +kernel), List.mem_of_getElem? (i := 706) (by decide +kernel)⟩
theorem lw_p21 : lw_okq (⟨"LadderSurveyModel", "settles", "()V"⟩, 29) := ⟨⟨by decide +kernel, by decide +kernel⟩, List.mem_of_getElem? (i := 699) (by decide +kernel), List.mem_of_getElem? (i := 709) (by decide +kernel), List.mem_of_getElem? (i := 710) (by decide +kernel)⟩
theorem lw_p22 : lw_okq (⟨"LadderSurveyModel", "advances", "()V"⟩, 29) := ⟨⟨by decide +kernel, by decide +kernel⟩, List.mem_of_getElem? (i := 699) (by decide +kernel), List.mem_of_getElem? (i := 817) (by decide +kernel), List.mem_of_getElem? (i := 818) (by decide +kernel)⟩
theorem lw_p23 : lw_okq (⟨"LadderSurveyModel", "letterAt", "(I)I"⟩, 29) := ⟨⟨by decide +kernel, by decide +kernel⟩, List.mem_of_getElem? (i := 699) (by decide +kernel), List.mem_of_getElem? (i := 821) (by decide +kernel), List.mem_of_getElem? (i := 822) (by decide +kernel)⟩
theorem lw_p24 : lw_okq (⟨"LadderSurveyModel", "isWell", "()Z"⟩, 29) := ⟨⟨by decide +kernel, by decide +kernel⟩, List.mem_of_getElem? (i := 699) (by decide +kernel), List.mem_of_getElem? (i := 828) (by decide +kernel), List.mem_of_getElem? (i := 829) (by decide +kernel)⟩
theorem lw_p25 : lw_okq (⟨"LadderSurveyModel", "mayBegin", "()Z"⟩, 29) := ⟨⟨by decide +kernel, by decide +kernel⟩, List.mem_of_getElem? (i := 699) (by decide +kernel), List.mem_of_getElem? (i := 832) (by decide +kernel), List.mem_of_getElem? (i := 833) (by decide +kernel)⟩
theorem lw_p26 : lw_okq (⟨"LadderSurveyModel", "takes", "(Z)I"⟩, 29) := ⟨⟨by decide +kernel, by decide +kernel⟩, List.mem_of_getElem? (i := 699) (by decide +kernel), List.mem_of_getElem? (i := 836) (by decide +kernel), List.mem_of_getElem? (i := 837) (by decide +kernel)⟩
theorem lw_p27 : lw_okq (⟨"LadderSurveyModel", "readsItem", "(I)V"⟩, 29) := ⟨⟨by decide +kernel, by decide +kernel⟩, List.mem_of_getElem? (i := 699) (by decide +kernel), List.mem_of_getElem? (i := 840) (by decide +kernel), List.mem_of_getElem? (i := 841) (by decide +kernel)⟩
theorem lw_p28 : lw_okq (⟨"LadderSurveyModel", "number", "(II)I"⟩, 29) := ⟨⟨by decide +kernel, by decide +kernel⟩, List.mem_of_getElem? (i := 699) (by decide +kernel), List.mem_of_getElem? (i := 844) (by decide +kernel), List.mem_of_getElem? (i := 845) (by decide +kernel)⟩
theorem lw_p29 : lw_okq (⟨"LadderSurveyModel", "isStretch", "(I)Z"⟩, 29) := ⟨⟨by decide +kernel, by decide +kernel⟩, List.mem_of_getElem? (i := 699) (by decide +kernel), List.mem_of_getElem? (i := 852) (by decide +kernel), List.mem_of_getElem? (i := 853) (by decide +kernel)⟩
theorem lw_p30 : lw_okq (⟨"LadderSurveyModel", "markOf", "(I)I"⟩, 29) := ⟨⟨by decide +kernel, by decide +kernel⟩, List.mem_of_getElem? (i := 699) (by decide +kernel), List.mem_of_getElem? (i := 857) (by decide +kernel), List.mem_of_getElem? (i := 858) (by decide +kernel)⟩
theorem lw_p31 : lw_okq (⟨"LadderSurveyModel", "isTraveller", "(I)Z"⟩, 29) := ⟨⟨by decide +kernel, by decide +kernel⟩, List.mem_of_getElem? (i := 699) (by decide +kernel), List.mem_of_getElem? (i := 865) (by decide +kernel), List.mem_of_getElem? (i := 866) (by decide +kernel)⟩
def lw_privs_2 : List (MethodName × Nat) := [(⟨"LadderSurvey", "rateWing", "(I)I"⟩, 11), (⟨"LadderSurvey", "rateName", "(I)I"⟩, 11), (⟨"LadderSurvey", "rateCloud", "(I)I"⟩, 11), (⟨"LadderSurvey", "imageOf", "(I)LLadderSurvey$Scene;"⟩, 11), (⟨"LadderSurveyModel", "begins", "()V"⟩, 29), (⟨"LadderSurveyModel", "settles", "()V"⟩, 29), (⟨"LadderSurveyModel", "advances", "()V"⟩, 29), (⟨"LadderSurveyModel", "letterAt", "(I)I"⟩, 29), (⟨"LadderSurveyModel", "isWell", "()Z"⟩, 29), (⟨"LadderSurveyModel", "mayBegin", "()Z"⟩, 29), (⟨"LadderSurveyModel", "takes", "(Z)I"⟩, 29), (⟨"LadderSurveyModel", "readsItem", "(I)V"⟩, 29), (⟨"LadderSurveyModel", "number", "(II)I"⟩, 29), (⟨"LadderSurveyModel", "isStretch", "(I)Z"⟩, 29), (⟨"LadderSurveyModel", "markOf", "(I)I"⟩, 29), (⟨"LadderSurveyModel", "isTraveller", "(I)Z"⟩, 29)]
theorem lw_r2 : ∀ q ∈ lw_privs_2, lw_okq q := List.forall_mem_cons.mpr ⟨lw_p16, List.forall_mem_cons.mpr ⟨lw_p17, List.forall_mem_cons.mpr ⟨lw_p18, List.forall_mem_cons.mpr ⟨lw_p19, List.forall_mem_cons.mpr ⟨lw_p20, List.forall_mem_cons.mpr ⟨lw_p21, List.forall_mem_cons.mpr ⟨lw_p22, List.forall_mem_cons.mpr ⟨lw_p23, List.forall_mem_cons.mpr ⟨lw_p24, List.forall_mem_cons.mpr ⟨lw_p25, List.forall_mem_cons.mpr ⟨lw_p26, List.forall_mem_cons.mpr ⟨lw_p27, List.forall_mem_cons.mpr ⟨lw_p28, List.forall_mem_cons.mpr ⟨lw_p29, List.forall_mem_cons.mpr ⟨lw_p30, List.forall_mem_cons.mpr ⟨lw_p31, fun _ h => absurd h List.not_mem_nil⟩⟩⟩⟩⟩⟩⟩⟩⟩⟩⟩⟩⟩⟩⟩⟩
theorem lw_p32 : lw_okq (⟨"LadderSurveyModel", "top", "()I"⟩, 29) := ⟨⟨by decide +kernel, by decide +kernel⟩, List.mem_of_getElem? (i := 699) (by decide +kernel), List.mem_of_getElem? (i := 873) (by decide +kernel), List.mem_of_getElem? (i := 874) (by decide +kernel)⟩
theorem lw_p33 : lw_okq (⟨"LadderSurveyModel", "allWear", "()I"⟩, 29) := ⟨⟨by decide +kernel, by decide +kernel⟩, List.mem_of_getElem? (i := 699) (by decide +kernel), List.mem_of_getElem? (i := 888) (by decide +kernel), List.mem_of_getElem? (i := 889) (by decide +kernel)⟩
theorem lw_p34 : lw_okq (⟨"LadderSurveyModel", "steepest", "()I"⟩, 29) := ⟨⟨by decide +kernel, by decide +kernel⟩, List.mem_of_getElem? (i := 699) (by decide +kernel), List.mem_of_getElem? (i := 892) (by decide +kernel), List.mem_of_getElem? (i := 893) (by decide +kernel)⟩
theorem lw_p35 : lw_okq (⟨"LadderSurveyModel", "heightAt", "(I)I"⟩, 29) := ⟨⟨by decide +kernel, by decide +kernel⟩, List.mem_of_getElem? (i := 699) (by decide +kernel), List.mem_of_getElem? (i := 896) (by decide +kernel), List.mem_of_getElem? (i := 897) (by decide +kernel)⟩
theorem lw_p36 : lw_okq (⟨"LadderSurveyModel", "daysBy", "(I)I"⟩, 29) := ⟨⟨by decide +kernel, by decide +kernel⟩, List.mem_of_getElem? (i := 699) (by decide +kernel), List.mem_of_getElem? (i := 900) (by decide +kernel), List.mem_of_getElem? (i := 901) (by decide +kernel)⟩
theorem lw_p37 : lw_okq (⟨"LadderSurveyModel", "isStaying", "(I)Z"⟩, 29) := ⟨⟨by decide +kernel, by decide +kernel⟩, List.mem_of_getElem? (i := 699) (by decide +kernel), List.mem_of_getElem? (i := 908) (by decide +kernel), List.mem_of_getElem? (i := 909) (by decide +kernel)⟩
theorem lw_p38 : lw_okq (⟨"LadderSurveyModel", "notes", "()V"⟩, 29) := ⟨⟨by decide +kernel, by decide +kernel⟩, List.mem_of_getElem? (i := 699) (by decide +kernel), List.mem_of_getElem? (i := 912) (by decide +kernel), List.mem_of_getElem? (i := 913) (by decide +kernel)⟩
theorem lw_p39 : lw_okq (⟨"LadderSurveyModel", "oldestAt", "(I)I"⟩, 29) := ⟨⟨by decide +kernel, by decide +kernel⟩, List.mem_of_getElem? (i := 699) (by decide +kernel), List.mem_of_getElem? (i := 928) (by decide +kernel), List.mem_of_getElem? (i := 929) (by decide +kernel)⟩
theorem lw_p40 : lw_okq (⟨"LadderSurveyModel", "altitudeOf", "(I)I"⟩, 29) := ⟨⟨by decide +kernel, by decide +kernel⟩, List.mem_of_getElem? (i := 699) (by decide +kernel), List.mem_of_getElem? (i := 940) (by decide +kernel), List.mem_of_getElem? (i := 941) (by decide +kernel)⟩
theorem lw_p41 : lw_okq (⟨"LadderSurveyModel", "isAsSeen", "(I)Z"⟩, 29) := ⟨⟨by decide +kernel, by decide +kernel⟩, List.mem_of_getElem? (i := 699) (by decide +kernel), List.mem_of_getElem? (i := 964) (by decide +kernel), List.mem_of_getElem? (i := 965) (by decide +kernel)⟩
theorem lw_p42 : lw_okq (⟨"LadderSurveyModel", "leastChanges", "()I"⟩, 29) := ⟨⟨by decide +kernel, by decide +kernel⟩, List.mem_of_getElem? (i := 699) (by decide +kernel), List.mem_of_getElem? (i := 980) (by decide +kernel), List.mem_of_getElem? (i := 981) (by decide +kernel)⟩
theorem lw_p43 : lw_okq (⟨"LadderSurveyModel", "hangs", "(I)Z"⟩, 29) := ⟨⟨by decide +kernel, by decide +kernel⟩, List.mem_of_getElem? (i := 699) (by decide +kernel), List.mem_of_getElem? (i := 985) (by decide +kernel), List.mem_of_getElem? (i := 986) (by decide +kernel)⟩
theorem lw_p44 : lw_okq (⟨"LadderSurveyModel", "canOwn", "(I)Z"⟩, 29) := ⟨⟨by decide +kernel, by decide +kernel⟩, List.mem_of_getElem? (i := 699) (by decide +kernel), List.mem_of_getElem? (i := 1000) (by decide +kernel), List.mem_of_getElem? (i := 1001) (by decide +kernel)⟩
theorem lw_p45 : lw_okq (⟨"LadderSurveyModel", "thingsOn", "(I)I"⟩, 29) := ⟨⟨by decide +kernel, by decide +kernel⟩, List.mem_of_getElem? (i := 699) (by decide +kernel), List.mem_of_getElem? (i := 1021) (by decide +kernel), List.mem_of_getElem? (i := 1022) (by decide +kernel)⟩
def lw_privs_3 : List (MethodName × Nat) := [(⟨"LadderSurveyModel", "top", "()I"⟩, 29), (⟨"LadderSurveyModel", "allWear", "()I"⟩, 29), (⟨"LadderSurveyModel", "steepest", "()I"⟩, 29), (⟨"LadderSurveyModel", "heightAt", "(I)I"⟩, 29), (⟨"LadderSurveyModel", "daysBy", "(I)I"⟩, 29), (⟨"LadderSurveyModel", "isStaying", "(I)Z"⟩, 29), (⟨"LadderSurveyModel", "notes", "()V"⟩, 29), (⟨"LadderSurveyModel", "oldestAt", "(I)I"⟩, 29), (⟨"LadderSurveyModel", "altitudeOf", "(I)I"⟩, 29), (⟨"LadderSurveyModel", "isAsSeen", "(I)Z"⟩, 29), (⟨"LadderSurveyModel", "leastChanges", "()I"⟩, 29), (⟨"LadderSurveyModel", "hangs", "(I)Z"⟩, 29), (⟨"LadderSurveyModel", "canOwn", "(I)Z"⟩, 29), (⟨"LadderSurveyModel", "thingsOn", "(I)I"⟩, 29)]
theorem lw_r3 : ∀ q ∈ lw_privs_3, lw_okq q := List.forall_mem_cons.mpr ⟨lw_p32, List.forall_mem_cons.mpr ⟨lw_p33, List.forall_mem_cons.mpr ⟨lw_p34, List.forall_mem_cons.mpr ⟨lw_p35, List.forall_mem_cons.mpr ⟨lw_p36, List.forall_mem_cons.mpr ⟨lw_p37, List.forall_mem_cons.mpr ⟨lw_p38, List.forall_mem_cons.mpr ⟨lw_p39, List.forall_mem_cons.mpr ⟨lw_p40, List.forall_mem_cons.mpr ⟨lw_p41, List.forall_mem_cons.mpr ⟨lw_p42, List.forall_mem_cons.mpr ⟨lw_p43, List.forall_mem_cons.mpr ⟨lw_p44, List.forall_mem_cons.mpr ⟨lw_p45, fun _ h => absurd h List.not_mem_nil⟩⟩⟩⟩⟩⟩⟩⟩⟩⟩⟩⟩⟩⟩
def lw_privs : List (MethodName × Nat) := lw_privs_1 ++ (lw_privs_2 ++ (lw_privs_3))
def lw_tbl : List Cond := k2_sels lw_privs ++ tables_1
theorem lw_privs_ok : ∀ q ∈ lw_privs, lw_okq q := by
  show ∀ q ∈ lw_privs_1 ++ (lw_privs_2 ++ (lw_privs_3)), lw_okq q
  exact List.forall_mem_append.mpr ⟨lw_r1, List.forall_mem_append.mpr ⟨lw_r2, lw_r3⟩⟩
/-! the classes, their fields -/
def cN0 : String := "LadderSurvey$Deeds"
def fT0 : u_T := fun k => match k with
  | 0 => ("LadderSurvey$Deeds", "kinds", "LLadderSurvey$Row;", true)
  | 1 => ("LadderSurvey$Deeds", "travellers", "LLadderSurvey$Row;", true)
  | _ => ("LadderSurvey$Deeds", "details", "LLadderSurvey$Row;", true)
def fY0 : Nat → FieldType := fun k => match k with
  | 0 => .object "LadderSurvey$Row"
  | 1 => .object "LadderSurvey$Row"
  | _ => .object "LadderSurvey$Row"
theorem fN0 : ∀ a, a < 3 → ∀ b, b < 3 → a ≠ b → (fT0 a).2.1 ≠ (fT0 b).2.1 := by decide +kernel
theorem fO0 : ∀ k, k < 3 → parseFieldDescriptor (fT0 k).2.2.1 = some (fY0 k) := by decide +kernel
def cN1 : String := "LadderSurvey$Measures"
def fT1 : u_T := fun k => match k with
  | 0 => ("LadderSurvey$Measures", "froms", "LLadderSurvey$Row;", true)
  | 1 => ("LadderSurvey$Measures", "tos", "LLadderSurvey$Row;", true)
  | 2 => ("LadderSurvey$Measures", "heights", "LLadderSurvey$Row;", true)
  | _ => ("LadderSurvey$Measures", "balance", "LLadderSurvey$Row;", true)
def fY1 : Nat → FieldType := fun k => match k with
  | 0 => .object "LadderSurvey$Row"
  | 1 => .object "LadderSurvey$Row"
  | 2 => .object "LadderSurvey$Row"
  | _ => .object "LadderSurvey$Row"
theorem fN1 : ∀ a, a < 4 → ∀ b, b < 4 → a ≠ b → (fT1 a).2.1 ≠ (fT1 b).2.1 := by decide +kernel
theorem fO1 : ∀ k, k < 4 → parseFieldDescriptor (fT1 k).2.2.1 = some (fY1 k) := by decide +kernel
def cN2 : String := "LadderSurvey$Plan"
def fT2 : u_T := fun k => match k with
  | 0 => ("LadderSurvey$Plan", "longs", "LLadderSurvey$Row;", true)
  | 1 => ("LadderSurvey$Plan", "rises", "LLadderSurvey$Row;", true)
  | 2 => ("LadderSurvey$Plan", "bends", "LLadderSurvey$Row;", true)
  | 3 => ("LadderSurvey$Plan", "uppers", "LLadderSurvey$Row;", true)
  | 4 => ("LadderSurvey$Plan", "heights", "LLadderSurvey$Row;", true)
  | 5 => ("LadderSurvey$Plan", "breaths", "LLadderSurvey$Row;", true)
  | 6 => ("LadderSurvey$Plan", "reach", "I", false)
  | _ => ("LadderSurvey$Plan", "boys", "I", false)
def fY2 : Nat → FieldType := fun k => match k with
  | 0 => .object "LadderSurvey$Row"
  | 1 => .object "LadderSurvey$Row"
  | 2 => .object "LadderSurvey$Row"
  | 3 => .object "LadderSurvey$Row"
  | 4 => .object "LadderSurvey$Row"
  | 5 => .object "LadderSurvey$Row"
  | 6 => .int
  | _ => .int
theorem fN2 : ∀ a, a < 8 → ∀ b, b < 8 → a ≠ b → (fT2 a).2.1 ≠ (fT2 b).2.1 := by decide +kernel
theorem fO2 : ∀ k, k < 8 → parseFieldDescriptor (fT2 k).2.2.1 = some (fY2 k) := by decide +kernel
def cN3 : String := "LadderSurvey$Row"
def fT3 : u_T := fun k => match k with
  | 0 => ("LadderSurvey$Row", "cells", "[I", true)
  | _ => ("LadderSurvey$Row", "size", "I", false)
def fY3 : Nat → FieldType := fun k => match k with
  | 0 => .array .int
  | _ => .int
theorem fN3 : ∀ a, a < 2 → ∀ b, b < 2 → a ≠ b → (fT3 a).2.1 ≠ (fT3 b).2.1 := by decide +kernel
theorem fO3 : ∀ k, k < 2 → parseFieldDescriptor (fT3 k).2.2.1 = some (fY3 k) := by decide +kernel
def cN4 : String := "LadderSurvey$Scene"
def fT4 : u_T := fun k => match k with
  | 0 => ("LadderSurvey$Scene", "places", "LLadderSurvey$Row;", true)
  | 1 => ("LadderSurvey$Scene", "stayed", "LLadderSurvey$Row;", true)
  | 2 => ("LadderSurvey$Scene", "left", "LLadderSurvey$Row;", true)
  | 3 => ("LadderSurvey$Scene", "right", "LLadderSurvey$Row;", true)
  | _ => ("LadderSurvey$Scene", "things", "LLadderSurvey$Row;", true)
def fY4 : Nat → FieldType := fun k => match k with
  | 0 => .object "LadderSurvey$Row"
  | 1 => .object "LadderSurvey$Row"
  | 2 => .object "LadderSurvey$Row"
  | 3 => .object "LadderSurvey$Row"
  | _ => .object "LadderSurvey$Row"
theorem fN4 : ∀ a, a < 5 → ∀ b, b < 5 → a ≠ b → (fT4 a).2.1 ≠ (fT4 b).2.1 := by decide +kernel
theorem fO4 : ∀ k, k < 5 → parseFieldDescriptor (fT4 k).2.2.1 = some (fY4 k) := by decide +kernel
def cN5 : String := "LadderSurvey$Seen"
def fT5 : u_T := fun k => match k with
  | 0 => ("LadderSurvey$Seen", "climbers", "LLadderSurvey$Row;", true)
  | 1 => ("LadderSurvey$Seen", "wears", "LLadderSurvey$Row;", true)
  | _ => ("LadderSurvey$Seen", "ways", "LLadderSurvey$Row;", true)
def fY5 : Nat → FieldType := fun k => match k with
  | 0 => .object "LadderSurvey$Row"
  | 1 => .object "LadderSurvey$Row"
  | _ => .object "LadderSurvey$Row"
theorem fN5 : ∀ a, a < 3 → ∀ b, b < 3 → a ≠ b → (fT5 a).2.1 ≠ (fT5 b).2.1 := by decide +kernel
theorem fO5 : ∀ k, k < 3 → parseFieldDescriptor (fT5 k).2.2.1 = some (fY5 k) := by decide +kernel
def cN6 : String := "LadderSurvey$Text"
def fT6 : u_T := fun k => match k with
  | 0 => ("LadderSurvey$Text", "letters", "LLadderSurvey$Row;", true)
  | 1 => ("LadderSurvey$Text", "place", "I", false)
  | 2 => ("LadderSurvey$Text", "token", "I", false)
  | 3 => ("LadderSurvey$Text", "tokenPlace", "I", false)
  | 4 => ("LadderSurvey$Text", "number", "I", false)
  | 5 => ("LadderSurvey$Text", "reachTold", "Z", false)
  | _ => ("LadderSurvey$Text", "boysTold", "Z", false)
def fY6 : Nat → FieldType := fun k => match k with
  | 0 => .object "LadderSurvey$Row"
  | 1 => .int
  | 2 => .int
  | 3 => .int
  | 4 => .int
  | 5 => .boolean
  | _ => .boolean
theorem fN6 : ∀ a, a < 7 → ∀ b, b < 7 → a ≠ b → (fT6 a).2.1 ≠ (fT6 b).2.1 := by decide +kernel
theorem fO6 : ∀ k, k < 7 → parseFieldDescriptor (fT6 k).2.2.1 = some (fY6 k) := by decide +kernel
def cN7 : String := "LadderSurvey"
def fT7 : u_T := fun k => match k with
  | 0 => ("LadderSurvey", "text", "LLadderSurvey$Text;", true)
  | 1 => ("LadderSurvey", "plan", "LLadderSurvey$Plan;", false)
  | 2 => ("LadderSurvey", "draft", "LLadderSurvey$Plan;", false)
  | 3 => ("LadderSurvey", "scene", "LLadderSurvey$Scene;", true)
  | 4 => ("LadderSurvey", "firstImage", "LLadderSurvey$Scene;", true)
  | 5 => ("LadderSurvey", "secondImage", "LLadderSurvey$Scene;", true)
  | 6 => ("LadderSurvey", "kept", "LLadderSurvey$Row;", true)
  | 7 => ("LadderSurvey", "deeds", "LLadderSurvey$Deeds;", true)
  | 8 => ("LadderSurvey", "seen", "LLadderSurvey$Seen;", true)
  | 9 => ("LadderSurvey", "measured", "LLadderSurvey$Measures;", true)
  | _ => ("LadderSurvey", "trace", "J", false)
def fY7 : Nat → FieldType := fun k => match k with
  | 0 => .object "LadderSurvey$Text"
  | 1 => .object "LadderSurvey$Plan"
  | 2 => .object "LadderSurvey$Plan"
  | 3 => .object "LadderSurvey$Scene"
  | 4 => .object "LadderSurvey$Scene"
  | 5 => .object "LadderSurvey$Scene"
  | 6 => .object "LadderSurvey$Row"
  | 7 => .object "LadderSurvey$Deeds"
  | 8 => .object "LadderSurvey$Seen"
  | 9 => .object "LadderSurvey$Measures"
  | _ => .long
theorem fN7 : ∀ a, a < 11 → ∀ b, b < 11 → a ≠ b → (fT7 a).2.1 ≠ (fT7 b).2.1 := by decide +kernel
theorem fO7 : ∀ k, k < 11 → parseFieldDescriptor (fT7 k).2.2.1 = some (fY7 k) := by decide +kernel
def cN8 : String := "LadderSurveyModel"
def fT8 : u_T := fun k => match k with
  | 0 => ("LadderSurveyModel", "thrown", "I", false)
  | 1 => ("LadderSurveyModel", "trace", "J", false)
  | 2 => ("LadderSurveyModel", "text", "[I", true)
  | 3 => ("LadderSurveyModel", "typed", "I", false)
  | 4 => ("LadderSurveyModel", "next", "I", false)
  | 5 => ("LadderSurveyModel", "token", "I", false)
  | 6 => ("LadderSurveyModel", "place", "I", false)
  | 7 => ("LadderSurveyModel", "value", "I", false)
  | 8 => ("LadderSurveyModel", "fault", "I", false)
  | 9 => ("LadderSurveyModel", "many", "[I", true)
  | 10 => ("LadderSurveyModel", "told", "I", false)
  | 11 => ("LadderSurveyModel", "lengths", "[I", true)
  | 12 => ("LadderSurveyModel", "rises", "[I", true)
  | 13 => ("LadderSurveyModel", "bends", "[I", true)
  | 14 => ("LadderSurveyModel", "breath", "[I", true)
  | 15 => ("LadderSurveyModel", "s", "[I", true)
  | 16 => ("LadderSurveyModel", "kept", "[I", true)
  | 17 => ("LadderSurveyModel", "isKept", "[Z", true)
  | 18 => ("LadderSurveyModel", "undos", "[I", true)
  | 19 => ("LadderSurveyModel", "undoMany", "I", false)
  | 20 => ("LadderSurveyModel", "seenMark", "[I", true)
  | 21 => ("LadderSurveyModel", "seenWear", "[I", true)
  | 22 => ("LadderSurveyModel", "seenMany", "I", false)
  | 23 => ("LadderSurveyModel", "from", "[I", true)
  | 24 => ("LadderSurveyModel", "to", "[I", true)
  | 25 => ("LadderSurveyModel", "amount", "[I", true)
  | 26 => ("LadderSurveyModel", "measured", "I", false)
  | 27 => ("LadderSurveyModel", "land", "[I", true)
  | _ => ("LadderSurveyModel", "group", "[I", true)
def fY8 : Nat → FieldType := fun k => match k with
  | 0 => .int
  | 1 => .long
  | 2 => .array .int
  | 3 => .int
  | 4 => .int
  | 5 => .int
  | 6 => .int
  | 7 => .int
  | 8 => .int
  | 9 => .array .int
  | 10 => .int
  | 11 => .array .int
  | 12 => .array .int
  | 13 => .array .int
  | 14 => .array .int
  | 15 => .array .int
  | 16 => .array .int
  | 17 => .array .boolean
  | 18 => .array .int
  | 19 => .int
  | 20 => .array .int
  | 21 => .array .int
  | 22 => .int
  | 23 => .array .int
  | 24 => .array .int
  | 25 => .array .int
  | 26 => .int
  | 27 => .array .int
  | _ => .array .int
theorem fN8 : ∀ a, a < 29 → ∀ b, b < 29 → a ≠ b → (fT8 a).2.1 ≠ (fT8 b).2.1 := by decide +kernel
theorem fO8 : ∀ k, k < 29 → parseFieldDescriptor (fT8 k).2.2.1 = some (fY8 k) := by decide +kernel
abbrev cl9 : List vw_C := [(cN0, fT0, 3), (cN1, fT1, 4), (cN2, fT2, 8), (cN3, fT3, 2), (cN4, fT4, 5), (cN5, fT5, 3), (cN6, fT6, 7), (cN7, fT7, 11), (cN8, fT8, 29)]
def isNest : Cond → Bool
  | .methodLinkNest .. => true
  | _ => false
def gw (w : Cond) : Bool := goodWord w || isNest w
def lw_ws : List Cond := lw_tbl.filter gw
theorem mw {w : Cond} (i : Nat) (h : lw_tbl[i]? = some w) (hg : gw w = true) : w ∈ lw_ws := List.mem_filter.mpr ⟨List.mem_of_getElem? h, hg⟩
theorem fI0 : ∀ w ∈ u_ws cN0 fT0 3, w ∈ lw_ws := fun w hw => by
  have g : (u_ws cN0 fT0 3).all gw = true := by decide +kernel
  have g1 := List.all_eq_true.mp g w hw
  have e : u_ws cN0 fT0 3 = ([198, 200, 202] : List Nat).filterMap (fun i => lw_tbl[i]?) := by decide +kernel
  rw [e] at hw
  obtain ⟨i, -, hi⟩ := List.mem_filterMap.mp hw
  exact List.mem_filter.mpr ⟨List.mem_of_getElem? hi, g1⟩
theorem fI1 : ∀ w ∈ u_ws cN1 fT1 4, w ∈ lw_ws := fun w hw => by
  have g : (u_ws cN1 fT1 4).all gw = true := by decide +kernel
  have g1 := List.all_eq_true.mp g w hw
  have e : u_ws cN1 fT1 4 = ([237, 239, 241, 243] : List Nat).filterMap (fun i => lw_tbl[i]?) := by decide +kernel
  rw [e] at hw
  obtain ⟨i, -, hi⟩ := List.mem_filterMap.mp hw
  exact List.mem_filter.mpr ⟨List.mem_of_getElem? hi, g1⟩
theorem fI2 : ∀ w ∈ u_ws cN2 fT2 8, w ∈ lw_ws := fun w hw => by
  have g : (u_ws cN2 fT2 8).all gw = true := by decide +kernel
  have g1 := List.all_eq_true.mp g w hw
  have e : u_ws cN2 fT2 8 = ([138, 140, 142, 144, 146, 148, 150, 152] : List Nat).filterMap (fun i => lw_tbl[i]?) := by decide +kernel
  rw [e] at hw
  obtain ⟨i, -, hi⟩ := List.mem_filterMap.mp hw
  exact List.mem_filter.mpr ⟨List.mem_of_getElem? hi, g1⟩
theorem fI3 : ∀ w ∈ u_ws cN3 fT3 2, w ∈ lw_ws := fun w hw => by
  have g : (u_ws cN3 fT3 2).all gw = true := by decide +kernel
  have g1 := List.all_eq_true.mp g w hw
  have e : u_ws cN3 fT3 2 = ([83, 85] : List Nat).filterMap (fun i => lw_tbl[i]?) := by decide +kernel
  rw [e] at hw
  obtain ⟨i, -, hi⟩ := List.mem_filterMap.mp hw
  exact List.mem_filter.mpr ⟨List.mem_of_getElem? hi, g1⟩
theorem fI4 : ∀ w ∈ u_ws cN4 fT4 5, w ∈ lw_ws := fun w hw => by
  have g : (u_ws cN4 fT4 5).all gw = true := by decide +kernel
  have g1 := List.all_eq_true.mp g w hw
  have e : u_ws cN4 fT4 5 = ([174, 176, 178, 180, 182] : List Nat).filterMap (fun i => lw_tbl[i]?) := by decide +kernel
  rw [e] at hw
  obtain ⟨i, -, hi⟩ := List.mem_filterMap.mp hw
  exact List.mem_filter.mpr ⟨List.mem_of_getElem? hi, g1⟩
theorem fI5 : ∀ w ∈ u_ws cN5 fT5 3, w ∈ lw_ws := fun w hw => by
  have g : (u_ws cN5 fT5 3).all gw = true := by decide +kernel
  have g1 := List.all_eq_true.mp g w hw
  have e : u_ws cN5 fT5 3 = ([217, 219, 221] : List Nat).filterMap (fun i => lw_tbl[i]?) := by decide +kernel
  rw [e] at hw
  obtain ⟨i, -, hi⟩ := List.mem_filterMap.mp hw
  exact List.mem_filter.mpr ⟨List.mem_of_getElem? hi, g1⟩
theorem fI6 : ∀ w ∈ u_ws cN6 fT6 7, w ∈ lw_ws := fun w hw => by
  have g : (u_ws cN6 fT6 7).all gw = true := by decide +kernel
  have g1 := List.all_eq_true.mp g w hw
  have e : u_ws cN6 fT6 7 = ([97, 99, 101, 103, 105, 107, 109] : List Nat).filterMap (fun i => lw_tbl[i]?) := by decide +kernel
  rw [e] at hw
  obtain ⟨i, -, hi⟩ := List.mem_filterMap.mp hw
  exact List.mem_filter.mpr ⟨List.mem_of_getElem? hi, g1⟩
theorem fI7 : ∀ w ∈ u_ws cN7 fT7 11, w ∈ lw_ws := fun w hw => by
  have g : (u_ws cN7 fT7 11).all gw = true := by decide +kernel
  have g1 := List.all_eq_true.mp g w hw
  have e : u_ws cN7 fT7 11 = ([257, 259, 261, 263, 265, 267, 269, 271, 273, 275, 277] : List Nat).filterMap (fun i => lw_tbl[i]?) := by decide +kernel
  rw [e] at hw
  obtain ⟨i, -, hi⟩ := List.mem_filterMap.mp hw
  exact List.mem_filter.mpr ⟨List.mem_of_getElem? hi, g1⟩
theorem fI8 : ∀ w ∈ u_ws cN8 fT8 29, w ∈ lw_ws := fun w hw => by
  have g : (u_ws cN8 fT8 29).all gw = true := by decide +kernel
  have g1 := List.all_eq_true.mp g w hw
  have e : u_ws cN8 fT8 29 = ([787, 789, 791, 793, 795, 797, 799, 801, 803, 805, 807, 809, 811, 813, 815, 817, 819, 821, 823, 825, 827, 829, 831, 833, 835, 837, 839, 841, 843] : List Nat).filterMap (fun i => lw_tbl[i]?) := by decide +kernel
  rw [e] at hw
  obtain ⟨i, -, hi⟩ := List.mem_filterMap.mp hw
  exact List.mem_filter.mpr ⟨List.mem_of_getElem? hi, g1⟩
