/-- a private method of a class that the tables say can be made, by its rows of tables_1 -/
def lw_okq (q : MethodName × Nat) : Prop := (q.1.cls ≠ "java/lang/invoke/MethodHandle" ∧ q.1.cls ≠ "java/lang/invoke/VarHandle") ∧ Cond.instantiable q.1.cls q.2 ∈ tables_1 ∧ Cond.privateMethod q.1 ∈ tables_1 ∧ Cond.instanceMethod q.1 ∈ tables_1
theorem lw_p0 : lw_okq (⟨"TreeTalk", "unsettleFrom", "(I)V"⟩, 18) := ⟨⟨by decide +kernel, by decide +kernel⟩, List.mem_of_getElem? (i := 28) (by decide +kernel), List.mem_of_getElem? (i := 389) (by decide +kernel), List.mem_of_getElem? (i := 390) (by decide +kernel)⟩
theorem lw_p1 : lw_okq (⟨"TreeTalk$Circle", "seatNext", "(I)V"⟩, 7) := ⟨⟨by decide +kernel, by decide +kernel⟩, List.mem_of_getElem? (i := 36) (by decide +kernel), List.mem_of_getElem? (i := 408) (by decide +kernel), List.mem_of_getElem? (i := 409) (by decide +kernel)⟩
theorem lw_p2 : lw_okq (⟨"TreeTalk", "matterAt", "(I)LTreeTalk$Matter;"⟩, 18) := ⟨⟨by decide +kernel, by decide +kernel⟩, List.mem_of_getElem? (i := 28) (by decide +kernel), List.mem_of_getElem? (i := 505) (by decide +kernel), List.mem_of_getElem? (i := 506) (by decide +kernel)⟩
theorem lw_p3 : lw_okq (⟨"TreeTalk$Tape", "put", "(I)V"⟩, 2) := ⟨⟨by decide +kernel, by decide +kernel⟩, List.mem_of_getElem? (i := 88) (by decide +kernel), List.mem_of_getElem? (i := 570) (by decide +kernel), List.mem_of_getElem? (i := 571) (by decide +kernel)⟩
theorem lw_p4 : lw_okq (⟨"TreeTalk$Reader", "readClause", "()Z"⟩, 8) := ⟨⟨by decide +kernel, by decide +kernel⟩, List.mem_of_getElem? (i := 104) (by decide +kernel), List.mem_of_getElem? (i := 590) (by decide +kernel), List.mem_of_getElem? (i := 591) (by decide +kernel)⟩
theorem lw_p5 : lw_okq (⟨"TreeTalk$Reader", "next", "()I"⟩, 8) := ⟨⟨by decide +kernel, by decide +kernel⟩, List.mem_of_getElem? (i := 104) (by decide +kernel), List.mem_of_getElem? (i := 594) (by decide +kernel), List.mem_of_getElem? (i := 595) (by decide +kernel)⟩
theorem lw_p6 : lw_okq (⟨"TreeTalk$Reader", "readCondition", "(I)Z"⟩, 8) := ⟨⟨by decide +kernel, by decide +kernel⟩, List.mem_of_getElem? (i := 104) (by decide +kernel), List.mem_of_getElem? (i := 686) (by decide +kernel), List.mem_of_getElem? (i := 687) (by decide +kernel)⟩
theorem lw_p7 : lw_okq (⟨"TreeTalk$Reader", "readTruth", "(I)Z"⟩, 8) := ⟨⟨by decide +kernel, by decide +kernel⟩, List.mem_of_getElem? (i := 104) (by decide +kernel), List.mem_of_getElem? (i := 690) (by decide +kernel), List.mem_of_getElem? (i := 691) (by decide +kernel)⟩
theorem lw_p8 : lw_okq (⟨"TreeTalk$Reader", "readUnit", "(I)Z"⟩, 8) := ⟨⟨by decide +kernel, by decide +kernel⟩, List.mem_of_getElem? (i := 104) (by decide +kernel), List.mem_of_getElem? (i := 694) (by decide +kernel), List.mem_of_getElem? (i := 695) (by decide +kernel)⟩
theorem lw_p9 : lw_okq (⟨"TreeTalk$Reader", "readSum", "(I)Z"⟩, 8) := ⟨⟨by decide +kernel, by decide +kernel⟩, List.mem_of_getElem? (i := 104) (by decide +kernel), List.mem_of_getElem? (i := 698) (by decide +kernel), List.mem_of_getElem? (i := 699) (by decide +kernel)⟩
theorem lw_p10 : lw_okq (⟨"TreeTalk$Reader", "readTerm", "(I)Z"⟩, 8) := ⟨⟨by decide +kernel, by decide +kernel⟩, List.mem_of_getElem? (i := 104) (by decide +kernel), List.mem_of_getElem? (i := 702) (by decide +kernel), List.mem_of_getElem? (i := 703) (by decide +kernel)⟩
theorem lw_p11 : lw_okq (⟨"TreeTalk$Reader", "readAtom", "(I)Z"⟩, 8) := ⟨⟨by decide +kernel, by decide +kernel⟩, List.mem_of_getElem? (i := 104) (by decide +kernel), List.mem_of_getElem? (i := 706) (by decide +kernel), List.mem_of_getElem? (i := 707) (by decide +kernel)⟩
theorem lw_p12 : lw_okq (⟨"TreeTalk$Reader", "readNumber", "(I)I"⟩, 8) := ⟨⟨by decide +kernel, by decide +kernel⟩, List.mem_of_getElem? (i := 104) (by decide +kernel), List.mem_of_getElem? (i := 710) (by decide +kernel), List.mem_of_getElem? (i := 711) (by decide +kernel)⟩
theorem lw_p13 : lw_okq (⟨"TreeTalk$Reader", "put", "(II)V"⟩, 8) := ⟨⟨by decide +kernel, by decide +kernel⟩, List.mem_of_getElem? (i := 104) (by decide +kernel), List.mem_of_getElem? (i := 714) (by decide +kernel), List.mem_of_getElem? (i := 715) (by decide +kernel)⟩
theorem lw_p14 : lw_okq (⟨"TreeTalk$Reader", "readRelation", "(I)Z"⟩, 8) := ⟨⟨by decide +kernel, by decide +kernel⟩, List.mem_of_getElem? (i := 104) (by decide +kernel), List.mem_of_getElem? (i := 720) (by decide +kernel), List.mem_of_getElem? (i := 721) (by decide +kernel)⟩
theorem lw_p15 : lw_okq (⟨"TreeTalk$Reader", "readMoreUnits", "(I)Z"⟩, 8) := ⟨⟨by decide +kernel, by decide +kernel⟩, List.mem_of_getElem? (i := 104) (by decide +kernel), List.mem_of_getElem? (i := 725) (by decide +kernel), List.mem_of_getElem? (i := 726) (by decide +kernel)⟩
def lw_privs_1 : List (MethodName × Nat) := [(⟨"TreeTalk", "unsettleFrom", "(I)V"⟩, 18), (⟨"TreeTalk$Circle", "seatNext", "(I)V"⟩, 7), (⟨"TreeTalk", "matterAt", "(I)LTreeTalk$Matter;"⟩, 18), (⟨"TreeTalk$Tape", "put", "(I)V"⟩, 2), (⟨"TreeTalk$Reader", "readClause", "()Z"⟩, 8), (⟨"TreeTalk$Reader", "next", "()I"⟩, 8), (⟨"TreeTalk$Reader", "readCondition", "(I)Z"⟩, 8), (⟨"TreeTalk$Reader", "readTruth", "(I)Z"⟩, 8), (⟨"TreeTalk$Reader", "readUnit", "(I)Z"⟩, 8), (⟨"TreeTalk$Reader", "readSum", "(I)Z"⟩, 8), (⟨"TreeTalk$Reader", "readTerm", "(I)Z"⟩, 8), (⟨"TreeTalk$Reader", "readAtom", "(I)Z"⟩, 8), (⟨"TreeTalk$Reader", "readNumber", "(I)I"⟩, 8), (⟨"TreeTalk$Reader", "put", "(II)V"⟩, 8), (⟨"TreeTalk$Reader", "readRelation", "(I)Z"⟩, 8), (⟨"TreeTalk$Reader", "readMoreUnits", "(I)Z"⟩, 8)]
theorem lw_r1 : ∀ q ∈ lw_privs_1, lw_okq q := List.forall_mem_cons.mpr ⟨lw_p0, List.forall_mem_cons.mpr ⟨lw_p1, List.forall_mem_cons.mpr ⟨lw_p2, List.forall_mem_cons.mpr ⟨lw_p3, List.forall_mem_cons.mpr ⟨lw_p4, List.forall_mem_cons.mpr ⟨lw_p5, List.forall_mem_cons.mpr ⟨lw_p6, List.forall_mem_cons.mpr ⟨lw_p7, List.forall_mem_cons.mpr ⟨lw_p8, List.forall_mem_cons.mpr ⟨lw_p9, List.forall_mem_cons.mpr ⟨lw_p10, List.forall_mem_cons.mpr ⟨lw_p11, List.forall_mem_cons.mpr ⟨lw_p12, List.forall_mem_cons.mpr ⟨lw_p13, List.forall_mem_cons.mpr ⟨lw_p14, List.forall_mem_cons.mpr ⟨lw_p15, fun _ h => absurd h List.not_mem_nil⟩⟩⟩⟩⟩⟩⟩⟩⟩⟩⟩⟩⟩⟩⟩⟩
theorem lw_p16 : lw_okq (⟨"TreeTalk$Reader", "readMoreTruths", "(I)Z"⟩, 8) := ⟨⟨by decide +kernel, by decide +kernel⟩, List.mem_of_getElem? (i := 104) (by decide +kernel), List.mem_of_getElem? (i := 729) (by decide +kernel), List.mem_of_getElem? (i := 730) (by decide +kernel)⟩
theorem lw_p17 : lw_okq (⟨"TreeTalk$Reader", "putClause", "(III)V"⟩, 8) := ⟨⟨by decide +kernel, by decide +kernel⟩, List.mem_of_getElem? (i := 104) (by decide +kernel), List.mem_of_getElem? (i := 733) (by decide +kernel), List.mem_of_getElem? (i := 734) (by decide +kernel)⟩
theorem lw_p18 : lw_okq (⟨"TreeTalk", "settle", "(I)V"⟩, 18) := ⟨⟨by decide +kernel, by decide +kernel⟩, List.mem_of_getElem? (i := 28) (by decide +kernel), List.mem_of_getElem? (i := 794) (by decide +kernel), List.mem_of_getElem? (i := 795) (by decide +kernel)⟩
theorem lw_p19 : lw_okq (⟨"TreeTalk$Talk", "lastDay", "()I"⟩, 19) := ⟨⟨by decide +kernel, by decide +kernel⟩, List.mem_of_getElem? (i := 152) (by decide +kernel), List.mem_of_getElem? (i := 812) (by decide +kernel), List.mem_of_getElem? (i := 813) (by decide +kernel)⟩
theorem lw_p20 : lw_okq (⟨"TreeTalk$Scale", "step", "(II)I"⟩, 2) := ⟨⟨by decide +kernel, by decide +kernel⟩, List.mem_of_getElem? (i := 138) (by decide +kernel), List.mem_of_getElem? (i := 830) (by decide +kernel), List.mem_of_getElem? (i := 831) (by decide +kernel)⟩
theorem lw_p21 : lw_okq (⟨"TreeTalk$Talk", "takeTurn", "(II)V"⟩, 19) := ⟨⟨by decide +kernel, by decide +kernel⟩, List.mem_of_getElem? (i := 152) (by decide +kernel), List.mem_of_getElem? (i := 839) (by decide +kernel), List.mem_of_getElem? (i := 840) (by decide +kernel)⟩
theorem lw_p22 : lw_okq (⟨"TreeTalk$Talk", "maySpeak", "(II)Z"⟩, 19) := ⟨⟨by decide +kernel, by decide +kernel⟩, List.mem_of_getElem? (i := 152) (by decide +kernel), List.mem_of_getElem? (i := 843) (by decide +kernel), List.mem_of_getElem? (i := 844) (by decide +kernel)⟩
theorem lw_p23 : lw_okq (⟨"TreeTalk$Talk", "tellLook", "(III)V"⟩, 19) := ⟨⟨by decide +kernel, by decide +kernel⟩, List.mem_of_getElem? (i := 152) (by decide +kernel), List.mem_of_getElem? (i := 847) (by decide +kernel), List.mem_of_getElem? (i := 848) (by decide +kernel)⟩
theorem lw_p24 : lw_okq (⟨"TreeTalk$Talk", "heedFor", "(I[II)I"⟩, 19) := ⟨⟨by decide +kernel, by decide +kernel⟩, List.mem_of_getElem? (i := 152) (by decide +kernel), List.mem_of_getElem? (i := 857) (by decide +kernel), List.mem_of_getElem? (i := 858) (by decide +kernel)⟩
theorem lw_p25 : lw_okq (⟨"TreeTalk$Talk", "isNo", "(JII)Z"⟩, 19) := ⟨⟨by decide +kernel, by decide +kernel⟩, List.mem_of_getElem? (i := 152) (by decide +kernel), List.mem_of_getElem? (i := 861) (by decide +kernel), List.mem_of_getElem? (i := 862) (by decide +kernel)⟩
theorem lw_p26 : lw_okq (⟨"TreeTalk$Talk", "sift", "(IIZ)V"⟩, 19) := ⟨⟨by decide +kernel, by decide +kernel⟩, List.mem_of_getElem? (i := 152) (by decide +kernel), List.mem_of_getElem? (i := 869) (by decide +kernel), List.mem_of_getElem? (i := 870) (by decide +kernel)⟩
theorem lw_p27 : lw_okq (⟨"TreeTalk$Talk", "wayInstead", "(II)I"⟩, 19) := ⟨⟨by decide +kernel, by decide +kernel⟩, List.mem_of_getElem? (i := 152) (by decide +kernel), List.mem_of_getElem? (i := 873) (by decide +kernel), List.mem_of_getElem? (i := 874) (by decide +kernel)⟩
theorem lw_p28 : lw_okq (⟨"TreeTalk$Talk", "speak", "(III)V"⟩, 19) := ⟨⟨by decide +kernel, by decide +kernel⟩, List.mem_of_getElem? (i := 152) (by decide +kernel), List.mem_of_getElem? (i := 877) (by decide +kernel), List.mem_of_getElem? (i := 878) (by decide +kernel)⟩
theorem lw_p29 : lw_okq (⟨"TreeTalk$Talk", "noteSaid", "([III)V"⟩, 19) := ⟨⟨by decide +kernel, by decide +kernel⟩, List.mem_of_getElem? (i := 152) (by decide +kernel), List.mem_of_getElem? (i := 881) (by decide +kernel), List.mem_of_getElem? (i := 882) (by decide +kernel)⟩
theorem lw_p30 : lw_okq (⟨"TreeTalk$Talk", "endOfDay", "(I)I"⟩, 19) := ⟨⟨by decide +kernel, by decide +kernel⟩, List.mem_of_getElem? (i := 152) (by decide +kernel), List.mem_of_getElem? (i := 889) (by decide +kernel), List.mem_of_getElem? (i := 890) (by decide +kernel)⟩
theorem lw_p31 : lw_okq (⟨"TreeTalk$Talk", "failsBySilence", "()Z"⟩, 19) := ⟨⟨by decide +kernel, by decide +kernel⟩, List.mem_of_getElem? (i := 152) (by decide +kernel), List.mem_of_getElem? (i := 893) (by decide +kernel), List.mem_of_getElem? (i := 894) (by decide +kernel)⟩
def lw_privs_2 : List (MethodName × Nat) := [(⟨"TreeTalk$Reader", "readMoreTruths", "(I)Z"⟩, 8), (⟨"TreeTalk$Reader", "putClause", "(III)V"⟩, 8), (⟨"TreeTalk", "settle", "(I)V"⟩, 18), (⟨"TreeTalk$Talk", "lastDay", "()I"⟩, 19), (⟨"TreeTalk$Scale", "step", "(II)I"⟩, 2), (⟨"TreeTalk$Talk", "takeTurn", "(II)V"⟩, 19), (⟨"TreeTalk$Talk", "maySpeak", "(II)Z"⟩, 19), (⟨"TreeTalk$Talk", "tellLook", "(III)V"⟩, 19), (⟨"TreeTalk$Talk", "heedFor", "(I[II)I"⟩, 19), (⟨"TreeTalk$Talk", "isNo", "(JII)Z"⟩, 19), (⟨"TreeTalk$Talk", "sift", "(IIZ)V"⟩, 19), (⟨"TreeTalk$Talk", "wayInstead", "(II)I"⟩, 19), (⟨"TreeTalk$Talk", "speak", "(III)V"⟩, 19), (⟨"TreeTalk$Talk", "noteSaid", "([III)V"⟩, 19), (⟨"TreeTalk$Talk", "endOfDay", "(I)I"⟩, 19), (⟨"TreeTalk$Talk", "failsBySilence", "()Z"⟩, 19)]
theorem lw_r2 : ∀ q ∈ lw_privs_2, lw_okq q := List.forall_mem_cons.mpr ⟨lw_p16, List.forall_mem_cons.mpr ⟨lw_p17, List.forall_mem_cons.mpr ⟨lw_p18, List.forall_mem_cons.mpr ⟨lw_p19, List.forall_mem_cons.mpr ⟨lw_p20, List.forall_mem_cons.mpr ⟨lw_p21, List.forall_mem_cons.mpr ⟨lw_p22, List.forall_mem_cons.mpr ⟨lw_p23, List.forall_mem_cons.mpr ⟨lw_p24, List.forall_mem_cons.mpr ⟨lw_p25, List.forall_mem_cons.mpr ⟨lw_p26, List.forall_mem_cons.mpr ⟨lw_p27, List.forall_mem_cons.mpr ⟨lw_p28, List.forall_mem_cons.mpr ⟨lw_p29, List.forall_mem_cons.mpr ⟨lw_p30, List.forall_mem_cons.mpr ⟨lw_p31, fun _ h => absurd h List.not_mem_nil⟩⟩⟩⟩⟩⟩⟩⟩⟩⟩⟩⟩⟩⟩⟩⟩
theorem lw_p32 : lw_okq (⟨"TreeTalk$Talk", "wasSoBefore", "()Z"⟩, 19) := ⟨⟨by decide +kernel, by decide +kernel⟩, List.mem_of_getElem? (i := 152) (by decide +kernel), List.mem_of_getElem? (i := 898) (by decide +kernel), List.mem_of_getElem? (i := 899) (by decide +kernel)⟩
theorem lw_p33 : lw_okq (⟨"TreeTalk$Council", "isBorneByAll", "(LTreeTalk$Matter;I)Z"⟩, 2) := ⟨⟨by decide +kernel, by decide +kernel⟩, List.mem_of_getElem? (i := 250) (by decide +kernel), List.mem_of_getElem? (i := 926) (by decide +kernel), List.mem_of_getElem? (i := 927) (by decide +kernel)⟩
theorem lw_p34 : lw_okq (⟨"TreeTalk$Council", "lossesFalling", "(LTreeTalk$Matter;I)J"⟩, 2) := ⟨⟨by decide +kernel, by decide +kernel⟩, List.mem_of_getElem? (i := 250) (by decide +kernel), List.mem_of_getElem? (i := 939) (by decide +kernel), List.mem_of_getElem? (i := 940) (by decide +kernel)⟩
theorem lw_p35 : lw_okq (⟨"TreeTalk$Council", "canLeaveOpen", "(LTreeTalk$Matter;I)Z"⟩, 2) := ⟨⟨by decide +kernel, by decide +kernel⟩, List.mem_of_getElem? (i := 250) (by decide +kernel), List.mem_of_getElem? (i := 969) (by decide +kernel), List.mem_of_getElem? (i := 970) (by decide +kernel)⟩
theorem lw_p36 : lw_okq (⟨"TreeTalk$Gifts", "gather", "(LTreeTalk$Matter;LTreeTalk$Matter;)V"⟩, 11) := ⟨⟨by decide +kernel, by decide +kernel⟩, List.mem_of_getElem? (i := 263) (by decide +kernel), List.mem_of_getElem? (i := 996) (by decide +kernel), List.mem_of_getElem? (i := 997) (by decide +kernel)⟩
theorem lw_p37 : lw_okq (⟨"TreeTalk$Gifts", "isGiven", "(I)Z"⟩, 11) := ⟨⟨by decide +kernel, by decide +kernel⟩, List.mem_of_getElem? (i := 263) (by decide +kernel), List.mem_of_getElem? (i := 1003) (by decide +kernel), List.mem_of_getElem? (i := 1004) (by decide +kernel)⟩
theorem lw_p38 : lw_okq (⟨"TreeTalk$Gifts", "isEnough", "(LTreeTalk$Matter;I)Z"⟩, 11) := ⟨⟨by decide +kernel, by decide +kernel⟩, List.mem_of_getElem? (i := 263) (by decide +kernel), List.mem_of_getElem? (i := 1007) (by decide +kernel), List.mem_of_getElem? (i := 1008) (by decide +kernel)⟩
theorem lw_p39 : lw_okq (⟨"TreeTalk$Gifts", "unborneBy", "(ILTreeTalk$Matter;I)I"⟩, 11) := ⟨⟨by decide +kernel, by decide +kernel⟩, List.mem_of_getElem? (i := 263) (by decide +kernel), List.mem_of_getElem? (i := 1011) (by decide +kernel), List.mem_of_getElem? (i := 1012) (by decide +kernel)⟩
theorem lw_p40 : lw_okq (⟨"TreeTalk$Council", "lossOfAll", "(LTreeTalk$Matter;I)I"⟩, 2) := ⟨⟨by decide +kernel, by decide +kernel⟩, List.mem_of_getElem? (i := 250) (by decide +kernel), List.mem_of_getElem? (i := 1024) (by decide +kernel), List.mem_of_getElem? (i := 1025) (by decide +kernel)⟩
theorem lw_p41 : lw_okq (⟨"TreeTalk", "takenBy", "(IIIII)I"⟩, 18) := ⟨⟨by decide +kernel, by decide +kernel⟩, List.mem_of_getElem? (i := 28) (by decide +kernel), List.mem_of_getElem? (i := 1040) (by decide +kernel), List.mem_of_getElem? (i := 1041) (by decide +kernel)⟩
theorem lw_p42 : lw_okq (⟨"TreeTalk", "gainByHidingOf", "(III)I"⟩, 18) := ⟨⟨by decide +kernel, by decide +kernel⟩, List.mem_of_getElem? (i := 28) (by decide +kernel), List.mem_of_getElem? (i := 1072) (by decide +kernel), List.mem_of_getElem? (i := 1073) (by decide +kernel)⟩
theorem lw_p43 : lw_okq (⟨"TreeTalk$Talk", "voicesFor", "(I)I"⟩, 19) := ⟨⟨by decide +kernel, by decide +kernel⟩, List.mem_of_getElem? (i := 152) (by decide +kernel), List.mem_of_getElem? (i := 1085) (by decide +kernel), List.mem_of_getElem? (i := 1086) (by decide +kernel)⟩
theorem lw_p44 : lw_okq (⟨"java/lang/Throwable", "fillInStackTrace", "(I)Ljava/lang/Throwable;"⟩, 6) := ⟨⟨by decide +kernel, by decide +kernel⟩, List.mem_of_getElem? (i := 1142) (by decide +kernel), List.mem_of_getElem? (i := 1140) (by decide +kernel), List.mem_of_getElem? (i := 1141) (by decide +kernel)⟩
theorem lw_p45 : lw_okq (⟨"TreeTalkModel", "isElder", "(I)Z"⟩, 85) := ⟨⟨by decide +kernel, by decide +kernel⟩, List.mem_of_getElem? (i := 1178) (by decide +kernel), List.mem_of_getElem? (i := 1458) (by decide +kernel), List.mem_of_getElem? (i := 1459) (by decide +kernel)⟩
theorem lw_p46 : lw_okq (⟨"TreeTalkModel", "sit", "()V"⟩, 85) := ⟨⟨by decide +kernel, by decide +kernel⟩, List.mem_of_getElem? (i := 1178) (by decide +kernel), List.mem_of_getElem? (i := 1466) (by decide +kernel), List.mem_of_getElem? (i := 1467) (by decide +kernel)⟩
theorem lw_p47 : lw_okq (⟨"TreeTalkModel", "isWay", "(III)Z"⟩, 85) := ⟨⟨by decide +kernel, by decide +kernel⟩, List.mem_of_getElem? (i := 1178) (by decide +kernel), List.mem_of_getElem? (i := 1482) (by decide +kernel), List.mem_of_getElem? (i := 1483) (by decide +kernel)⟩
def lw_privs_3 : List (MethodName × Nat) := [(⟨"TreeTalk$Talk", "wasSoBefore", "()Z"⟩, 19), (⟨"TreeTalk$Council", "isBorneByAll", "(LTreeTalk$Matter;I)Z"⟩, 2), (⟨"TreeTalk$Council", "lossesFalling", "(LTreeTalk$Matter;I)J"⟩, 2), (⟨"TreeTalk$Council", "canLeaveOpen", "(LTreeTalk$Matter;I)Z"⟩, 2), (⟨"TreeTalk$Gifts", "gather", "(LTreeTalk$Matter;LTreeTalk$Matter;)V"⟩, 11), (⟨"TreeTalk$Gifts", "isGiven", "(I)Z"⟩, 11), (⟨"TreeTalk$Gifts", "isEnough", "(LTreeTalk$Matter;I)Z"⟩, 11), (⟨"TreeTalk$Gifts", "unborneBy", "(ILTreeTalk$Matter;I)I"⟩, 11), (⟨"TreeTalk$Council", "lossOfAll", "(LTreeTalk$Matter;I)I"⟩, 2), (⟨"TreeTalk", "takenBy", "(IIIII)I"⟩, 18), (⟨"TreeTalk", "gainByHidingOf", "(III)I"⟩, 18), (⟨"TreeTalk$Talk", "voicesFor", "(I)I"⟩, 19), (⟨"java/lang/Throwable", "fillInStackTrace", "(I)Ljava/lang/Throwable;"⟩, 6), (⟨"TreeTalkModel", "isElder", "(I)Z"⟩, 85), (⟨"TreeTalkModel", "sit", "()V"⟩, 85), (⟨"TreeTalkModel", "isWay", "(III)Z"⟩, 85)]
theorem lw_r3 : ∀ q ∈ lw_privs_3, lw_okq q := List.forall_mem_cons.mpr ⟨lw_p32, List.forall_mem_cons.mpr ⟨lw_p33, List.forall_mem_cons.mpr ⟨lw_p34, List.forall_mem_cons.mpr ⟨lw_p35, List.forall_mem_cons.mpr ⟨lw_p36, List.forall_mem_cons.mpr ⟨lw_p37, List.forall_mem_cons.mpr ⟨lw_p38, List.forall_mem_cons.mpr ⟨lw_p39, List.forall_mem_cons.mpr ⟨lw_p40, List.forall_mem_cons.mpr ⟨lw_p41, List.forall_mem_cons.mpr ⟨lw_p42, List.forall_mem_cons.mpr ⟨lw_p43, List.forall_mem_cons.mpr ⟨lw_p44, List.forall_mem_cons.mpr ⟨lw_p45, List.forall_mem_cons.mpr ⟨lw_p46, List.forall_mem_cons.mpr ⟨lw_p47, fun _ h => absurd h List.not_mem_nil⟩⟩⟩⟩⟩⟩⟩⟩⟩⟩⟩⟩⟩⟩⟩⟩
theorem lw_p48 : lw_okq (⟨"TreeTalkModel", "isPart", "(II)Z"⟩, 85) := ⟨⟨by decide +kernel, by decide +kernel⟩, List.mem_of_getElem? (i := 1178) (by decide +kernel), List.mem_of_getElem? (i := 1486) (by decide +kernel), List.mem_of_getElem? (i := 1487) (by decide +kernel)⟩
theorem lw_p49 : lw_okq (⟨"TreeTalkModel", "isMatter", "(I)Z"⟩, 85) := ⟨⟨by decide +kernel, by decide +kernel⟩, List.mem_of_getElem? (i := 1178) (by decide +kernel), List.mem_of_getElem? (i := 1490) (by decide +kernel), List.mem_of_getElem? (i := 1491) (by decide +kernel)⟩
theorem lw_p50 : lw_okq (⟨"TreeTalkModel", "isProposal", "(II)Z"⟩, 85) := ⟨⟨by decide +kernel, by decide +kernel⟩, List.mem_of_getElem? (i := 1178) (by decide +kernel), List.mem_of_getElem? (i := 1513) (by decide +kernel), List.mem_of_getElem? (i := 1514) (by decide +kernel)⟩
theorem lw_p51 : lw_okq (⟨"TreeTalkModel", "every", "(I)I"⟩, 85) := ⟨⟨by decide +kernel, by decide +kernel⟩, List.mem_of_getElem? (i := 1178) (by decide +kernel), List.mem_of_getElem? (i := 1520) (by decide +kernel), List.mem_of_getElem? (i := 1521) (by decide +kernel)⟩
theorem lw_p52 : lw_okq (⟨"TreeTalkModel", "bears", "(IIII)Z"⟩, 85) := ⟨⟨by decide +kernel, by decide +kernel⟩, List.mem_of_getElem? (i := 1178) (by decide +kernel), List.mem_of_getElem? (i := 1524) (by decide +kernel), List.mem_of_getElem? (i := 1525) (by decide +kernel)⟩
theorem lw_p53 : lw_okq (⟨"TreeTalkModel", "wayOf", "(III)I"⟩, 85) := ⟨⟨by decide +kernel, by decide +kernel⟩, List.mem_of_getElem? (i := 1178) (by decide +kernel), List.mem_of_getElem? (i := 1528) (by decide +kernel), List.mem_of_getElem? (i := 1529) (by decide +kernel)⟩
theorem lw_p54 : lw_okq (⟨"TreeTalkModel", "canBearWay", "(IIII)Z"⟩, 85) := ⟨⟨by decide +kernel, by decide +kernel⟩, List.mem_of_getElem? (i := 1178) (by decide +kernel), List.mem_of_getElem? (i := 1532) (by decide +kernel), List.mem_of_getElem? (i := 1533) (by decide +kernel)⟩
theorem lw_p55 : lw_okq (⟨"TreeTalkModel", "clashesIn", "(IIIII)Z"⟩, 85) := ⟨⟨by decide +kernel, by decide +kernel⟩, List.mem_of_getElem? (i := 1178) (by decide +kernel), List.mem_of_getElem? (i := 1536) (by decide +kernel), List.mem_of_getElem? (i := 1537) (by decide +kernel)⟩
theorem lw_p56 : lw_okq (⟨"TreeTalkModel", "lossOf", "(III)I"⟩, 85) := ⟨⟨by decide +kernel, by decide +kernel⟩, List.mem_of_getElem? (i := 1178) (by decide +kernel), List.mem_of_getElem? (i := 1544) (by decide +kernel), List.mem_of_getElem? (i := 1545) (by decide +kernel)⟩
theorem lw_p57 : lw_okq (⟨"TreeTalkModel", "put", "(I)V"⟩, 85) := ⟨⟨by decide +kernel, by decide +kernel⟩, List.mem_of_getElem? (i := 1178) (by decide +kernel), List.mem_of_getElem? (i := 1555) (by decide +kernel), List.mem_of_getElem? (i := 1556) (by decide +kernel)⟩
theorem lw_p58 : lw_okq (⟨"TreeTalkModel", "goThrough", "([BIIZI)V"⟩, 85) := ⟨⟨by decide +kernel, by decide +kernel⟩, List.mem_of_getElem? (i := 1178) (by decide +kernel), List.mem_of_getElem? (i := 1567) (by decide +kernel), List.mem_of_getElem? (i := 1568) (by decide +kernel)⟩
theorem lw_p59 : lw_okq (⟨"TreeTalkModel", "clause", "()V"⟩, 85) := ⟨⟨by decide +kernel, by decide +kernel⟩, List.mem_of_getElem? (i := 1178) (by decide +kernel), List.mem_of_getElem? (i := 1573) (by decide +kernel), List.mem_of_getElem? (i := 1574) (by decide +kernel)⟩
theorem lw_p60 : lw_okq (⟨"TreeTalkModel", "look", "()I"⟩, 85) := ⟨⟨by decide +kernel, by decide +kernel⟩, List.mem_of_getElem? (i := 1178) (by decide +kernel), List.mem_of_getElem? (i := 1577) (by decide +kernel), List.mem_of_getElem? (i := 1578) (by decide +kernel)⟩
theorem lw_p61 : lw_okq (⟨"TreeTalkModel", "fails", "()Z"⟩, 85) := ⟨⟨by decide +kernel, by decide +kernel⟩, List.mem_of_getElem? (i := 1178) (by decide +kernel), List.mem_of_getElem? (i := 1582) (by decide +kernel), List.mem_of_getElem? (i := 1583) (by decide +kernel)⟩
theorem lw_p62 : lw_okq (⟨"TreeTalkModel", "takes", "(I)Z"⟩, 85) := ⟨⟨by decide +kernel, by decide +kernel⟩, List.mem_of_getElem? (i := 1178) (by decide +kernel), List.mem_of_getElem? (i := 1586) (by decide +kernel), List.mem_of_getElem? (i := 1587) (by decide +kernel)⟩
theorem lw_p63 : lw_okq (⟨"TreeTalkModel", "condition", "(ZI)Z"⟩, 85) := ⟨⟨by decide +kernel, by decide +kernel⟩, List.mem_of_getElem? (i := 1178) (by decide +kernel), List.mem_of_getElem? (i := 1590) (by decide +kernel), List.mem_of_getElem? (i := 1591) (by decide +kernel)⟩
def lw_privs_4 : List (MethodName × Nat) := [(⟨"TreeTalkModel", "isPart", "(II)Z"⟩, 85), (⟨"TreeTalkModel", "isMatter", "(I)Z"⟩, 85), (⟨"TreeTalkModel", "isProposal", "(II)Z"⟩, 85), (⟨"TreeTalkModel", "every", "(I)I"⟩, 85), (⟨"TreeTalkModel", "bears", "(IIII)Z"⟩, 85), (⟨"TreeTalkModel", "wayOf", "(III)I"⟩, 85), (⟨"TreeTalkModel", "canBearWay", "(IIII)Z"⟩, 85), (⟨"TreeTalkModel", "clashesIn", "(IIIII)Z"⟩, 85), (⟨"TreeTalkModel", "lossOf", "(III)I"⟩, 85), (⟨"TreeTalkModel", "put", "(I)V"⟩, 85), (⟨"TreeTalkModel", "goThrough", "([BIIZI)V"⟩, 85), (⟨"TreeTalkModel", "clause", "()V"⟩, 85), (⟨"TreeTalkModel", "look", "()I"⟩, 85), (⟨"TreeTalkModel", "fails", "()Z"⟩, 85), (⟨"TreeTalkModel", "takes", "(I)Z"⟩, 85), (⟨"TreeTalkModel", "condition", "(ZI)Z"⟩, 85)]
theorem lw_r4 : ∀ q ∈ lw_privs_4, lw_okq q := List.forall_mem_cons.mpr ⟨lw_p48, List.forall_mem_cons.mpr ⟨lw_p49, List.forall_mem_cons.mpr ⟨lw_p50, List.forall_mem_cons.mpr ⟨lw_p51, List.forall_mem_cons.mpr ⟨lw_p52, List.forall_mem_cons.mpr ⟨lw_p53, List.forall_mem_cons.mpr ⟨lw_p54, List.forall_mem_cons.mpr ⟨lw_p55, List.forall_mem_cons.mpr ⟨lw_p56, List.forall_mem_cons.mpr ⟨lw_p57, List.forall_mem_cons.mpr ⟨lw_p58, List.forall_mem_cons.mpr ⟨lw_p59, List.forall_mem_cons.mpr ⟨lw_p60, List.forall_mem_cons.mpr ⟨lw_p61, List.forall_mem_cons.mpr ⟨lw_p62, List.forall_mem_cons.mpr ⟨lw_p63, fun _ h => absurd h List.not_mem_nil⟩⟩⟩⟩⟩⟩⟩⟩⟩⟩⟩⟩⟩⟩⟩⟩
theorem lw_p64 : lw_okq (⟨"TreeTalkModel", "part", "(ZI)Z"⟩, 85) := ⟨⟨by decide +kernel, by decide +kernel⟩, List.mem_of_getElem? (i := 1178) (by decide +kernel), List.mem_of_getElem? (i := 1594) (by decide +kernel), List.mem_of_getElem? (i := 1595) (by decide +kernel)⟩
theorem lw_p65 : lw_okq (⟨"TreeTalkModel", "compares", "(ZI)Z"⟩, 85) := ⟨⟨by decide +kernel, by decide +kernel⟩, List.mem_of_getElem? (i := 1178) (by decide +kernel), List.mem_of_getElem? (i := 1598) (by decide +kernel), List.mem_of_getElem? (i := 1599) (by decide +kernel)⟩
theorem lw_p66 : lw_okq (⟨"TreeTalkModel", "sum", "()I"⟩, 85) := ⟨⟨by decide +kernel, by decide +kernel⟩, List.mem_of_getElem? (i := 1178) (by decide +kernel), List.mem_of_getElem? (i := 1602) (by decide +kernel), List.mem_of_getElem? (i := 1603) (by decide +kernel)⟩
theorem lw_p67 : lw_okq (⟨"TreeTalkModel", "term", "()I"⟩, 85) := ⟨⟨by decide +kernel, by decide +kernel⟩, List.mem_of_getElem? (i := 1178) (by decide +kernel), List.mem_of_getElem? (i := 1606) (by decide +kernel), List.mem_of_getElem? (i := 1607) (by decide +kernel)⟩
theorem lw_p68 : lw_okq (⟨"TreeTalkModel", "atom", "()I"⟩, 85) := ⟨⟨by decide +kernel, by decide +kernel⟩, List.mem_of_getElem? (i := 1178) (by decide +kernel), List.mem_of_getElem? (i := 1610) (by decide +kernel), List.mem_of_getElem? (i := 1611) (by decide +kernel)⟩
theorem lw_p69 : lw_okq (⟨"TreeTalkModel", "goesIn", "()Z"⟩, 85) := ⟨⟨by decide +kernel, by decide +kernel⟩, List.mem_of_getElem? (i := 1178) (by decide +kernel), List.mem_of_getElem? (i := 1614) (by decide +kernel), List.mem_of_getElem? (i := 1615) (by decide +kernel)⟩
theorem lw_p70 : lw_okq (⟨"TreeTalkModel", "isDigit", "()Z"⟩, 85) := ⟨⟨by decide +kernel, by decide +kernel⟩, List.mem_of_getElem? (i := 1178) (by decide +kernel), List.mem_of_getElem? (i := 1618) (by decide +kernel), List.mem_of_getElem? (i := 1619) (by decide +kernel)⟩
theorem lw_p71 : lw_okq (⟨"TreeTalkModel", "unit", "()Z"⟩, 85) := ⟨⟨by decide +kernel, by decide +kernel⟩, List.mem_of_getElem? (i := 1178) (by decide +kernel), List.mem_of_getElem? (i := 1636) (by decide +kernel), List.mem_of_getElem? (i := 1637) (by decide +kernel)⟩
theorem lw_p72 : lw_okq (⟨"TreeTalkModel", "keeps", "(IZ)Z"⟩, 85) := ⟨⟨by decide +kernel, by decide +kernel⟩, List.mem_of_getElem? (i := 1178) (by decide +kernel), List.mem_of_getElem? (i := 1644) (by decide +kernel), List.mem_of_getElem? (i := 1645) (by decide +kernel)⟩
theorem lw_p73 : lw_okq (⟨"TreeTalkModel", "isMind", "(I)Z"⟩, 85) := ⟨⟨by decide +kernel, by decide +kernel⟩, List.mem_of_getElem? (i := 1178) (by decide +kernel), List.mem_of_getElem? (i := 1660) (by decide +kernel), List.mem_of_getElem? (i := 1661) (by decide +kernel)⟩
theorem lw_p74 : lw_okq (⟨"TreeTalkModel", "noLetters", "()V"⟩, 85) := ⟨⟨by decide +kernel, by decide +kernel⟩, List.mem_of_getElem? (i := 1178) (by decide +kernel), List.mem_of_getElem? (i := 1668) (by decide +kernel), List.mem_of_getElem? (i := 1669) (by decide +kernel)⟩
theorem lw_p75 : lw_okq (⟨"TreeTalkModel", "hasWorth", "(IZI)Z"⟩, 85) := ⟨⟨by decide +kernel, by decide +kernel⟩, List.mem_of_getElem? (i := 1178) (by decide +kernel), List.mem_of_getElem? (i := 1672) (by decide +kernel), List.mem_of_getElem? (i := 1673) (by decide +kernel)⟩
theorem lw_p76 : lw_okq (⟨"TreeTalkModel", "talkOf", "(I)V"⟩, 85) := ⟨⟨by decide +kernel, by decide +kernel⟩, List.mem_of_getElem? (i := 1178) (by decide +kernel), List.mem_of_getElem? (i := 1684) (by decide +kernel), List.mem_of_getElem? (i := 1685) (by decide +kernel)⟩
theorem lw_p77 : lw_okq (⟨"TreeTalkModel", "goThroughTalk", "(I)V"⟩, 85) := ⟨⟨by decide +kernel, by decide +kernel⟩, List.mem_of_getElem? (i := 1178) (by decide +kernel), List.mem_of_getElem? (i := 1688) (by decide +kernel), List.mem_of_getElem? (i := 1689) (by decide +kernel)⟩
theorem lw_p78 : lw_okq (⟨"TreeTalkModel", "lastDay", "(I)I"⟩, 85) := ⟨⟨by decide +kernel, by decide +kernel⟩, List.mem_of_getElem? (i := 1178) (by decide +kernel), List.mem_of_getElem? (i := 1692) (by decide +kernel), List.mem_of_getElem? (i := 1693) (by decide +kernel)⟩
theorem lw_p79 : lw_okq (⟨"TreeTalkModel", "turns", "(IIIII)Z"⟩, 85) := ⟨⟨by decide +kernel, by decide +kernel⟩, List.mem_of_getElem? (i := 1178) (by decide +kernel), List.mem_of_getElem? (i := 1698) (by decide +kernel), List.mem_of_getElem? (i := 1699) (by decide +kernel)⟩
def lw_privs_5 : List (MethodName × Nat) := [(⟨"TreeTalkModel", "part", "(ZI)Z"⟩, 85), (⟨"TreeTalkModel", "compares", "(ZI)Z"⟩, 85), (⟨"TreeTalkModel", "sum", "()I"⟩, 85), (⟨"TreeTalkModel", "term", "()I"⟩, 85), (⟨"TreeTalkModel", "atom", "()I"⟩, 85), (⟨"TreeTalkModel", "goesIn", "()Z"⟩, 85), (⟨"TreeTalkModel", "isDigit", "()Z"⟩, 85), (⟨"TreeTalkModel", "unit", "()Z"⟩, 85), (⟨"TreeTalkModel", "keeps", "(IZ)Z"⟩, 85), (⟨"TreeTalkModel", "isMind", "(I)Z"⟩, 85), (⟨"TreeTalkModel", "noLetters", "()V"⟩, 85), (⟨"TreeTalkModel", "hasWorth", "(IZI)Z"⟩, 85), (⟨"TreeTalkModel", "talkOf", "(I)V"⟩, 85), (⟨"TreeTalkModel", "goThroughTalk", "(I)V"⟩, 85), (⟨"TreeTalkModel", "lastDay", "(I)I"⟩, 85), (⟨"TreeTalkModel", "turns", "(IIIII)Z"⟩, 85)]
theorem lw_r5 : ∀ q ∈ lw_privs_5, lw_okq q := List.forall_mem_cons.mpr ⟨lw_p64, List.forall_mem_cons.mpr ⟨lw_p65, List.forall_mem_cons.mpr ⟨lw_p66, List.forall_mem_cons.mpr ⟨lw_p67, List.forall_mem_cons.mpr ⟨lw_p68, List.forall_mem_cons.mpr ⟨lw_p69, List.forall_mem_cons.mpr ⟨lw_p70, List.forall_mem_cons.mpr ⟨lw_p71, List.forall_mem_cons.mpr ⟨lw_p72, List.forall_mem_cons.mpr ⟨lw_p73, List.forall_mem_cons.mpr ⟨lw_p74, List.forall_mem_cons.mpr ⟨lw_p75, List.forall_mem_cons.mpr ⟨lw_p76, List.forall_mem_cons.mpr ⟨lw_p77, List.forall_mem_cons.mpr ⟨lw_p78, List.forall_mem_cons.mpr ⟨lw_p79, fun _ h => absurd h List.not_mem_nil⟩⟩⟩⟩⟩⟩⟩⟩⟩⟩⟩⟩⟩⟩⟩⟩
theorem lw_p80 : lw_okq (⟨"TreeTalkModel", "maySpeak", "(IIIII)Z"⟩, 85) := ⟨⟨by decide +kernel, by decide +kernel⟩, List.mem_of_getElem? (i := 1178) (by decide +kernel), List.mem_of_getElem? (i := 1702) (by decide +kernel), List.mem_of_getElem? (i := 1703) (by decide +kernel)⟩
theorem lw_p81 : lw_okq (⟨"TreeTalkModel", "trust", "(II)I"⟩, 85) := ⟨⟨by decide +kernel, by decide +kernel⟩, List.mem_of_getElem? (i := 1178) (by decide +kernel), List.mem_of_getElem? (i := 1706) (by decide +kernel), List.mem_of_getElem? (i := 1707) (by decide +kernel)⟩
theorem lw_p82 : lw_okq (⟨"TreeTalkModel", "isKept", "(I)Z"⟩, 85) := ⟨⟨by decide +kernel, by decide +kernel⟩, List.mem_of_getElem? (i := 1178) (by decide +kernel), List.mem_of_getElem? (i := 1710) (by decide +kernel), List.mem_of_getElem? (i := 1711) (by decide +kernel)⟩
theorem lw_p83 : lw_okq (⟨"TreeTalkModel", "layLook", "(IIIIIIII)V"⟩, 85) := ⟨⟨by decide +kernel, by decide +kernel⟩, List.mem_of_getElem? (i := 1178) (by decide +kernel), List.mem_of_getElem? (i := 1714) (by decide +kernel), List.mem_of_getElem? (i := 1715) (by decide +kernel)⟩
theorem lw_p84 : lw_okq (⟨"TreeTalkModel", "heedFor", "(II)I"⟩, 85) := ⟨⟨by decide +kernel, by decide +kernel⟩, List.mem_of_getElem? (i := 1178) (by decide +kernel), List.mem_of_getElem? (i := 1718) (by decide +kernel), List.mem_of_getElem? (i := 1719) (by decide +kernel)⟩
theorem lw_p85 : lw_okq (⟨"TreeTalkModel", "plainlyNo", "(IIII)Z"⟩, 85) := ⟨⟨by decide +kernel, by decide +kernel⟩, List.mem_of_getElem? (i := 1178) (by decide +kernel), List.mem_of_getElem? (i := 1722) (by decide +kernel), List.mem_of_getElem? (i := 1723) (by decide +kernel)⟩
theorem lw_p86 : lw_okq (⟨"TreeTalkModel", "speak", "(IIIIII)V"⟩, 85) := ⟨⟨by decide +kernel, by decide +kernel⟩, List.mem_of_getElem? (i := 1178) (by decide +kernel), List.mem_of_getElem? (i := 1746) (by decide +kernel), List.mem_of_getElem? (i := 1747) (by decide +kernel)⟩
theorem lw_p87 : lw_okq (⟨"TreeTalkModel", "isSilent", "(II)Z"⟩, 85) := ⟨⟨by decide +kernel, by decide +kernel⟩, List.mem_of_getElem? (i := 1178) (by decide +kernel), List.mem_of_getElem? (i := 1750) (by decide +kernel), List.mem_of_getElem? (i := 1751) (by decide +kernel)⟩
theorem lw_p88 : lw_okq (⟨"TreeTalkModel", "allBear", "(II)Z"⟩, 85) := ⟨⟨by decide +kernel, by decide +kernel⟩, List.mem_of_getElem? (i := 1178) (by decide +kernel), List.mem_of_getElem? (i := 1754) (by decide +kernel), List.mem_of_getElem? (i := 1755) (by decide +kernel)⟩
theorem lw_p89 : lw_okq (⟨"TreeTalkModel", "wasAs", "(II)Z"⟩, 85) := ⟨⟨by decide +kernel, by decide +kernel⟩, List.mem_of_getElem? (i := 1178) (by decide +kernel), List.mem_of_getElem? (i := 1758) (by decide +kernel), List.mem_of_getElem? (i := 1759) (by decide +kernel)⟩
theorem lw_p90 : lw_okq (⟨"TreeTalkModel", "layLosses", "(II)V"⟩, 85) := ⟨⟨by decide +kernel, by decide +kernel⟩, List.mem_of_getElem? (i := 1178) (by decide +kernel), List.mem_of_getElem? (i := 1782) (by decide +kernel), List.mem_of_getElem? (i := 1783) (by decide +kernel)⟩
theorem lw_p91 : lw_okq (⟨"TreeTalkModel", "isOpen", "(III)Z"⟩, 85) := ⟨⟨by decide +kernel, by decide +kernel⟩, List.mem_of_getElem? (i := 1178) (by decide +kernel), List.mem_of_getElem? (i := 1790) (by decide +kernel), List.mem_of_getElem? (i := 1791) (by decide +kernel)⟩
theorem lw_p92 : lw_okq (⟨"TreeTalkModel", "trades", "(III)Z"⟩, 85) := ⟨⟨by decide +kernel, by decide +kernel⟩, List.mem_of_getElem? (i := 1178) (by decide +kernel), List.mem_of_getElem? (i := 1810) (by decide +kernel), List.mem_of_getElem? (i := 1811) (by decide +kernel)⟩
theorem lw_p93 : lw_okq (⟨"TreeTalkModel", "takenBy", "(IIIII)I"⟩, 85) := ⟨⟨by decide +kernel, by decide +kernel⟩, List.mem_of_getElem? (i := 1178) (by decide +kernel), List.mem_of_getElem? (i := 1826) (by decide +kernel), List.mem_of_getElem? (i := 1827) (by decide +kernel)⟩
def lw_privs_6 : List (MethodName × Nat) := [(⟨"TreeTalkModel", "maySpeak", "(IIIII)Z"⟩, 85), (⟨"TreeTalkModel", "trust", "(II)I"⟩, 85), (⟨"TreeTalkModel", "isKept", "(I)Z"⟩, 85), (⟨"TreeTalkModel", "layLook", "(IIIIIIII)V"⟩, 85), (⟨"TreeTalkModel", "heedFor", "(II)I"⟩, 85), (⟨"TreeTalkModel", "plainlyNo", "(IIII)Z"⟩, 85), (⟨"TreeTalkModel", "speak", "(IIIIII)V"⟩, 85), (⟨"TreeTalkModel", "isSilent", "(II)Z"⟩, 85), (⟨"TreeTalkModel", "allBear", "(II)Z"⟩, 85), (⟨"TreeTalkModel", "wasAs", "(II)Z"⟩, 85), (⟨"TreeTalkModel", "layLosses", "(II)V"⟩, 85), (⟨"TreeTalkModel", "isOpen", "(III)Z"⟩, 85), (⟨"TreeTalkModel", "trades", "(III)Z"⟩, 85), (⟨"TreeTalkModel", "takenBy", "(IIIII)I"⟩, 85)]
theorem lw_r6 : ∀ q ∈ lw_privs_6, lw_okq q := List.forall_mem_cons.mpr ⟨lw_p80, List.forall_mem_cons.mpr ⟨lw_p81, List.forall_mem_cons.mpr ⟨lw_p82, List.forall_mem_cons.mpr ⟨lw_p83, List.forall_mem_cons.mpr ⟨lw_p84, List.forall_mem_cons.mpr ⟨lw_p85, List.forall_mem_cons.mpr ⟨lw_p86, List.forall_mem_cons.mpr ⟨lw_p87, List.forall_mem_cons.mpr ⟨lw_p88, List.forall_mem_cons.mpr ⟨lw_p89, List.forall_mem_cons.mpr ⟨lw_p90, List.forall_mem_cons.mpr ⟨lw_p91, List.forall_mem_cons.mpr ⟨lw_p92, List.forall_mem_cons.mpr ⟨lw_p93, fun _ h => absurd h List.not_mem_nil⟩⟩⟩⟩⟩⟩⟩⟩⟩⟩⟩⟩⟩⟩
def lw_privs : List (MethodName × Nat) := lw_privs_1 ++ (lw_privs_2 ++ (lw_privs_3 ++ (lw_privs_4 ++ (lw_privs_5 ++ (lw_privs_6)))))
def lw_tbl : List Cond := k2_sels lw_privs ++ tables_1
theorem lw_privs_ok : ∀ q ∈ lw_privs, lw_okq q := by
  show ∀ q ∈ lw_privs_1 ++ (lw_privs_2 ++ (lw_privs_3 ++ (lw_privs_4 ++ (lw_privs_5 ++ (lw_privs_6))))), lw_okq q
  exact List.forall_mem_append.mpr ⟨lw_r1, List.forall_mem_append.mpr ⟨lw_r2, List.forall_mem_append.mpr ⟨lw_r3, List.forall_mem_append.mpr ⟨lw_r4, List.forall_mem_append.mpr ⟨lw_r5, lw_r6⟩⟩⟩⟩⟩
def RX0 : String := "TreeTalk$Asides"
def TX0 : u_T := fun k => match k with
  | 0 => ("TreeTalk$Asides", "tellers", "[I", true)
  | 1 => ("TreeTalk$Asides", "hearers", "[I", true)
  | 2 => ("TreeTalk$Asides", "in", "[I", true)
  | 3 => ("TreeTalk$Asides", "slots", "[I", true)
  | 4 => ("TreeTalk$Asides", "holds", "[I", true)
  | _ => ("TreeTalk$Asides", "size", "I", false)
def tyX0 : Nat → FieldType := fun k => match k with
  | 0 => .array .int
  | 1 => .array .int
  | 2 => .array .int
  | 3 => .array .int
  | 4 => .array .int
  | _ => .int
abbrev wsX00 : List Cond := u_ws RX0 TX0 6
theorem nmX0 : ∀ a, a < 6 → ∀ b, b < 6 → a ≠ b → (TX0 a).2.1 ≠ (TX0 b).2.1 := by decide +kernel
theorem tyX0_ok : ∀ k, k < 6 → parseFieldDescriptor (TX0 k).2.2.1 = some (tyX0 k) := by decide +kernel
def RX1 : String := "TreeTalk$Circle"
def TX1 : u_T := fun k => match k with
  | 0 => ("TreeTalk$Circle", "ages", "[I", true)
  | 1 => ("TreeTalk$Circle", "heeds", "[[I", true)
  | 2 => ("TreeTalk$Circle", "mindOf", "[LTreeTalk$Text;", true)
  | 3 => ("TreeTalk$Circle", "seats", "[I", true)
  | 4 => ("TreeTalk$Circle", "size", "I", false)
  | 5 => ("TreeTalk$Circle", "sitting", "I", false)
  | _ => ("TreeTalk$Circle", "sitters", "I", false)
def tyX1 : Nat → FieldType := fun k => match k with
  | 0 => .array .int
  | 1 => .array (.array .int)
  | 2 => .array (.object "TreeTalk$Text")
  | 3 => .array .int
  | 4 => .int
  | 5 => .int
  | _ => .int
abbrev wsX10 : List Cond := u_ws RX1 TX1 7
theorem nmX1 : ∀ a, a < 7 → ∀ b, b < 7 → a ≠ b → (TX1 a).2.1 ≠ (TX1 b).2.1 := by decide +kernel
theorem tyX1_ok : ∀ k, k < 7 → parseFieldDescriptor (TX1 k).2.2.1 = some (tyX1 k) := by decide +kernel
def RX2 : String := "TreeTalk$Council"
def TX2 : u_T := fun k => match k with
  | 0 => ("TreeTalk$Council", "circle", "LTreeTalk$Circle;", true)
  | _ => ("TreeTalk$Council", "losses", "[I", true)
def tyX2 : Nat → FieldType := fun k => match k with
  | 0 => .object "TreeTalk$Circle"
  | _ => .array .int
abbrev wsX20 : List Cond := u_ws RX2 TX2 2
theorem nmX2 : ∀ a, a < 2 → ∀ b, b < 2 → a ≠ b → (TX2 a).2.1 ≠ (TX2 b).2.1 := by decide +kernel
theorem tyX2_ok : ∀ k, k < 2 → parseFieldDescriptor (TX2 k).2.2.1 = some (tyX2 k) := by decide +kernel
def RX3 : String := "TreeTalk$Gifts"
def TX3 : u_T := fun k => match k with
  | 0 => ("TreeTalk$Gifts", "circle", "LTreeTalk$Circle;", true)
  | 1 => ("TreeTalk$Gifts", "whose", "[I", true)
  | 2 => ("TreeTalk$Gifts", "in", "[I", true)
  | 3 => ("TreeTalk$Gifts", "slots", "[I", true)
  | 4 => ("TreeTalk$Gifts", "from", "[I", true)
  | 5 => ("TreeTalk$Gifts", "had", "[I", true)
  | 6 => ("TreeTalk$Gifts", "firstSets", "[I", true)
  | 7 => ("TreeTalk$Gifts", "secondSets", "[I", true)
  | 8 => ("TreeTalk$Gifts", "firstCount", "I", false)
  | 9 => ("TreeTalk$Gifts", "secondCount", "I", false)
  | _ => ("TreeTalk$Gifts", "size", "I", false)
def tyX3 : Nat → FieldType := fun k => match k with
  | 0 => .object "TreeTalk$Circle"
  | 1 => .array .int
  | 2 => .array .int
  | 3 => .array .int
  | 4 => .array .int
  | 5 => .array .int
  | 6 => .array .int
  | 7 => .array .int
  | 8 => .int
  | 9 => .int
  | _ => .int
abbrev wsX30 : List Cond := u_ws RX3 TX3 11
theorem nmX3 : ∀ a, a < 11 → ∀ b, b < 11 → a ≠ b → (TX3 a).2.1 ≠ (TX3 b).2.1 := by decide +kernel
theorem tyX3_ok : ∀ k, k < 11 → parseFieldDescriptor (TX3 k).2.2.1 = some (tyX3 k) := by decide +kernel
def RX4 : String := "TreeTalk$Matter"
def TX4 : u_T := fun k => match k with
  | 0 => ("TreeTalk$Matter", "parts", "I", true)
  | 1 => ("TreeTalk$Matter", "ways", "I", true)
  | 2 => ("TreeTalk$Matter", "slotsOf", "[I", true)
  | 3 => ("TreeTalk$Matter", "cannot", "[I", true)
  | 4 => ("TreeTalk$Matter", "would", "[I", true)
  | 5 => ("TreeTalk$Matter", "cares", "[[I", true)
  | 6 => ("TreeTalk$Matter", "clashers", "[I", true)
  | 7 => ("TreeTalk$Matter", "clashing", "[I", true)
  | 8 => ("TreeTalk$Matter", "clashes", "I", false)
  | 9 => ("TreeTalk$Matter", "ground", "I", false)
  | _ => ("TreeTalk$Matter", "law", "LTreeTalk$Text;", false)
def tyX4 : Nat → FieldType := fun k => match k with
  | 0 => .int
  | 1 => .int
  | 2 => .array .int
  | 3 => .array .int
  | 4 => .array .int
  | 5 => .array (.array .int)
  | 6 => .array .int
  | 7 => .array .int
  | 8 => .int
  | 9 => .int
  | _ => .object "TreeTalk$Text"
abbrev wsX40 : List Cond := u_ws RX4 TX4 11
theorem nmX4 : ∀ a, a < 11 → ∀ b, b < 11 → a ≠ b → (TX4 a).2.1 ≠ (TX4 b).2.1 := by decide +kernel
theorem tyX4_ok : ∀ k, k < 11 → parseFieldDescriptor (TX4 k).2.2.1 = some (tyX4 k) := by decide +kernel
def RX5 : String := "TreeTalk$Pledges"
def TX5 : u_T := fun k => match k with
  | 0 => ("TreeTalk$Pledges", "talks", "[LTreeTalk$Talk;", true)
  | 1 => ("TreeTalk$Pledges", "by", "[I", true)
  | 2 => ("TreeTalk$Pledges", "to", "[I", true)
  | 3 => ("TreeTalk$Pledges", "in", "[I", true)
  | 4 => ("TreeTalk$Pledges", "slots", "[I", true)
  | _ => ("TreeTalk$Pledges", "size", "I", false)
def tyX5 : Nat → FieldType := fun k => match k with
  | 0 => .array (.object "TreeTalk$Talk")
  | 1 => .array .int
  | 2 => .array .int
  | 3 => .array .int
  | 4 => .array .int
  | _ => .int
abbrev wsX50 : List Cond := u_ws RX5 TX5 6
theorem nmX5 : ∀ a, a < 6 → ∀ b, b < 6 → a ≠ b → (TX5 a).2.1 ≠ (TX5 b).2.1 := by decide +kernel
theorem tyX5_ok : ∀ k, k < 6 → parseFieldDescriptor (TX5 k).2.2.1 = some (tyX5 k) := by decide +kernel
def RX6 : String := "TreeTalk$Reader"
def TX6 : u_T := fun k => match k with
  | 0 => ("TreeTalk$Reader", "tape", "LTreeTalk$Tape;", true)
  | 1 => ("TreeTalk$Reader", "code", "[I", true)
  | 2 => ("TreeTalk$Reader", "clauses", "[I", true)
  | 3 => ("TreeTalk$Reader", "labels", "Ljava/lang/String;", false)
  | 4 => ("TreeTalk$Reader", "letters", "Ljava/lang/String;", false)
  | 5 => ("TreeTalk$Reader", "at", "I", false)
  | 6 => ("TreeTalk$Reader", "codeSize", "I", false)
  | _ => ("TreeTalk$Reader", "clausesSize", "I", false)
def tyX6 : Nat → FieldType := fun k => match k with
  | 0 => .object "TreeTalk$Tape"
  | 1 => .array .int
  | 2 => .array .int
  | 3 => .object "java/lang/String"
  | 4 => .object "java/lang/String"
  | 5 => .int
  | 6 => .int
  | _ => .int
abbrev wsX60 : List Cond := u_ws RX6 TX6 8
theorem nmX6 : ∀ a, a < 8 → ∀ b, b < 8 → a ≠ b → (TX6 a).2.1 ≠ (TX6 b).2.1 := by decide +kernel
theorem tyX6_ok : ∀ k, k < 8 → parseFieldDescriptor (TX6 k).2.2.1 = some (tyX6 k) := by decide +kernel
def RX7 : String := "TreeTalk$Scale"
def TX7 : u_T := fun k => match k with
  | 0 => ("TreeTalk$Scale", "letters", "[I", true)
  | _ => ("TreeTalk$Scale", "stack", "[I", true)
def tyX7 : Nat → FieldType := fun k => match k with
  | 0 => .array .int
  | _ => .array .int
abbrev wsX70 : List Cond := u_ws RX7 TX7 2
theorem nmX7 : ∀ a, a < 2 → ∀ b, b < 2 → a ≠ b → (TX7 a).2.1 ≠ (TX7 b).2.1 := by decide +kernel
theorem tyX7_ok : ∀ k, k < 2 → parseFieldDescriptor (TX7 k).2.2.1 = some (tyX7 k) := by decide +kernel
def RX8 : String := "TreeTalk$Talk"
def TX8 : u_T := fun k => match k with
  | 0 => ("TreeTalk$Talk", "circle", "LTreeTalk$Circle;", true)
  | 1 => ("TreeTalk$Talk", "minds", "[LTreeTalk$Text;", true)
  | 2 => ("TreeTalk$Talk", "scale", "LTreeTalk$Scale;", true)
  | 3 => ("TreeTalk$Talk", "matter", "LTreeTalk$Matter;", false)
  | 4 => ("TreeTalk$Talk", "gains", "[I", true)
  | 5 => ("TreeTalk$Talk", "words", "[I", true)
  | 6 => ("TreeTalk$Talk", "spokenBy", "[I", true)
  | 7 => ("TreeTalk$Talk", "saidFor", "[I", true)
  | 8 => ("TreeTalk$Talk", "saidNo", "[I", true)
  | 9 => ("TreeTalk$Talk", "groundAfter", "[I", true)
  | 10 => ("TreeTalk$Talk", "newestAfter", "[I", true)
  | 11 => ("TreeTalk$Talk", "ending", "I", false)
  | 12 => ("TreeTalk$Talk", "day", "I", false)
  | 13 => ("TreeTalk$Talk", "ground", "I", false)
  | 14 => ("TreeTalk$Talk", "spoken", "I", false)
  | 15 => ("TreeTalk$Talk", "spokenToday", "I", false)
  | 16 => ("TreeTalk$Talk", "newest", "I", false)
  | 17 => ("TreeTalk$Talk", "watched", "I", false)
  | _ => ("TreeTalk$Talk", "suspects", "I", false)
def tyX8 : Nat → FieldType := fun k => match k with
  | 0 => .object "TreeTalk$Circle"
  | 1 => .array (.object "TreeTalk$Text")
  | 2 => .object "TreeTalk$Scale"
  | 3 => .object "TreeTalk$Matter"
  | 4 => .array .int
  | 5 => .array .int
  | 6 => .array .int
  | 7 => .array .int
  | 8 => .array .int
  | 9 => .array .int
  | 10 => .array .int
  | 11 => .int
  | 12 => .int
  | 13 => .int
  | 14 => .int
  | 15 => .int
  | 16 => .int
  | 17 => .int
  | _ => .int
abbrev wsX80 : List Cond := u_ws RX8 TX8 19
theorem nmX8 : ∀ a, a < 19 → ∀ b, b < 19 → a ≠ b → (TX8 a).2.1 ≠ (TX8 b).2.1 := by decide +kernel
theorem tyX8_ok : ∀ k, k < 19 → parseFieldDescriptor (TX8 k).2.2.1 = some (tyX8 k) := by decide +kernel
def RX9 : String := "TreeTalk$Tape"
def TX9 : u_T := fun k => match k with
  | 0 => ("TreeTalk$Tape", "bytes", "[I", true)
  | _ => ("TreeTalk$Tape", "size", "I", false)
def tyX9 : Nat → FieldType := fun k => match k with
  | 0 => .array .int
  | _ => .int
abbrev wsX90 : List Cond := u_ws RX9 TX9 2
theorem nmX9 : ∀ a, a < 2 → ∀ b, b < 2 → a ≠ b → (TX9 a).2.1 ≠ (TX9 b).2.1 := by decide +kernel
theorem tyX9_ok : ∀ k, k < 2 → parseFieldDescriptor (TX9 k).2.2.1 = some (tyX9 k) := by decide +kernel
def RX10 : String := "TreeTalk$Text"
def TX10 : u_T := fun k => match k with
  | 0 => ("TreeTalk$Text", "code", "[I", true)
  | _ => ("TreeTalk$Text", "clauses", "[I", true)
def tyX10 : Nat → FieldType := fun k => match k with
  | 0 => .array .int
  | _ => .array .int
abbrev wsX100 : List Cond := u_ws RX10 TX10 2
theorem nmX10 : ∀ a, a < 2 → ∀ b, b < 2 → a ≠ b → (TX10 a).2.1 ≠ (TX10 b).2.1 := by decide +kernel
theorem tyX10_ok : ∀ k, k < 2 → parseFieldDescriptor (TX10 k).2.2.1 = some (tyX10 k) := by decide +kernel
def RX11 : String := "TreeTalk"
def TX11 : u_T := fun k => match k with
  | 0 => ("TreeTalk", "circle", "LTreeTalk$Circle;", true)
  | 1 => ("TreeTalk", "matters", "[LTreeTalk$Matter;", true)
  | 2 => ("TreeTalk", "tape", "LTreeTalk$Tape;", true)
  | 3 => ("TreeTalk", "reader", "LTreeTalk$Reader;", true)
  | 4 => ("TreeTalk", "lawTexts", "[LTreeTalk$Text;", true)
  | 5 => ("TreeTalk", "mindTexts", "[LTreeTalk$Text;", true)
  | 6 => ("TreeTalk", "scale", "LTreeTalk$Scale;", true)
  | 7 => ("TreeTalk", "talks", "[LTreeTalk$Talk;", true)
  | 8 => ("TreeTalk", "trial", "LTreeTalk$Talk;", true)
  | 9 => ("TreeTalk", "pledges", "LTreeTalk$Pledges;", true)
  | 10 => ("TreeTalk", "council", "LTreeTalk$Council;", true)
  | 11 => ("TreeTalk", "gifts", "LTreeTalk$Gifts;", true)
  | 12 => ("TreeTalk", "asides", "LTreeTalk$Asides;", true)
  | 13 => ("TreeTalk", "matterCount", "I", false)
  | 14 => ("TreeTalk", "clashCount", "I", false)
  | 15 => ("TreeTalk", "lawCount", "I", false)
  | 16 => ("TreeTalk", "mindCount", "I", false)
  | _ => ("TreeTalk", "settledCount", "I", false)
def tyX11 : Nat → FieldType := fun k => match k with
  | 0 => .object "TreeTalk$Circle"
  | 1 => .array (.object "TreeTalk$Matter")
  | 2 => .object "TreeTalk$Tape"
  | 3 => .object "TreeTalk$Reader"
  | 4 => .array (.object "TreeTalk$Text")
  | 5 => .array (.object "TreeTalk$Text")
  | 6 => .object "TreeTalk$Scale"
  | 7 => .array (.object "TreeTalk$Talk")
  | 8 => .object "TreeTalk$Talk"
  | 9 => .object "TreeTalk$Pledges"
  | 10 => .object "TreeTalk$Council"
  | 11 => .object "TreeTalk$Gifts"
  | 12 => .object "TreeTalk$Asides"
  | 13 => .int
  | 14 => .int
  | 15 => .int
  | 16 => .int
  | _ => .int
abbrev wsX110 : List Cond := u_ws RX11 TX11 18
theorem nmX11 : ∀ a, a < 18 → ∀ b, b < 18 → a ≠ b → (TX11 a).2.1 ≠ (TX11 b).2.1 := by decide +kernel
theorem tyX11_ok : ∀ k, k < 18 → parseFieldDescriptor (TX11 k).2.2.1 = some (tyX11 k) := by decide +kernel
def RX12 : String := "TreeTalkModel"
def TX12 : u_T := fun k => match k with
  | 0 => ("TreeTalkModel", "thrown", "I", false)
  | 1 => ("TreeTalkModel", "age", "[I", true)
  | 2 => ("TreeTalkModel", "heed", "[I", true)
  | 3 => ("TreeTalkModel", "seat", "[I", true)
  | 4 => ("TreeTalkModel", "isLeft", "[Z", true)
  | 5 => ("TreeTalkModel", "parts", "[I", true)
  | 6 => ("TreeTalkModel", "ways", "[I", true)
  | 7 => ("TreeTalkModel", "hold", "[I", true)
  | 8 => ("TreeTalkModel", "care", "[I", true)
  | 9 => ("TreeTalkModel", "lawOf", "[I", true)
  | 10 => ("TreeTalkModel", "groundOf", "[I", true)
  | 11 => ("TreeTalkModel", "mindOf", "[I", true)
  | 12 => ("TreeTalkModel", "clashElder", "[I", true)
  | 13 => ("TreeTalkModel", "clashMatter", "[I", true)
  | 14 => ("TreeTalkModel", "clashPart", "[I", true)
  | 15 => ("TreeTalkModel", "clashWay", "[I", true)
  | 16 => ("TreeTalkModel", "clashOther", "[I", true)
  | 17 => ("TreeTalkModel", "clashIts", "[I", true)
  | 18 => ("TreeTalkModel", "elders", "I", false)
  | 19 => ("TreeTalkModel", "matters", "I", false)
  | 20 => ("TreeTalkModel", "clashes", "I", false)
  | 21 => ("TreeTalkModel", "seats", "I", false)
  | 22 => ("TreeTalkModel", "givenNow", "I", false)
  | 23 => ("TreeTalkModel", "tape", "[B", true)
  | 24 => ("TreeTalkModel", "texts", "[B", true)
  | 25 => ("TreeTalkModel", "textLong", "[I", true)
  | 26 => ("TreeTalkModel", "letters", "[I", true)
  | 27 => ("TreeTalkModel", "text", "[B", false)
  | 28 => ("TreeTalkModel", "length", "I", false)
  | 29 => ("TreeTalkModel", "laws", "I", false)
  | 30 => ("TreeTalkModel", "minds", "I", false)
  | 31 => ("TreeTalkModel", "begins", "I", false)
  | 32 => ("TreeTalkModel", "ends", "I", false)
  | 33 => ("TreeTalkModel", "at", "I", false)
  | 34 => ("TreeTalkModel", "fault", "I", false)
  | 35 => ("TreeTalkModel", "deep", "I", false)
  | 36 => ("TreeTalkModel", "label", "I", false)
  | 37 => ("TreeTalkModel", "found", "I", false)
  | 38 => ("TreeTalkModel", "labels", "Ljava/lang/String;", false)
  | 39 => ("TreeTalkModel", "allowed", "Ljava/lang/String;", false)
  | 40 => ("TreeTalkModel", "hasFound", "Z", false)
  | 41 => ("TreeTalkModel", "wordWho", "[I", true)
  | 42 => ("TreeTalkModel", "wordDay", "[I", true)
  | 43 => ("TreeTalkModel", "wordPart", "[I", true)
  | 44 => ("TreeTalkModel", "wordNo", "[I", true)
  | 45 => ("TreeTalkModel", "wordFor", "[I", true)
  | 46 => ("TreeTalkModel", "wordGround", "[I", true)
  | 47 => ("TreeTalkModel", "saidFor", "[I", true)
  | 48 => ("TreeTalkModel", "saidNo", "[I", true)
  | 49 => ("TreeTalkModel", "spoke", "[I", true)
  | 50 => ("TreeTalkModel", "dayGround", "[I", true)
  | 51 => ("TreeTalkModel", "dayFor", "[I", true)
  | 52 => ("TreeTalkModel", "dayNo", "[I", true)
  | 53 => ("TreeTalkModel", "words", "I", false)
  | 54 => ("TreeTalkModel", "talkEnd", "I", false)
  | 55 => ("TreeTalkModel", "talkDay", "I", false)
  | 56 => ("TreeTalkModel", "talkGround", "I", false)
  | 57 => ("TreeTalkModel", "endOf", "[I", true)
  | 58 => ("TreeTalkModel", "restOf", "[I", true)
  | 59 => ("TreeTalkModel", "looks", "[I", true)
  | 60 => ("TreeTalkModel", "lookMany", "I", false)
  | 61 => ("TreeTalkModel", "watched", "I", false)
  | 62 => ("TreeTalkModel", "promiseOf", "[I", true)
  | 63 => ("TreeTalkModel", "promiseTo", "[I", true)
  | 64 => ("TreeTalkModel", "promiseMatter", "[I", true)
  | 65 => ("TreeTalkModel", "promisePart", "[I", true)
  | 66 => ("TreeTalkModel", "promiseWay", "[I", true)
  | 67 => ("TreeTalkModel", "promises", "I", false)
  | 68 => ("TreeTalkModel", "losses", "[I", true)
  | 69 => ("TreeTalkModel", "bestLosses", "[I", true)
  | 70 => ("TreeTalkModel", "giftElder", "[I", true)
  | 71 => ("TreeTalkModel", "giftMatter", "[I", true)
  | 72 => ("TreeTalkModel", "giftPart", "[I", true)
  | 73 => ("TreeTalkModel", "giftWay", "[I", true)
  | 74 => ("TreeTalkModel", "giftOther", "[I", true)
  | 75 => ("TreeTalkModel", "giftIts", "[I", true)
  | 76 => ("TreeTalkModel", "giftHad", "[I", true)
  | 77 => ("TreeTalkModel", "gifts", "I", false)
  | 78 => ("TreeTalkModel", "asideOf", "[I", true)
  | 79 => ("TreeTalkModel", "asideTo", "[I", true)
  | 80 => ("TreeTalkModel", "asideMatter", "[I", true)
  | 81 => ("TreeTalkModel", "asidePart", "[I", true)
  | 82 => ("TreeTalkModel", "asideWay", "[I", true)
  | 83 => ("TreeTalkModel", "asideCan", "[Z", true)
  | _ => ("TreeTalkModel", "asides", "I", false)
def tyX12 : Nat → FieldType := fun k => match k with
  | 0 => .int
  | 1 => .array .int
  | 2 => .array .int
  | 3 => .array .int
  | 4 => .array .boolean
  | 5 => .array .int
  | 6 => .array .int
  | 7 => .array .int
  | 8 => .array .int
  | 9 => .array .int
  | 10 => .array .int
  | 11 => .array .int
  | 12 => .array .int
  | 13 => .array .int
  | 14 => .array .int
  | 15 => .array .int
  | 16 => .array .int
  | 17 => .array .int
  | 18 => .int
  | 19 => .int
  | 20 => .int
  | 21 => .int
  | 22 => .int
  | 23 => .array .byte
  | 24 => .array .byte
  | 25 => .array .int
  | 26 => .array .int
  | 27 => .array .byte
  | 28 => .int
  | 29 => .int
  | 30 => .int
  | 31 => .int
  | 32 => .int
  | 33 => .int
  | 34 => .int
  | 35 => .int
  | 36 => .int
  | 37 => .int
  | 38 => .object "java/lang/String"
  | 39 => .object "java/lang/String"
  | 40 => .boolean
  | 41 => .array .int
  | 42 => .array .int
  | 43 => .array .int
  | 44 => .array .int
  | 45 => .array .int
  | 46 => .array .int
  | 47 => .array .int
  | 48 => .array .int
  | 49 => .array .int
  | 50 => .array .int
  | 51 => .array .int
  | 52 => .array .int
  | 53 => .int
  | 54 => .int
  | 55 => .int
  | 56 => .int
  | 57 => .array .int
  | 58 => .array .int
  | 59 => .array .int
  | 60 => .int
  | 61 => .int
  | 62 => .array .int
  | 63 => .array .int
  | 64 => .array .int
  | 65 => .array .int
  | 66 => .array .int
  | 67 => .int
  | 68 => .array .int
  | 69 => .array .int
  | 70 => .array .int
  | 71 => .array .int
  | 72 => .array .int
  | 73 => .array .int
  | 74 => .array .int
  | 75 => .array .int
  | 76 => .array .int
  | 77 => .int
  | 78 => .array .int
  | 79 => .array .int
  | 80 => .array .int
  | 81 => .array .int
  | 82 => .array .int
  | 83 => .array .boolean
  | _ => .int
abbrev wsX120 : List Cond := u_ws RX12 TX12 85
theorem nmX12 : ∀ a, a < 85 → ∀ b, b < 85 → a ≠ b → (TX12 a).2.1 ≠ (TX12 b).2.1 := by decide +kernel
theorem tyX12_ok : ∀ k, k < 85 → parseFieldDescriptor (TX12 k).2.2.1 = some (tyX12 k) := by decide +kernel
abbrev vwCl : List vw_C := [(RX0, TX0, 6), (RX1, TX1, 7), (RX2, TX2, 2), (RX3, TX3, 11), (RX4, TX4, 11), (RX5, TX5, 6), (RX6, TX6, 8), (RX7, TX7, 2), (RX8, TX8, 19), (RX9, TX9, 2), (RX10, TX10, 2), (RX11, TX11, 18), (RX12, TX12, 85)]
