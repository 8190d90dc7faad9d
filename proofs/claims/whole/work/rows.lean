section
-- ===== PART A: goes FIRST, ahead of the names: the tables' words, and 'selects' of the private methods out of them =====
/-- a private method of a class that the tables say can be made, by its rows of tables_1 -/
def lw_okq (q : MethodName × Nat) : Prop := (q.1.cls ≠ "java/lang/invoke/MethodHandle" ∧ q.1.cls ≠ "java/lang/invoke/VarHandle") ∧ Cond.instantiable q.1.cls q.2 ∈ tables_1 ∧ Cond.privateMethod q.1 ∈ tables_1 ∧ Cond.instanceMethod q.1 ∈ tables_1
theorem lw_p0 : lw_okq (⟨"ScoreRoads", "knowRoad", "()V"⟩, 7) := ⟨⟨by decide +kernel, by decide +kernel⟩, List.mem_of_getElem? (i := 21) (by decide +kernel), List.mem_of_getElem? (i := 214) (by decide +kernel), List.mem_of_getElem? (i := 215) (by decide +kernel)⟩
theorem lw_p1 : lw_okq (⟨"ScoreRoads$Repeats", "gatherEnds", "(LScoreRoads$Page;)V"⟩, 4) := ⟨⟨by decide +kernel, by decide +kernel⟩, List.mem_of_getElem? (i := 72) (by decide +kernel), List.mem_of_getElem? (i := 222) (by decide +kernel), List.mem_of_getElem? (i := 223) (by decide +kernel)⟩
theorem lw_p2 : lw_okq (⟨"ScoreRoads$Repeats", "begin", "(LScoreRoads$Page;II)LScoreRoads$Repeat;"⟩, 4) := ⟨⟨by decide +kernel, by decide +kernel⟩, List.mem_of_getElem? (i := 72) (by decide +kernel), List.mem_of_getElem? (i := 231) (by decide +kernel), List.mem_of_getElem? (i := 232) (by decide +kernel)⟩
theorem lw_p3 : lw_okq (⟨"ScoreRoads$Repeats", "gatherEndings", "(LScoreRoads$Page;LScoreRoads$Repeat;)V"⟩, 4) := ⟨⟨by decide +kernel, by decide +kernel⟩, List.mem_of_getElem? (i := 72) (by decide +kernel), List.mem_of_getElem? (i := 249) (by decide +kernel), List.mem_of_getElem? (i := 250) (by decide +kernel)⟩
theorem lw_p4 : lw_okq (⟨"ScoreRoads$Repeats", "takeEnding", "(LScoreRoads$Page;LScoreRoads$Repeat;I)V"⟩, 4) := ⟨⟨by decide +kernel, by decide +kernel⟩, List.mem_of_getElem? (i := 72) (by decide +kernel), List.mem_of_getElem? (i := 253) (by decide +kernel), List.mem_of_getElem? (i := 254) (by decide +kernel)⟩
theorem lw_p5 : lw_okq (⟨"ScoreRoads$Road", "insteadOf", "(ILScoreRoads$Page;LScoreRoads$Repeats;)I"⟩, 6) := ⟨⟨by decide +kernel, by decide +kernel⟩, List.mem_of_getElem? (i := 132) (by decide +kernel), List.mem_of_getElem? (i := 332) (by decide +kernel), List.mem_of_getElem? (i := 333) (by decide +kernel)⟩
theorem lw_p6 : lw_okq (⟨"ScoreRoads$Road", "isToComeAgain", "(ILScoreRoads$Repeats;)Z"⟩, 6) := ⟨⟨by decide +kernel, by decide +kernel⟩, List.mem_of_getElem? (i := 132) (by decide +kernel), List.mem_of_getElem? (i := 338) (by decide +kernel), List.mem_of_getElem? (i := 339) (by decide +kernel)⟩
theorem lw_p7 : lw_okq (⟨"ScoreRoads$Road", "behind", "(IZLScoreRoads$Page;LScoreRoads$Repeats;)I"⟩, 6) := ⟨⟨by decide +kernel, by decide +kernel⟩, List.mem_of_getElem? (i := 132) (by decide +kernel), List.mem_of_getElem? (i := 346) (by decide +kernel), List.mem_of_getElem? (i := 347) (by decide +kernel)⟩
theorem lw_p8 : lw_okq (⟨"ScoreRoads$Road", "jumpFrom", "(ILScoreRoads$Page;LScoreRoads$Repeats;)I"⟩, 6) := ⟨⟨by decide +kernel, by decide +kernel⟩, List.mem_of_getElem? (i := 132) (by decide +kernel), List.mem_of_getElem? (i := 353) (by decide +kernel), List.mem_of_getElem? (i := 354) (by decide +kernel)⟩
theorem lw_p9 : lw_okq (⟨"java/lang/Throwable", "fillInStackTrace", "(I)Ljava/lang/Throwable;"⟩, 6) := ⟨⟨by decide +kernel, by decide +kernel⟩, List.mem_of_getElem? (i := 425) (by decide +kernel), List.mem_of_getElem? (i := 423) (by decide +kernel), List.mem_of_getElem? (i := 424) (by decide +kernel)⟩
theorem lw_p10 : lw_okq (⟨"ScoreRoads", "needRoad", "()V"⟩, 7) := ⟨⟨by decide +kernel, by decide +kernel⟩, List.mem_of_getElem? (i := 21) (by decide +kernel), List.mem_of_getElem? (i := 610) (by decide +kernel), List.mem_of_getElem? (i := 611) (by decide +kernel)⟩
theorem lw_p11 : lw_okq (⟨"ScoreRoads$Sounding", "gather", "(IILScoreRoads$Page;LScoreRoads$Notes;LScoreRoads$Road;)V"⟩, 4) := ⟨⟨by decide +kernel, by decide +kernel⟩, List.mem_of_getElem? (i := 159) (by decide +kernel), List.mem_of_getElem? (i := 703) (by decide +kernel), List.mem_of_getElem? (i := 704) (by decide +kernel)⟩
theorem lw_p12 : lw_okq (⟨"ScoreRoads$Sounding", "firstOf", "(I)LScoreRoads$Note;"⟩, 4) := ⟨⟨by decide +kernel, by decide +kernel⟩, List.mem_of_getElem? (i := 159) (by decide +kernel), List.mem_of_getElem? (i := 736) (by decide +kernel), List.mem_of_getElem? (i := 737) (by decide +kernel)⟩
theorem lw_p13 : lw_okq (⟨"ScoreRoads", "goesOnResting", "(II)Z"⟩, 7) := ⟨⟨by decide +kernel, by decide +kernel⟩, List.mem_of_getElem? (i := 21) (by decide +kernel), List.mem_of_getElem? (i := 768) (by decide +kernel), List.mem_of_getElem? (i := 769) (by decide +kernel)⟩
theorem lw_p14 : lw_okq (⟨"ScoreRoads$Page", "opensCut", "(I)Z"⟩, 4) := ⟨⟨by decide +kernel, by decide +kernel⟩, List.mem_of_getElem? (i := 29) (by decide +kernel), List.mem_of_getElem? (i := 776) (by decide +kernel), List.mem_of_getElem? (i := 777) (by decide +kernel)⟩
theorem lw_p15 : lw_okq (⟨"ScoreRoads$Page", "closesCut", "(I)Z"⟩, 4) := ⟨⟨by decide +kernel, by decide +kernel⟩, List.mem_of_getElem? (i := 29) (by decide +kernel), List.mem_of_getElem? (i := 781) (by decide +kernel), List.mem_of_getElem? (i := 782) (by decide +kernel)⟩
def lw_privs_1 : List (MethodName × Nat) := [(⟨"ScoreRoads", "knowRoad", "()V"⟩, 7), (⟨"ScoreRoads$Repeats", "gatherEnds", "(LScoreRoads$Page;)V"⟩, 4), (⟨"ScoreRoads$Repeats", "begin", "(LScoreRoads$Page;II)LScoreRoads$Repeat;"⟩, 4), (⟨"ScoreRoads$Repeats", "gatherEndings", "(LScoreRoads$Page;LScoreRoads$Repeat;)V"⟩, 4), (⟨"ScoreRoads$Repeats", "takeEnding", "(LScoreRoads$Page;LScoreRoads$Repeat;I)V"⟩, 4), (⟨"ScoreRoads$Road", "insteadOf", "(ILScoreRoads$Page;LScoreRoads$Repeats;)I"⟩, 6), (⟨"ScoreRoads$Road", "isToComeAgain", "(ILScoreRoads$Repeats;)Z"⟩, 6), (⟨"ScoreRoads$Road", "behind", "(IZLScoreRoads$Page;LScoreRoads$Repeats;)I"⟩, 6), (⟨"ScoreRoads$Road", "jumpFrom", "(ILScoreRoads$Page;LScoreRoads$Repeats;)I"⟩, 6), (⟨"java/lang/Throwable", "fillInStackTrace", "(I)Ljava/lang/Throwable;"⟩, 6), (⟨"ScoreRoads", "needRoad", "()V"⟩, 7), (⟨"ScoreRoads$Sounding", "gather", "(IILScoreRoads$Page;LScoreRoads$Notes;LScoreRoads$Road;)V"⟩, 4), (⟨"ScoreRoads$Sounding", "firstOf", "(I)LScoreRoads$Note;"⟩, 4), (⟨"ScoreRoads", "goesOnResting", "(II)Z"⟩, 7), (⟨"ScoreRoads$Page", "opensCut", "(I)Z"⟩, 4), (⟨"ScoreRoads$Page", "closesCut", "(I)Z"⟩, 4)]
theorem lw_r1 : ∀ q ∈ lw_privs_1, lw_okq q := List.forall_mem_cons.mpr ⟨lw_p0, List.forall_mem_cons.mpr ⟨lw_p1, List.forall_mem_cons.mpr ⟨lw_p2, List.forall_mem_cons.mpr ⟨lw_p3, List.forall_mem_cons.mpr ⟨lw_p4, List.forall_mem_cons.mpr ⟨lw_p5, List.forall_mem_cons.mpr ⟨lw_p6, List.forall_mem_cons.mpr ⟨lw_p7, List.forall_mem_cons.mpr ⟨lw_p8, List.forall_mem_cons.mpr ⟨lw_p9, List.forall_mem_cons.mpr ⟨lw_p10, List.forall_mem_cons.mpr ⟨lw_p11, List.forall_mem_cons.mpr ⟨lw_p12, List.forall_mem_cons.mpr ⟨lw_p13, List.forall_mem_cons.mpr ⟨lw_p14, List.forall_mem_cons.mpr ⟨lw_p15, fun _ h => absurd h List.not_mem_nil⟩⟩⟩⟩⟩⟩⟩⟩⟩⟩⟩⟩⟩⟩⟩⟩
theorem lw_p16 : lw_okq (⟨"ScoreRoads", "restBars", "(II)I"⟩, 7) := ⟨⟨by decide +kernel, by decide +kernel⟩, List.mem_of_getElem? (i := 21) (by decide +kernel), List.mem_of_getElem? (i := 786) (by decide +kernel), List.mem_of_getElem? (i := 787) (by decide +kernel)⟩
theorem lw_p17 : lw_okq (⟨"ScoreRoadsModel", "isBar", "(I)Z"⟩, 29) := ⟨⟨by decide +kernel, by decide +kernel⟩, List.mem_of_getElem? (i := 790) (by decide +kernel), List.mem_of_getElem? (i := 893) (by decide +kernel), List.mem_of_getElem? (i := 894) (by decide +kernel)⟩
theorem lw_p18 : lw_okq (⟨"ScoreRoadsModel", "refuse", "(I)I"⟩, 29) := ⟨⟨by decide +kernel, by decide +kernel⟩, List.mem_of_getElem? (i := 790) (by decide +kernel), List.mem_of_getElem? (i := 915) (by decide +kernel), List.mem_of_getElem? (i := 916) (by decide +kernel)⟩
theorem lw_p19 : lw_okq (⟨"ScoreRoadsModel", "findFault", "()I"⟩, 29) := ⟨⟨by decide +kernel, by decide +kernel⟩, List.mem_of_getElem? (i := 790) (by decide +kernel), List.mem_of_getElem? (i := 928) (by decide +kernel), List.mem_of_getElem? (i := 929) (by decide +kernel)⟩
theorem lw_p20 : lw_okq (⟨"ScoreRoadsModel", "findRepeats", "()V"⟩, 29) := ⟨⟨by decide +kernel, by decide +kernel⟩, List.mem_of_getElem? (i := 790) (by decide +kernel), List.mem_of_getElem? (i := 932) (by decide +kernel), List.mem_of_getElem? (i := 933) (by decide +kernel)⟩
theorem lw_p21 : lw_okq (⟨"ScoreRoadsModel", "has", "(II)Z"⟩, 29) := ⟨⟨by decide +kernel, by decide +kernel⟩, List.mem_of_getElem? (i := 790) (by decide +kernel), List.mem_of_getElem? (i := 936) (by decide +kernel), List.mem_of_getElem? (i := 937) (by decide +kernel)⟩
theorem lw_p22 : lw_okq (⟨"ScoreRoadsModel", "signOf", "(II)I"⟩, 29) := ⟨⟨by decide +kernel, by decide +kernel⟩, List.mem_of_getElem? (i := 790) (by decide +kernel), List.mem_of_getElem? (i := 940) (by decide +kernel), List.mem_of_getElem? (i := 941) (by decide +kernel)⟩
theorem lw_p23 : lw_okq (⟨"ScoreRoadsModel", "lastStart", "(II)I"⟩, 29) := ⟨⟨by decide +kernel, by decide +kernel⟩, List.mem_of_getElem? (i := 790) (by decide +kernel), List.mem_of_getElem? (i := 944) (by decide +kernel), List.mem_of_getElem? (i := 945) (by decide +kernel)⟩
theorem lw_p24 : lw_okq (⟨"ScoreRoadsModel", "lowest", "(I)I"⟩, 29) := ⟨⟨by decide +kernel, by decide +kernel⟩, List.mem_of_getElem? (i := 790) (by decide +kernel), List.mem_of_getElem? (i := 948) (by decide +kernel), List.mem_of_getElem? (i := 949) (by decide +kernel)⟩
theorem lw_p25 : lw_okq (⟨"ScoreRoadsModel", "withEnding", "(I)I"⟩, 29) := ⟨⟨by decide +kernel, by decide +kernel⟩, List.mem_of_getElem? (i := 790) (by decide +kernel), List.mem_of_getElem? (i := 955) (by decide +kernel), List.mem_of_getElem? (i := 956) (by decide +kernel)⟩
theorem lw_p26 : lw_okq (⟨"ScoreRoadsModel", "checkStart", "(I)V"⟩, 29) := ⟨⟨by decide +kernel, by decide +kernel⟩, List.mem_of_getElem? (i := 790) (by decide +kernel), List.mem_of_getElem? (i := 959) (by decide +kernel), List.mem_of_getElem? (i := 960) (by decide +kernel)⟩
theorem lw_p27 : lw_okq (⟨"ScoreRoadsModel", "wrong", "(ZII)V"⟩, 29) := ⟨⟨by decide +kernel, by decide +kernel⟩, List.mem_of_getElem? (i := 790) (by decide +kernel), List.mem_of_getElem? (i := 963) (by decide +kernel), List.mem_of_getElem? (i := 964) (by decide +kernel)⟩
theorem lw_p28 : lw_okq (⟨"ScoreRoadsModel", "checkEnding", "(I)V"⟩, 29) := ⟨⟨by decide +kernel, by decide +kernel⟩, List.mem_of_getElem? (i := 790) (by decide +kernel), List.mem_of_getElem? (i := 967) (by decide +kernel), List.mem_of_getElem? (i := 968) (by decide +kernel)⟩
theorem lw_p29 : lw_okq (⟨"ScoreRoadsModel", "isThere", "(III)Z"⟩, 29) := ⟨⟨by decide +kernel, by decide +kernel⟩, List.mem_of_getElem? (i := 790) (by decide +kernel), List.mem_of_getElem? (i := 971) (by decide +kernel), List.mem_of_getElem? (i := 972) (by decide +kernel)⟩
theorem lw_p30 : lw_okq (⟨"ScoreRoadsModel", "checkJump", "(I)V"⟩, 29) := ⟨⟨by decide +kernel, by decide +kernel⟩, List.mem_of_getElem? (i := 790) (by decide +kernel), List.mem_of_getElem? (i := 975) (by decide +kernel), List.mem_of_getElem? (i := 976) (by decide +kernel)⟩
theorem lw_p31 : lw_okq (⟨"ScoreRoadsModel", "firstOf", "(I)I"⟩, 29) := ⟨⟨by decide +kernel, by decide +kernel⟩, List.mem_of_getElem? (i := 790) (by decide +kernel), List.mem_of_getElem? (i := 979) (by decide +kernel), List.mem_of_getElem? (i := 980) (by decide +kernel)⟩
def lw_privs_2 : List (MethodName × Nat) := [(⟨"ScoreRoads", "restBars", "(II)I"⟩, 7), (⟨"ScoreRoadsModel", "isBar", "(I)Z"⟩, 29), (⟨"ScoreRoadsModel", "refuse", "(I)I"⟩, 29), (⟨"ScoreRoadsModel", "findFault", "()I"⟩, 29), (⟨"ScoreRoadsModel", "findRepeats", "()V"⟩, 29), (⟨"ScoreRoadsModel", "has", "(II)Z"⟩, 29), (⟨"ScoreRoadsModel", "signOf", "(II)I"⟩, 29), (⟨"ScoreRoadsModel", "lastStart", "(II)I"⟩, 29), (⟨"ScoreRoadsModel", "lowest", "(I)I"⟩, 29), (⟨"ScoreRoadsModel", "withEnding", "(I)I"⟩, 29), (⟨"ScoreRoadsModel", "checkStart", "(I)V"⟩, 29), (⟨"ScoreRoadsModel", "wrong", "(ZII)V"⟩, 29), (⟨"ScoreRoadsModel", "checkEnding", "(I)V"⟩, 29), (⟨"ScoreRoadsModel", "isThere", "(III)Z"⟩, 29), (⟨"ScoreRoadsModel", "checkJump", "(I)V"⟩, 29), (⟨"ScoreRoadsModel", "firstOf", "(I)I"⟩, 29)]
theorem lw_r2 : ∀ q ∈ lw_privs_2, lw_okq q := List.forall_mem_cons.mpr ⟨lw_p16, List.forall_mem_cons.mpr ⟨lw_p17, List.forall_mem_cons.mpr ⟨lw_p18, List.forall_mem_cons.mpr ⟨lw_p19, List.forall_mem_cons.mpr ⟨lw_p20, List.forall_mem_cons.mpr ⟨lw_p21, List.forall_mem_cons.mpr ⟨lw_p22, List.forall_mem_cons.mpr ⟨lw_p23, List.forall_mem_cons.mpr ⟨lw_p24, List.forall_mem_cons.mpr ⟨lw_p25, List.forall_mem_cons.mpr ⟨lw_p26, List.forall_mem_cons.mpr ⟨lw_p27, List.forall_mem_cons.mpr ⟨lw_p28, List.forall_mem_cons.mpr ⟨lw_p29, List.forall_mem_cons.mpr ⟨lw_p30, List.forall_mem_cons.mpr ⟨lw_p31, fun _ h => absurd h List.not_mem_nil⟩⟩⟩⟩⟩⟩⟩⟩⟩⟩⟩⟩⟩⟩⟩⟩
theorem lw_p32 : lw_okq (⟨"ScoreRoadsModel", "checkRepeat", "(I)V"⟩, 29) := ⟨⟨by decide +kernel, by decide +kernel⟩, List.mem_of_getElem? (i := 790) (by decide +kernel), List.mem_of_getElem? (i := 983) (by decide +kernel), List.mem_of_getElem? (i := 984) (by decide +kernel)⟩
theorem lw_p33 : lw_okq (⟨"ScoreRoadsModel", "highest", "(I)I"⟩, 29) := ⟨⟨by decide +kernel, by decide +kernel⟩, List.mem_of_getElem? (i := 790) (by decide +kernel), List.mem_of_getElem? (i := 987) (by decide +kernel), List.mem_of_getElem? (i := 988) (by decide +kernel)⟩
theorem lw_p34 : lw_okq (⟨"ScoreRoadsModel", "walk", "()Z"⟩, 29) := ⟨⟨by decide +kernel, by decide +kernel⟩, List.mem_of_getElem? (i := 790) (by decide +kernel), List.mem_of_getElem? (i := 995) (by decide +kernel), List.mem_of_getElem? (i := 996) (by decide +kernel)⟩
theorem lw_p35 : lw_okq (⟨"ScoreRoadsModel", "resetPasses", "()V"⟩, 29) := ⟨⟨by decide +kernel, by decide +kernel⟩, List.mem_of_getElem? (i := 790) (by decide +kernel), List.mem_of_getElem? (i := 999) (by decide +kernel), List.mem_of_getElem? (i := 1000) (by decide +kernel)⟩
theorem lw_p36 : lw_okq (⟨"ScoreRoadsModel", "come", "(I)V"⟩, 29) := ⟨⟨by decide +kernel, by decide +kernel⟩, List.mem_of_getElem? (i := 790) (by decide +kernel), List.mem_of_getElem? (i := 1003) (by decide +kernel), List.mem_of_getElem? (i := 1004) (by decide +kernel)⟩
theorem lw_p37 : lw_okq (⟨"ScoreRoadsModel", "takes", "()Z"⟩, 29) := ⟨⟨by decide +kernel, by decide +kernel⟩, List.mem_of_getElem? (i := 790) (by decide +kernel), List.mem_of_getElem? (i := 1007) (by decide +kernel), List.mem_of_getElem? (i := 1008) (by decide +kernel)⟩
theorem lw_p38 : lw_okq (⟨"ScoreRoadsModel", "goOn", "()Z"⟩, 29) := ⟨⟨by decide +kernel, by decide +kernel⟩, List.mem_of_getElem? (i := 790) (by decide +kernel), List.mem_of_getElem? (i := 1011) (by decide +kernel), List.mem_of_getElem? (i := 1012) (by decide +kernel)⟩
theorem lw_p39 : lw_okq (⟨"ScoreRoadsModel", "withEnd", "(I)I"⟩, 29) := ⟨⟨by decide +kernel, by decide +kernel⟩, List.mem_of_getElem? (i := 790) (by decide +kernel), List.mem_of_getElem? (i := 1015) (by decide +kernel), List.mem_of_getElem? (i := 1016) (by decide +kernel)⟩
theorem lw_p40 : lw_okq (⟨"ScoreRoadsModel", "how", "()I"⟩, 29) := ⟨⟨by decide +kernel, by decide +kernel⟩, List.mem_of_getElem? (i := 790) (by decide +kernel), List.mem_of_getElem? (i := 1019) (by decide +kernel), List.mem_of_getElem? (i := 1020) (by decide +kernel)⟩
theorem lw_p41 : lw_okq (⟨"ScoreRoadsModel", "resetJumped", "(I)V"⟩, 29) := ⟨⟨by decide +kernel, by decide +kernel⟩, List.mem_of_getElem? (i := 790) (by decide +kernel), List.mem_of_getElem? (i := 1023) (by decide +kernel), List.mem_of_getElem? (i := 1024) (by decide +kernel)⟩
theorem lw_p42 : lw_okq (⟨"ScoreRoadsModel", "wrongBar", "(II)I"⟩, 29) := ⟨⟨by decide +kernel, by decide +kernel⟩, List.mem_of_getElem? (i := 790) (by decide +kernel), List.mem_of_getElem? (i := 1031) (by decide +kernel), List.mem_of_getElem? (i := 1032) (by decide +kernel)⟩
theorem lw_p43 : lw_okq (⟨"ScoreRoadsModel", "ticksBefore", "(I)J"⟩, 29) := ⟨⟨by decide +kernel, by decide +kernel⟩, List.mem_of_getElem? (i := 790) (by decide +kernel), List.mem_of_getElem? (i := 1047) (by decide +kernel), List.mem_of_getElem? (i := 1048) (by decide +kernel)⟩
theorem lw_p44 : lw_okq (⟨"ScoreRoadsModel", "wrongPart", "(I)I"⟩, 29) := ⟨⟨by decide +kernel, by decide +kernel⟩, List.mem_of_getElem? (i := 790) (by decide +kernel), List.mem_of_getElem? (i := 1059) (by decide +kernel), List.mem_of_getElem? (i := 1060) (by decide +kernel)⟩
theorem lw_p45 : lw_okq (⟨"ScoreRoadsModel", "seek", "(II)I"⟩, 29) := ⟨⟨by decide +kernel, by decide +kernel⟩, List.mem_of_getElem? (i := 790) (by decide +kernel), List.mem_of_getElem? (i := 1063) (by decide +kernel), List.mem_of_getElem? (i := 1064) (by decide +kernel)⟩
theorem lw_p46 : lw_okq (⟨"ScoreRoadsModel", "nextNote", "(III)I"⟩, 29) := ⟨⟨by decide +kernel, by decide +kernel⟩, List.mem_of_getElem? (i := 790) (by decide +kernel), List.mem_of_getElem? (i := 1067) (by decide +kernel), List.mem_of_getElem? (i := 1068) (by decide +kernel)⟩
theorem lw_p47 : lw_okq (⟨"ScoreRoadsModel", "goesOn", "(II)Z"⟩, 29) := ⟨⟨by decide +kernel, by decide +kernel⟩, List.mem_of_getElem? (i := 790) (by decide +kernel), List.mem_of_getElem? (i := 1071) (by decide +kernel), List.mem_of_getElem? (i := 1072) (by decide +kernel)⟩
def lw_privs_3 : List (MethodName × Nat) := [(⟨"ScoreRoadsModel", "checkRepeat", "(I)V"⟩, 29), (⟨"ScoreRoadsModel", "highest", "(I)I"⟩, 29), (⟨"ScoreRoadsModel", "walk", "()Z"⟩, 29), (⟨"ScoreRoadsModel", "resetPasses", "()V"⟩, 29), (⟨"ScoreRoadsModel", "come", "(I)V"⟩, 29), (⟨"ScoreRoadsModel", "takes", "()Z"⟩, 29), (⟨"ScoreRoadsModel", "goOn", "()Z"⟩, 29), (⟨"ScoreRoadsModel", "withEnd", "(I)I"⟩, 29), (⟨"ScoreRoadsModel", "how", "()I"⟩, 29), (⟨"ScoreRoadsModel", "resetJumped", "(I)V"⟩, 29), (⟨"ScoreRoadsModel", "wrongBar", "(II)I"⟩, 29), (⟨"ScoreRoadsModel", "ticksBefore", "(I)J"⟩, 29), (⟨"ScoreRoadsModel", "wrongPart", "(I)I"⟩, 29), (⟨"ScoreRoadsModel", "seek", "(II)I"⟩, 29), (⟨"ScoreRoadsModel", "nextNote", "(III)I"⟩, 29), (⟨"ScoreRoadsModel", "goesOn", "(II)Z"⟩, 29)]
theorem lw_r3 : ∀ q ∈ lw_privs_3, lw_okq q := List.forall_mem_cons.mpr ⟨lw_p32, List.forall_mem_cons.mpr ⟨lw_p33, List.forall_mem_cons.mpr ⟨lw_p34, List.forall_mem_cons.mpr ⟨lw_p35, List.forall_mem_cons.mpr ⟨lw_p36, List.forall_mem_cons.mpr ⟨lw_p37, List.forall_mem_cons.mpr ⟨lw_p38, List.forall_mem_cons.mpr ⟨lw_p39, List.forall_mem_cons.mpr ⟨lw_p40, List.forall_mem_cons.mpr ⟨lw_p41, List.forall_mem_cons.mpr ⟨lw_p42, List.forall_mem_cons.mpr ⟨lw_p43, List.forall_mem_cons.mpr ⟨lw_p44, List.forall_mem_cons.mpr ⟨lw_p45, List.forall_mem_cons.mpr ⟨lw_p46, List.forall_mem_cons.mpr ⟨lw_p47, fun _ h => absurd h List.not_mem_nil⟩⟩⟩⟩⟩⟩⟩⟩⟩⟩⟩⟩⟩⟩⟩⟩
theorem lw_p48 : lw_okq (⟨"ScoreRoadsModel", "reaches", "(I)Z"⟩, 29) := ⟨⟨by decide +kernel, by decide +kernel⟩, List.mem_of_getElem? (i := 790) (by decide +kernel), List.mem_of_getElem? (i := 1075) (by decide +kernel), List.mem_of_getElem? (i := 1076) (by decide +kernel)⟩
theorem lw_p49 : lw_okq (⟨"ScoreRoadsModel", "follow", "(II)V"⟩, 29) := ⟨⟨by decide +kernel, by decide +kernel⟩, List.mem_of_getElem? (i := 790) (by decide +kernel), List.mem_of_getElem? (i := 1079) (by decide +kernel), List.mem_of_getElem? (i := 1080) (by decide +kernel)⟩
theorem lw_p50 : lw_okq (⟨"ScoreRoadsModel", "opening", "(III)I"⟩, 29) := ⟨⟨by decide +kernel, by decide +kernel⟩, List.mem_of_getElem? (i := 790) (by decide +kernel), List.mem_of_getElem? (i := 1083) (by decide +kernel), List.mem_of_getElem? (i := 1084) (by decide +kernel)⟩
theorem lw_p51 : lw_okq (⟨"ScoreRoadsModel", "isRest", "(II)Z"⟩, 29) := ⟨⟨by decide +kernel, by decide +kernel⟩, List.mem_of_getElem? (i := 790) (by decide +kernel), List.mem_of_getElem? (i := 1096) (by decide +kernel), List.mem_of_getElem? (i := 1097) (by decide +kernel)⟩
theorem lw_p52 : lw_okq (⟨"ScoreRoadsModel", "joins", "(II)Z"⟩, 29) := ⟨⟨by decide +kernel, by decide +kernel⟩, List.mem_of_getElem? (i := 790) (by decide +kernel), List.mem_of_getElem? (i := 1100) (by decide +kernel), List.mem_of_getElem? (i := 1101) (by decide +kernel)⟩
def lw_privs_4 : List (MethodName × Nat) := [(⟨"ScoreRoadsModel", "reaches", "(I)Z"⟩, 29), (⟨"ScoreRoadsModel", "follow", "(II)V"⟩, 29), (⟨"ScoreRoadsModel", "opening", "(III)I"⟩, 29), (⟨"ScoreRoadsModel", "isRest", "(II)Z"⟩, 29), (⟨"ScoreRoadsModel", "joins", "(II)Z"⟩, 29)]
theorem lw_r4 : ∀ q ∈ lw_privs_4, lw_okq q := List.forall_mem_cons.mpr ⟨lw_p48, List.forall_mem_cons.mpr ⟨lw_p49, List.forall_mem_cons.mpr ⟨lw_p50, List.forall_mem_cons.mpr ⟨lw_p51, List.forall_mem_cons.mpr ⟨lw_p52, fun _ h => absurd h List.not_mem_nil⟩⟩⟩⟩⟩
def lw_privs : List (MethodName × Nat) := lw_privs_1 ++ (lw_privs_2 ++ (lw_privs_3 ++ (lw_privs_4)))
def lw_tbl : List Cond := k2_sels lw_privs ++ tables_1
theorem lw_privs_ok : ∀ q ∈ lw_privs, lw_okq q := by
  show ∀ q ∈ lw_privs_1 ++ (lw_privs_2 ++ (lw_privs_3 ++ (lw_privs_4))), lw_okq q
  exact List.forall_mem_append.mpr ⟨lw_r1, List.forall_mem_append.mpr ⟨lw_r2, List.forall_mem_append.mpr ⟨lw_r3, lw_r4⟩⟩⟩
end
section
/-! the words, the classes, the methods: by program (wip/gen.py) -/
/-- a method: name, bytes, locals, answer, handlers -/
abbrev rx_T : Type := MethodName × ByteArray × Nat × Option FieldType × List (Nat × Nat × Nat × Nat)
def rx_gd : Cond → Bool
  | .arrayClass _ => true
  | .methodLinkNest .. => true
  | w => w.onTables && w.keepsFace
theorem rx_at {args a' : Array Value} {s U : State} {w : Cond} (hW : s.WarmedH U.vm) (hg : rx_gd w = true) (h : w.before args s = true) : w.before a' U = true := by
  unfold rx_gd at hg
  split at hg
  · exact word_at hW (Or.inr ⟨_, rfl⟩) h
  · exact va_Nw.use rfl (va_Nw.warmM hW (va_Nw.of rfl h))
  · simp only [Bool.and_eq_true] at hg
    exact va_tabs hg.1 (u := s.setVm U.vm) (U := U) rfl (Cond.before_shiftedFace (State.Shifted.of_warmed hW) _ hg.2 h)
def rx_tbl : List Cond := lw_tbl.filter rx_gd
theorem rx_good {w : Cond} (h : w ∈ rx_tbl) : rx_gd w = true := (List.mem_filter.mp h).2
theorem rx_in {w : Cond} (i : Nat) (h : tables_1[i]? = some w) (g : rx_gd w = true) : w ∈ rx_tbl := List.mem_filter.mpr ⟨List.mem_append_right _ (List.mem_of_getElem? h), g⟩
theorem rx_ip {w : Cond} (i : Nat) (h : (k2_sels lw_privs)[i]? = some w) (g : rx_gd w = true) : w ∈ rx_tbl := List.mem_filter.mpr ⟨List.mem_append_left _ (List.mem_of_getElem? h), g⟩
def F_SR : u_T := fun k => match k with
  | 0 => ("ScoreRoads", "page", "LScoreRoads$Page;", true)
  | 1 => ("ScoreRoads", "notes", "LScoreRoads$Notes;", true)
  | 2 => ("ScoreRoads", "repeats", "LScoreRoads$Repeats;", true)
  | 3 => ("ScoreRoads", "road", "LScoreRoads$Road;", true)
  | 4 => ("ScoreRoads", "sounding", "LScoreRoads$Sounding;", true)
  | 5 => ("ScoreRoads", "roadKnown", "Z", false)
  | _ => ("ScoreRoads", "fault", "I", false)
def t_SR : Nat → FieldType := fun k => match k with
  | 0 => .object "ScoreRoads$Page"
  | 1 => .object "ScoreRoads$Notes"
  | 2 => .object "ScoreRoads$Repeats"
  | 3 => .object "ScoreRoads$Road"
  | 4 => .object "ScoreRoads$Sounding"
  | 5 => .boolean
  | _ => .int
theorem n_SR : ∀ a, a < 7 → ∀ b, b < 7 → a ≠ b → (F_SR a).2.1 ≠ (F_SR b).2.1 := by decide +kernel
theorem t_SR_ok : ∀ k, k < 7 → parseFieldDescriptor (F_SR k).2.2.1 = some (t_SR k) := by decide +kernel
def F_Page : u_T := fun k => match k with
  | 0 => ("ScoreRoads$Page", "bars", "I", true)
  | 1 => ("ScoreRoads$Page", "lengths", "[I", true)
  | 2 => ("ScoreRoads$Page", "tempos", "[I", true)
  | _ => ("ScoreRoads$Page", "values", "[I", true)
def t_Page : Nat → FieldType := fun k => match k with
  | 0 => .int
  | 1 => (.array .int)
  | 2 => (.array .int)
  | _ => (.array .int)
theorem n_Page : ∀ a, a < 4 → ∀ b, b < 4 → a ≠ b → (F_Page a).2.1 ≠ (F_Page b).2.1 := by decide +kernel
theorem t_Page_ok : ∀ k, k < 4 → parseFieldDescriptor (F_Page k).2.2.1 = some (t_Page k) := by decide +kernel
def F_Notes : u_T := fun k => match k with
  | 0 => ("ScoreRoads$Notes", "row", "[LScoreRoads$Note;", true)
  | _ => ("ScoreRoads$Notes", "number", "I", false)
def t_Notes : Nat → FieldType := fun k => match k with
  | 0 => (.array (.object "ScoreRoads$Note"))
  | _ => .int
theorem n_Notes : ∀ a, a < 2 → ∀ b, b < 2 → a ≠ b → (F_Notes a).2.1 ≠ (F_Notes b).2.1 := by decide +kernel
theorem t_Notes_ok : ∀ k, k < 2 → parseFieldDescriptor (F_Notes k).2.2.1 = some (t_Notes k) := by decide +kernel
def F_Repeats : u_T := fun k => match k with
  | 0 => ("ScoreRoads$Repeats", "all", "[LScoreRoads$Repeat;", true)
  | 1 => ("ScoreRoads$Repeats", "byEnd", "[LScoreRoads$Repeat;", true)
  | 2 => ("ScoreRoads$Repeats", "byEnding", "[LScoreRoads$Repeat;", true)
  | _ => ("ScoreRoads$Repeats", "number", "I", false)
def t_Repeats : Nat → FieldType := fun k => match k with
  | 0 => (.array (.object "ScoreRoads$Repeat"))
  | 1 => (.array (.object "ScoreRoads$Repeat"))
  | 2 => (.array (.object "ScoreRoads$Repeat"))
  | _ => .int
theorem n_Repeats : ∀ a, a < 4 → ∀ b, b < 4 → a ≠ b → (F_Repeats a).2.1 ≠ (F_Repeats b).2.1 := by decide +kernel
theorem t_Repeats_ok : ∀ k, k < 4 → parseFieldDescriptor (F_Repeats k).2.2.1 = some (t_Repeats k) := by decide +kernel
def F_Repeat : u_T := fun k => match k with
  | 0 => ("ScoreRoads$Repeat", "first", "I", false)
  | 1 => ("ScoreRoads$Repeat", "firstEnd", "I", false)
  | 2 => ("ScoreRoads$Repeat", "lastEnd", "I", false)
  | 3 => ("ScoreRoads$Repeat", "firstEnding", "I", false)
  | 4 => ("ScoreRoads$Repeat", "lastEnding", "I", false)
  | 5 => ("ScoreRoads$Repeat", "count", "I", false)
  | _ => ("ScoreRoads$Repeat", "pass", "I", false)
def t_Repeat : Nat → FieldType := fun k => match k with
  | 0 => .int
  | 1 => .int
  | 2 => .int
  | 3 => .int
  | 4 => .int
  | 5 => .int
  | _ => .int
theorem n_Repeat : ∀ a, a < 7 → ∀ b, b < 7 → a ≠ b → (F_Repeat a).2.1 ≠ (F_Repeat b).2.1 := by decide +kernel
theorem t_Repeat_ok : ∀ k, k < 7 → parseFieldDescriptor (F_Repeat k).2.2.1 = some (t_Repeat k) := by decide +kernel
def F_Road : u_T := fun k => match k with
  | 0 => ("ScoreRoads$Road", "order", "[I", true)
  | 1 => ("ScoreRoads$Road", "number", "I", false)
  | 2 => ("ScoreRoads$Road", "jumped", "Z", false)
  | 3 => ("ScoreRoads$Road", "wentOver", "Z", false)
  | 4 => ("ScoreRoads$Road", "way", "I", false)
  | _ => ("ScoreRoads$Road", "taken", "Z", false)
def t_Road : Nat → FieldType := fun k => match k with
  | 0 => (.array .int)
  | 1 => .int
  | 2 => .boolean
  | 3 => .boolean
  | 4 => .int
  | _ => .boolean
theorem n_Road : ∀ a, a < 6 → ∀ b, b < 6 → a ≠ b → (F_Road a).2.1 ≠ (F_Road b).2.1 := by decide +kernel
theorem t_Road_ok : ∀ k, k < 6 → parseFieldDescriptor (F_Road k).2.2.1 = some (t_Road k) := by decide +kernel
def F_Sounding : u_T := fun k => match k with
  | 0 => ("ScoreRoads$Sounding", "firsts", "[LScoreRoads$Note;", true)
  | 1 => ("ScoreRoads$Sounding", "indexes", "[I", true)
  | 2 => ("ScoreRoads$Sounding", "number", "I", false)
  | _ => ("ScoreRoads$Sounding", "knownPart", "I", false)
def t_Sounding : Nat → FieldType := fun k => match k with
  | 0 => (.array (.object "ScoreRoads$Note"))
  | 1 => (.array .int)
  | 2 => .int
  | _ => .int
theorem n_Sounding : ∀ a, a < 4 → ∀ b, b < 4 → a ≠ b → (F_Sounding a).2.1 ≠ (F_Sounding b).2.1 := by decide +kernel
theorem t_Sounding_ok : ∀ k, k < 4 → parseFieldDescriptor (F_Sounding k).2.2.1 = some (t_Sounding k) := by decide +kernel
def F_Note : u_T := fun k => match k with
  | 0 => ("ScoreRoads$Note", "part", "I", true)
  | 1 => ("ScoreRoads$Note", "bar", "I", true)
  | 2 => ("ScoreRoads$Note", "start", "I", true)
  | 3 => ("ScoreRoads$Note", "length", "I", true)
  | 4 => ("ScoreRoads$Note", "pitch", "I", false)
  | _ => ("ScoreRoads$Note", "tie", "Z", true)
def t_Note : Nat → FieldType := fun k => match k with
  | 0 => .int
  | 1 => .int
  | 2 => .int
  | 3 => .int
  | 4 => .int
  | _ => .boolean
theorem n_Note : ∀ a, a < 6 → ∀ b, b < 6 → a ≠ b → (F_Note a).2.1 ≠ (F_Note b).2.1 := by decide +kernel
theorem t_Note_ok : ∀ k, k < 6 → parseFieldDescriptor (F_Note k).2.2.1 = some (t_Note k) := by decide +kernel
def F_Mo : u_T := fun k => match k with
  | 0 => ("ScoreRoadsModel", "mostOf", "[I", true)
  | 1 => ("ScoreRoadsModel", "thrown", "I", false)
  | 2 => ("ScoreRoadsModel", "bars", "I", true)
  | 3 => ("ScoreRoadsModel", "lengths", "[I", true)
  | 4 => ("ScoreRoadsModel", "tempos", "[I", true)
  | 5 => ("ScoreRoadsModel", "signs", "[I", true)
  | 6 => ("ScoreRoadsModel", "notes", "I", false)
  | 7 => ("ScoreRoadsModel", "part", "[I", true)
  | 8 => ("ScoreRoadsModel", "place", "[I", true)
  | 9 => ("ScoreRoadsModel", "start", "[I", true)
  | 10 => ("ScoreRoadsModel", "length", "[I", true)
  | 11 => ("ScoreRoadsModel", "pitch", "[I", true)
  | 12 => ("ScoreRoadsModel", "tied", "[Z", true)
  | 13 => ("ScoreRoadsModel", "repeats", "I", false)
  | 14 => ("ScoreRoadsModel", "first", "[I", true)
  | 15 => ("ScoreRoadsModel", "ends", "[I", true)
  | 16 => ("ScoreRoadsModel", "endings", "[I", true)
  | 17 => ("ScoreRoadsModel", "count", "[I", true)
  | 18 => ("ScoreRoadsModel", "pass", "[I", true)
  | 19 => ("ScoreRoadsModel", "fault", "I", false)
  | 20 => ("ScoreRoadsModel", "here", "I", false)
  | 21 => ("ScoreRoadsModel", "again", "Z", false)
  | 22 => ("ScoreRoadsModel", "jumped", "I", false)
  | 23 => ("ScoreRoadsModel", "went", "Z", false)
  | 24 => ("ScoreRoadsModel", "plays", "I", false)
  | 25 => ("ScoreRoadsModel", "played", "[I", true)
  | 26 => ("ScoreRoadsModel", "soundTick", "J", false)
  | 27 => ("ScoreRoadsModel", "soundLength", "J", false)
  | _ => ("ScoreRoadsModel", "soundTicks", "J", false)
def t_Mo : Nat → FieldType := fun k => match k with
  | 0 => (.array .int)
  | 1 => .int
  | 2 => .int
  | 3 => (.array .int)
  | 4 => (.array .int)
  | 5 => (.array .int)
  | 6 => .int
  | 7 => (.array .int)
  | 8 => (.array .int)
  | 9 => (.array .int)
  | 10 => (.array .int)
  | 11 => (.array .int)
  | 12 => (.array .boolean)
  | 13 => .int
  | 14 => (.array .int)
  | 15 => (.array .int)
  | 16 => (.array .int)
  | 17 => (.array .int)
  | 18 => (.array .int)
  | 19 => .int
  | 20 => .int
  | 21 => .boolean
  | 22 => .int
  | 23 => .boolean
  | 24 => .int
  | 25 => (.array .int)
  | 26 => .long
  | 27 => .long
  | _ => .long
theorem n_Mo : ∀ a, a < 29 → ∀ b, b < 29 → a ≠ b → (F_Mo a).2.1 ≠ (F_Mo b).2.1 := by decide +kernel
theorem t_Mo_ok : ∀ k, k < 29 → parseFieldDescriptor (F_Mo k).2.2.1 = some (t_Mo k) := by decide +kernel
def F_none : u_T := fun _ => ("", "", "", false)
def rx_cl : List vw_C := [("ScoreRoads", F_SR, 7), ("ScoreRoads$Page", F_Page, 4), ("ScoreRoads$Notes", F_Notes, 2), ("ScoreRoads$Repeats", F_Repeats, 4), ("ScoreRoads$Repeat", F_Repeat, 7), ("ScoreRoads$Road", F_Road, 6), ("ScoreRoads$Sounding", F_Sounding, 4), ("ScoreRoads$Note", F_Note, 6), ("ScoreRoadsModel", F_Mo, 29), ("java/lang/IllegalArgumentException", F_none, 0), ("java/lang/IllegalStateException", F_none, 0), ("java/lang/IndexOutOfBoundsException", F_none, 0)]
def rx_ats : List FieldType := [.int, .long, .boolean, .object "ScoreRoads$Repeat", .object "ScoreRoads$Note"]
def rx_exn : Nat → String := fun k => match k with
  | 0 => "java/lang/IllegalArgumentException"
  | 1 => "java/lang/IllegalStateException"
  | _ => "java/lang/IndexOutOfBoundsException"
theorem w_SR : ∀ w ∈ u_ws "ScoreRoads" F_SR 7, w ∈ rx_tbl := by
  intro w hw
  obtain ⟨k, hk, rfl⟩ := List.mem_map.mp hw
  have hk := List.mem_range.mp hk
  match k, hk with
  | 0, _ => exact rx_in 186 (by decide +kernel) (by decide +kernel)
  | 1, _ => exact rx_in 188 (by decide +kernel) (by decide +kernel)
  | 2, _ => exact rx_in 190 (by decide +kernel) (by decide +kernel)
  | 3, _ => exact rx_in 192 (by decide +kernel) (by decide +kernel)
  | 4, _ => exact rx_in 194 (by decide +kernel) (by decide +kernel)
  | 5, _ => exact rx_in 196 (by decide +kernel) (by decide +kernel)
  | 6, _ => exact rx_in 198 (by decide +kernel) (by decide +kernel)
  | k + 7, h => exact absurd h (by omega)
theorem w_Page : ∀ w ∈ u_ws "ScoreRoads$Page" F_Page 4, w ∈ rx_tbl := by
  intro w hw
  obtain ⟨k, hk, rfl⟩ := List.mem_map.mp hw
  have hk := List.mem_range.mp hk
  match k, hk with
  | 0, _ => exact rx_in 44 (by decide +kernel) (by decide +kernel)
  | 1, _ => exact rx_in 46 (by decide +kernel) (by decide +kernel)
  | 2, _ => exact rx_in 48 (by decide +kernel) (by decide +kernel)
  | 3, _ => exact rx_in 50 (by decide +kernel) (by decide +kernel)
  | k + 4, h => exact absurd h (by omega)
theorem w_Notes : ∀ w ∈ u_ws "ScoreRoads$Notes" F_Notes 2, w ∈ rx_tbl := by
  intro w hw
  obtain ⟨k, hk, rfl⟩ := List.mem_map.mp hw
  have hk := List.mem_range.mp hk
  match k, hk with
  | 0, _ => exact rx_in 66 (by decide +kernel) (by decide +kernel)
  | 1, _ => exact rx_in 68 (by decide +kernel) (by decide +kernel)
  | k + 2, h => exact absurd h (by omega)
theorem w_Repeats : ∀ w ∈ u_ws "ScoreRoads$Repeats" F_Repeats 4, w ∈ rx_tbl := by
  intro w hw
  obtain ⟨k, hk, rfl⟩ := List.mem_map.mp hw
  have hk := List.mem_range.mp hk
  match k, hk with
  | 0, _ => exact rx_in 122 (by decide +kernel) (by decide +kernel)
  | 1, _ => exact rx_in 124 (by decide +kernel) (by decide +kernel)
  | 2, _ => exact rx_in 126 (by decide +kernel) (by decide +kernel)
  | 3, _ => exact rx_in 128 (by decide +kernel) (by decide +kernel)
  | k + 4, h => exact absurd h (by omega)
theorem w_Repeat : ∀ w ∈ u_ws "ScoreRoads$Repeat" F_Repeat 7, w ∈ rx_tbl := by
  intro w hw
  obtain ⟨k, hk, rfl⟩ := List.mem_map.mp hw
  have hk := List.mem_range.mp hk
  match k, hk with
  | 0, _ => exact rx_in 103 (by decide +kernel) (by decide +kernel)
  | 1, _ => exact rx_in 105 (by decide +kernel) (by decide +kernel)
  | 2, _ => exact rx_in 107 (by decide +kernel) (by decide +kernel)
  | 3, _ => exact rx_in 109 (by decide +kernel) (by decide +kernel)
  | 4, _ => exact rx_in 111 (by decide +kernel) (by decide +kernel)
  | 5, _ => exact rx_in 113 (by decide +kernel) (by decide +kernel)
  | 6, _ => exact rx_in 115 (by decide +kernel) (by decide +kernel)
  | k + 7, h => exact absurd h (by omega)
theorem w_Road : ∀ w ∈ u_ws "ScoreRoads$Road" F_Road 6, w ∈ rx_tbl := by
  intro w hw
  obtain ⟨k, hk, rfl⟩ := List.mem_map.mp hw
  have hk := List.mem_range.mp hk
  match k, hk with
  | 0, _ => exact rx_in 145 (by decide +kernel) (by decide +kernel)
  | 1, _ => exact rx_in 147 (by decide +kernel) (by decide +kernel)
  | 2, _ => exact rx_in 149 (by decide +kernel) (by decide +kernel)
  | 3, _ => exact rx_in 151 (by decide +kernel) (by decide +kernel)
  | 4, _ => exact rx_in 153 (by decide +kernel) (by decide +kernel)
  | 5, _ => exact rx_in 155 (by decide +kernel) (by decide +kernel)
  | k + 6, h => exact absurd h (by omega)
theorem w_Sounding : ∀ w ∈ u_ws "ScoreRoads$Sounding" F_Sounding 4, w ∈ rx_tbl := by
  intro w hw
  obtain ⟨k, hk, rfl⟩ := List.mem_map.mp hw
  have hk := List.mem_range.mp hk
  match k, hk with
  | 0, _ => exact rx_in 170 (by decide +kernel) (by decide +kernel)
  | 1, _ => exact rx_in 172 (by decide +kernel) (by decide +kernel)
  | 2, _ => exact rx_in 174 (by decide +kernel) (by decide +kernel)
  | 3, _ => exact rx_in 176 (by decide +kernel) (by decide +kernel)
  | k + 4, h => exact absurd h (by omega)
theorem w_Note : ∀ w ∈ u_ws "ScoreRoads$Note" F_Note 6, w ∈ rx_tbl := by
  intro w hw
  obtain ⟨k, hk, rfl⟩ := List.mem_map.mp hw
  have hk := List.mem_range.mp hk
  match k, hk with
  | 0, _ => exact rx_in 562 (by decide +kernel) (by decide +kernel)
  | 1, _ => exact rx_in 564 (by decide +kernel) (by decide +kernel)
  | 2, _ => exact rx_in 566 (by decide +kernel) (by decide +kernel)
  | 3, _ => exact rx_in 568 (by decide +kernel) (by decide +kernel)
  | 4, _ => exact rx_in 570 (by decide +kernel) (by decide +kernel)
  | 5, _ => exact rx_in 572 (by decide +kernel) (by decide +kernel)
  | k + 6, h => exact absurd h (by omega)
theorem w_Mo : ∀ w ∈ u_ws "ScoreRoadsModel" F_Mo 29, w ∈ rx_tbl := by
  intro w hw
  obtain ⟨k, hk, rfl⟩ := List.mem_map.mp hw
  have hk := List.mem_range.mp hk
  match k, hk with
  | 0, _ => exact rx_in 824 (by decide +kernel) (by decide +kernel)
  | 1, _ => exact rx_in 826 (by decide +kernel) (by decide +kernel)
  | 2, _ => exact rx_in 828 (by decide +kernel) (by decide +kernel)
  | 3, _ => exact rx_in 830 (by decide +kernel) (by decide +kernel)
  | 4, _ => exact rx_in 832 (by decide +kernel) (by decide +kernel)
  | 5, _ => exact rx_in 834 (by decide +kernel) (by decide +kernel)
  | 6, _ => exact rx_in 836 (by decide +kernel) (by decide +kernel)
  | 7, _ => exact rx_in 838 (by decide +kernel) (by decide +kernel)
  | 8, _ => exact rx_in 840 (by decide +kernel) (by decide +kernel)
  | 9, _ => exact rx_in 842 (by decide +kernel) (by decide +kernel)
  | 10, _ => exact rx_in 844 (by decide +kernel) (by decide +kernel)
  | 11, _ => exact rx_in 846 (by decide +kernel) (by decide +kernel)
  | 12, _ => exact rx_in 848 (by decide +kernel) (by decide +kernel)
  | 13, _ => exact rx_in 850 (by decide +kernel) (by decide +kernel)
  | 14, _ => exact rx_in 852 (by decide +kernel) (by decide +kernel)
  | 15, _ => exact rx_in 854 (by decide +kernel) (by decide +kernel)
  | 16, _ => exact rx_in 856 (by decide +kernel) (by decide +kernel)
  | 17, _ => exact rx_in 858 (by decide +kernel) (by decide +kernel)
  | 18, _ => exact rx_in 860 (by decide +kernel) (by decide +kernel)
  | 19, _ => exact rx_in 862 (by decide +kernel) (by decide +kernel)
  | 20, _ => exact rx_in 864 (by decide +kernel) (by decide +kernel)
  | 21, _ => exact rx_in 866 (by decide +kernel) (by decide +kernel)
  | 22, _ => exact rx_in 868 (by decide +kernel) (by decide +kernel)
  | 23, _ => exact rx_in 870 (by decide +kernel) (by decide +kernel)
  | 24, _ => exact rx_in 872 (by decide +kernel) (by decide +kernel)
  | 25, _ => exact rx_in 874 (by decide +kernel) (by decide +kernel)
  | 26, _ => exact rx_in 876 (by decide +kernel) (by decide +kernel)
  | 27, _ => exact rx_in 878 (by decide +kernel) (by decide +kernel)
  | 28, _ => exact rx_in 880 (by decide +kernel) (by decide +kernel)
  | k + 29, h => exact absurd h (by omega)
def rx_strs : List (Nat × String) := [(56, "no such bar, length or tempo"), (67, "a note would go over the bar's end"), (84, "no such bar, kind or value"), (90, "there is such a sign with another value"), (219, "no such part"), (102, "no such bar or pitch"), (107, "the note does not lie in the bar"), (117, "there are too many notes, or there is this one"), (135, "a pitch would be out of its bounds"), (217, "the map has a fault"), (223, "not so many bars are played")]
def m_SR_init : rx_T := (⟨"ScoreRoads", "<init>", "(I)V"⟩, prog_1_method_1_code, 3, none, [])
def m_Page_init : rx_T := (⟨"ScoreRoads$Page", "<init>", "(I)V"⟩, prog_6_method_1_code, 2, none, [])
def m_JA_fill : rx_T := (⟨"java/util/Arrays", "fill", "([II)V"⟩, prog_21_method_103_code, 4, none, [])
def m_Notes_init : rx_T := (⟨"ScoreRoads$Notes", "<init>", "()V"⟩, prog_5_method_1_code, 1, none, [])
def m_Repeats_init : rx_T := (⟨"ScoreRoads$Repeats", "<init>", "(I)V"⟩, prog_8_method_1_code, 3, none, [])
def m_Repeat_init : rx_T := (⟨"ScoreRoads$Repeat", "<init>", "()V"⟩, prog_7_method_1_code, 1, none, [])
def m_Road_init : rx_T := (⟨"ScoreRoads$Road", "<init>", "(I)V"⟩, prog_9_method_1_code, 2, none, [])
def m_Sounding_init : rx_T := (⟨"ScoreRoads$Sounding", "<init>", "()V"⟩, prog_10_method_1_code, 1, none, [])
def m_SR_signAt : rx_T := (⟨"ScoreRoads", "signAt", "(II)I"⟩, prog_1_method_4_code, 3, (some .int), [])
def m_Page_value : rx_T := (⟨"ScoreRoads$Page", "value", "(II)I"⟩, prog_6_method_7_code, 4, (some .int), [])
def m_SR_check : rx_T := (⟨"ScoreRoads", "check", "()I"⟩, prog_1_method_7_code, 1, (some .int), [])
def m_SR_knowRoad : rx_T := (⟨"ScoreRoads", "knowRoad", "()V"⟩, prog_1_method_19_code, 1, none, [])
def m_Repeats_gather : rx_T := (⟨"ScoreRoads$Repeats", "gather", "(LScoreRoads$Page;)V"⟩, prog_8_method_2_code, 3, none, [])
def m_Repeats_gatherEnds : rx_T := (⟨"ScoreRoads$Repeats", "gatherEnds", "(LScoreRoads$Page;)V"⟩, prog_8_method_3_code, 4, none, [])
def m_Page_has : rx_T := (⟨"ScoreRoads$Page", "has", "(II)Z"⟩, prog_6_method_8_code, 3, (some .boolean), [])
def m_Repeats_begin : rx_T := (⟨"ScoreRoads$Repeats", "begin", "(LScoreRoads$Page;II)LScoreRoads$Repeat;"⟩, prog_8_method_5_code, 6, (some (.object "ScoreRoads$Repeat")), [])
def m_Page_lastWith : rx_T := (⟨"ScoreRoads$Page", "lastWith", "(III)I"⟩, prog_6_method_11_code, 5, (some .int), [])
def m_JM_min : rx_T := (⟨"java/lang/Math", "min", "(II)I"⟩, prog_17_method_69_code, 2, (some .int), [])
def m_JM_max : rx_T := (⟨"java/lang/Math", "max", "(II)I"⟩, prog_17_method_65_code, 2, (some .int), [])
def m_Repeats_goesOn : rx_T := (⟨"ScoreRoads$Repeats", "goesOn", "(LScoreRoads$Page;II)Z"⟩, prog_8_method_4_code, 3, (some .boolean), [])
def m_Repeats_gatherEndings : rx_T := (⟨"ScoreRoads$Repeats", "gatherEndings", "(LScoreRoads$Page;LScoreRoads$Repeat;)V"⟩, prog_8_method_6_code, 4, none, [])
def m_Repeats_takeEnding : rx_T := (⟨"ScoreRoads$Repeats", "takeEnding", "(LScoreRoads$Page;LScoreRoads$Repeat;I)V"⟩, prog_8_method_7_code, 4, none, [])
def m_Repeat_hasEndings : rx_T := (⟨"ScoreRoads$Repeat", "hasEndings", "()Z"⟩, prog_7_method_2_code, 1, (some .boolean), [])
def m_Repeats_ofEnd : rx_T := (⟨"ScoreRoads$Repeats", "ofEnd", "(I)LScoreRoads$Repeat;"⟩, prog_8_method_8_code, 2, (some (.object "ScoreRoads$Repeat")), [])
def m_Faults_least : rx_T := (⟨"ScoreRoads$Faults", "least", "(LScoreRoads$Page;LScoreRoads$Repeats;)I"⟩, prog_2_method_2_code, 4, (some .int), [])
def m_Faults_isThere : rx_T := (⟨"ScoreRoads$Faults", "isThere", "(ILScoreRoads$Page;LScoreRoads$Repeats;I)Z"⟩, prog_2_method_3_code, 4, (some .boolean), [])
def m_Faults_isNeverEnded : rx_T := (⟨"ScoreRoads$Faults", "isNeverEnded", "(LScoreRoads$Page;I)Z"⟩, prog_2_method_4_code, 3, (some .boolean), [])
def m_Faults_isStrayEnding : rx_T := (⟨"ScoreRoads$Faults", "isStrayEnding", "(LScoreRoads$Repeats;I)Z"⟩, prog_2_method_5_code, 3, (some .boolean), [])
def m_Repeats_ofEnding : rx_T := (⟨"ScoreRoads$Repeats", "ofEnding", "(I)LScoreRoads$Repeat;"⟩, prog_8_method_9_code, 2, (some (.object "ScoreRoads$Repeat")), [])
def m_Faults_isUnlikeItsRepeat : rx_T := (⟨"ScoreRoads$Faults", "isUnlikeItsRepeat", "(LScoreRoads$Page;LScoreRoads$Repeats;I)Z"⟩, prog_2_method_6_code, 4, (some .boolean), [])
def m_Faults_isFirstOfWrongPasses : rx_T := (⟨"ScoreRoads$Faults", "isFirstOfWrongPasses", "(LScoreRoads$Page;LScoreRoads$Repeats;I)Z"⟩, prog_2_method_7_code, 7, (some .boolean), [])
def m_Repeats_around : rx_T := (⟨"ScoreRoads$Repeats", "around", "(I)LScoreRoads$Repeat;"⟩, prog_8_method_10_code, 3, (some (.object "ScoreRoads$Repeat")), [])
def m_Repeat_spans : rx_T := (⟨"ScoreRoads$Repeat", "spans", "(I)Z"⟩, prog_7_method_3_code, 2, (some .boolean), [])
def m_Page_hasPass : rx_T := (⟨"ScoreRoads$Page", "hasPass", "(II)Z"⟩, prog_6_method_9_code, 3, (some .boolean), [])
def m_Page_passBit : rx_T := (⟨"ScoreRoads$Page", "passBit", "(I)I"⟩, prog_6_method_10_code, 1, (some .int), [])
def m_Faults_isSecond : rx_T := (⟨"ScoreRoads$Faults", "isSecond", "(LScoreRoads$Page;II)Z"⟩, prog_2_method_8_code, 3, (some .boolean), [])
def m_Jump_target : rx_T := (⟨"ScoreRoads$Jump", "target", "(LScoreRoads$Page;I)I"⟩, prog_3_method_5_code, 2, (some .int), [])
def m_Jump_isToSegno : rx_T := (⟨"ScoreRoads$Jump", "isToSegno", "(I)Z"⟩, prog_3_method_2_code, 1, (some .boolean), [])
def m_Faults_lacksItsWay : rx_T := (⟨"ScoreRoads$Faults", "lacksItsWay", "(LScoreRoads$Page;I)Z"⟩, prog_2_method_9_code, 4, (some .boolean), [])
def m_Jump_way : rx_T := (⟨"ScoreRoads$Jump", "way", "(I)I"⟩, prog_3_method_3_code, 1, (some .int), [])
def m_Road_walk : rx_T := (⟨"ScoreRoads$Road", "walk", "(LScoreRoads$Page;LScoreRoads$Repeats;)V"⟩, prog_9_method_2_code, 6, none, [])
def m_Repeats_resetPasses : rx_T := (⟨"ScoreRoads$Repeats", "resetPasses", "()V"⟩, prog_8_method_11_code, 2, none, [])
def m_Road_insteadOf : rx_T := (⟨"ScoreRoads$Road", "insteadOf", "(ILScoreRoads$Page;LScoreRoads$Repeats;)I"⟩, prog_9_method_3_code, 8, (some .int), [])
def m_Road_isToComeAgain : rx_T := (⟨"ScoreRoads$Road", "isToComeAgain", "(ILScoreRoads$Repeats;)Z"⟩, prog_9_method_4_code, 4, (some .boolean), [])
def m_Road_leaveRepeatAtLastPass : rx_T := (⟨"ScoreRoads$Road", "leaveRepeatAtLastPass", "(ILScoreRoads$Page;LScoreRoads$Repeats;)V"⟩, prog_9_method_5_code, 4, none, [])
def m_Road_behind : rx_T := (⟨"ScoreRoads$Road", "behind", "(IZLScoreRoads$Page;LScoreRoads$Repeats;)I"⟩, prog_9_method_6_code, 6, (some .int), [])
def m_Road_jumpFrom : rx_T := (⟨"ScoreRoads$Road", "jumpFrom", "(ILScoreRoads$Page;LScoreRoads$Repeats;)I"⟩, prog_9_method_7_code, 5, (some .int), [])
def m_Jump_hasRepeats : rx_T := (⟨"ScoreRoads$Jump", "hasRepeats", "(I)Z"⟩, prog_3_method_4_code, 1, (some .boolean), [])
def m_Page_hasBar : rx_T := (⟨"ScoreRoads$Page", "hasBar", "(I)Z"⟩, prog_6_method_2_code, 2, (some .boolean), [])
def m_SR_plays : rx_T := (⟨"ScoreRoads", "plays", "()I"⟩, prog_1_method_8_code, 1, (some .int), [])
def m_La_cell : rx_T := (⟨"ScoreRoadsLaw", "cell", "([II)I"⟩, method_2_code, 2, (some .int), [])
def m_La_bar : rx_T := (⟨"ScoreRoadsLaw", "bar", "(LScoreRoads;III)I"⟩, method_3_code, 5, (some .int), [((0 : Nat), (7 : Nat), (10 : Nat), (13 : Nat)), ((0 : Nat), (7 : Nat), (14 : Nat), (15 : Nat))])
def m_SR_bar : rx_T := (⟨"ScoreRoads", "bar", "(III)V"⟩, prog_1_method_2_code, 4, none, [])
def m_SR_isWithin : rx_T := (⟨"ScoreRoads", "isWithin", "(III)Z"⟩, prog_1_method_25_code, 3, (some .boolean), [])
def m_Notes_endIn : rx_T := (⟨"ScoreRoads$Notes", "endIn", "(I)I"⟩, prog_5_method_7_code, 4, (some .int), [])
def m_Note_end : rx_T := (⟨"ScoreRoads$Note", "end", "()I"⟩, prog_4_method_2_code, 1, (some .int), [])
def m_Page_shape : rx_T := (⟨"ScoreRoads$Page", "shape", "(III)V"⟩, prog_6_method_3_code, 4, none, [])
def m_Sounding_forget : rx_T := (⟨"ScoreRoads$Sounding", "forget", "()V"⟩, prog_10_method_2_code, 1, none, [])
def m_La_sign : rx_T := (⟨"ScoreRoadsLaw", "sign", "(LScoreRoads;III[J)I"⟩, method_4_code, 6, (some .int), [((0 : Nat), (19 : Nat), (22 : Nat), (13 : Nat)), ((0 : Nat), (19 : Nat), (26 : Nat), (15 : Nat))])
def m_SR_sign : rx_T := (⟨"ScoreRoads", "sign", "(III)Z"⟩, prog_1_method_3_code, 5, (some .boolean), [])
def m_SR_isKind : rx_T := (⟨"ScoreRoads", "isKind", "(I)Z"⟩, prog_1_method_23_code, 1, (some .boolean), [])
def m_SR_isValue : rx_T := (⟨"ScoreRoads", "isValue", "(II)Z"⟩, prog_1_method_24_code, 2, (some .boolean), [])
def m_Page_put : rx_T := (⟨"ScoreRoads$Page", "put", "(III)V"⟩, prog_6_method_6_code, 4, none, [])
def m_La_note : rx_T := (⟨"ScoreRoadsLaw", "note", "(LScoreRoads;IIIIIZ[J)I"⟩, method_5_code, 9, (some .int), [((0 : Nat), (18 : Nat), (21 : Nat), (13 : Nat)), ((0 : Nat), (18 : Nat), (25 : Nat), (15 : Nat))])
def m_SR_note : rx_T := (⟨"ScoreRoads", "note", "(IIIIIZ)I"⟩, prog_1_method_5_code, 7, (some .int), [])
def m_SR_needPart : rx_T := (⟨"ScoreRoads", "needPart", "(I)V"⟩, prog_1_method_21_code, 1, none, [])
def m_Page_lengthOf : rx_T := (⟨"ScoreRoads$Page", "lengthOf", "(I)I"⟩, prog_6_method_4_code, 2, (some .int), [])
def m_Notes_isFull : rx_T := (⟨"ScoreRoads$Notes", "isFull", "()Z"⟩, prog_5_method_2_code, 1, (some .boolean), [])
def m_Notes_seek : rx_T := (⟨"ScoreRoads$Notes", "seek", "(IIII)LScoreRoads$Note;"⟩, prog_5_method_5_code, 7, (some (.object "ScoreRoads$Note")), [])
def m_Note_isIn : rx_T := (⟨"ScoreRoads$Note", "isIn", "(II)Z"⟩, prog_4_method_3_code, 3, (some .boolean), [])
def m_Note_init : rx_T := (⟨"ScoreRoads$Note", "<init>", "(IIIIIZ)V"⟩, prog_4_method_1_code, 7, none, [])
def m_Notes_add : rx_T := (⟨"ScoreRoads$Notes", "add", "(LScoreRoads$Note;)V"⟩, prog_5_method_3_code, 3, none, [])
def m_Note_isBehind : rx_T := (⟨"ScoreRoads$Note", "isBehind", "(LScoreRoads$Note;)Z"⟩, prog_4_method_5_code, 2, (some .boolean), [])
def m_La_transpose : rx_T := (⟨"ScoreRoadsLaw", "transpose", "(LScoreRoads;II[J)I"⟩, method_6_code, 5, (some .int), [((0 : Nat), (10 : Nat), (13 : Nat), (13 : Nat))])
def m_SR_transpose : rx_T := (⟨"ScoreRoads", "transpose", "(II)I"⟩, prog_1_method_6_code, 3, (some .int), [])
def m_Notes_canShift : rx_T := (⟨"ScoreRoads$Notes", "canShift", "(II)Z"⟩, prog_5_method_8_code, 6, (some .boolean), [])
def m_Notes_shift : rx_T := (⟨"ScoreRoads$Notes", "shift", "(II)I"⟩, prog_5_method_9_code, 5, (some .int), [])
def m_La_played : rx_T := (⟨"ScoreRoadsLaw", "played", "(LScoreRoads;I[J)I"⟩, method_7_code, 4, (some .int), [((0 : Nat), (9 : Nat), (12 : Nat), (15 : Nat)), ((0 : Nat), (9 : Nat), (15 : Nat), (33 : Nat))])
def m_SR_played : rx_T := (⟨"ScoreRoads", "played", "(I)I"⟩, prog_1_method_9_code, 2, (some .int), [])
def m_SR_needRoad : rx_T := (⟨"ScoreRoads", "needRoad", "()V"⟩, prog_1_method_20_code, 1, none, [])
def m_SR_needPlayed : rx_T := (⟨"ScoreRoads", "needPlayed", "(II)V"⟩, prog_1_method_22_code, 2, none, [])
def m_Road_barOf : rx_T := (⟨"ScoreRoads$Road", "barOf", "(I)I"⟩, prog_9_method_8_code, 2, (some .int), [])
def m_La_time : rx_T := (⟨"ScoreRoadsLaw", "time", "(LScoreRoads;I[J)I"⟩, method_8_code, 4, (some .int), [((0 : Nat), (9 : Nat), (12 : Nat), (15 : Nat)), ((0 : Nat), (9 : Nat), (15 : Nat), (33 : Nat))])
def m_SR_time : rx_T := (⟨"ScoreRoads", "time", "(I)I"⟩, prog_1_method_10_code, 2, (some .int), [])
def m_Road_timesUpTo : rx_T := (⟨"ScoreRoads$Road", "timesUpTo", "(I)I"⟩, prog_9_method_9_code, 4, (some .int), [])
def m_La_find : rx_T := (⟨"ScoreRoadsLaw", "find", "(LScoreRoads;II[J)I"⟩, method_9_code, 5, (some .int), [((0 : Nat), (10 : Nat), (13 : Nat), (15 : Nat))])
def m_SR_find : rx_T := (⟨"ScoreRoads", "find", "(II)I"⟩, prog_1_method_11_code, 3, (some .int), [])
def m_Road_indexOf : rx_T := (⟨"ScoreRoads$Road", "indexOf", "(II)I"⟩, prog_9_method_10_code, 5, (some .int), [])
def m_La_tick : rx_T := (⟨"ScoreRoadsLaw", "tick", "(LScoreRoads;I[J)I"⟩, method_10_code, 4, (some .int), [((0 : Nat), (8 : Nat), (11 : Nat), (15 : Nat)), ((0 : Nat), (8 : Nat), (14 : Nat), (33 : Nat))])
def m_SR_tick : rx_T := (⟨"ScoreRoads", "tick", "(I)J"⟩, prog_1_method_12_code, 2, (some .long), [])
def m_Road_ticksTo : rx_T := (⟨"ScoreRoads$Road", "ticksTo", "(LScoreRoads$Page;I)J"⟩, prog_9_method_11_code, 6, (some .long), [])
def m_Road_ticksOf : rx_T := (⟨"ScoreRoads$Road", "ticksOf", "(LScoreRoads$Page;I)J"⟩, prog_9_method_13_code, 2, (some .long), [])
def m_Page_tempoOf : rx_T := (⟨"ScoreRoads$Page", "tempoOf", "(I)I"⟩, prog_6_method_5_code, 2, (some .int), [])
def m_La_at : rx_T := (⟨"ScoreRoadsLaw", "at", "(LScoreRoads;J[J)I"⟩, method_11_code, 5, (some .int), [((0 : Nat), (9 : Nat), (12 : Nat), (15 : Nat))])
def m_SR_at : rx_T := (⟨"ScoreRoads", "at", "(J)I"⟩, prog_1_method_13_code, 3, (some .int), [])
def m_Road_indexAt : rx_T := (⟨"ScoreRoads$Road", "indexAt", "(LScoreRoads$Page;J)I"⟩, prog_9_method_12_code, 7, (some .int), [])
def m_La_sounds : rx_T := (⟨"ScoreRoadsLaw", "sounds", "(LScoreRoads;I[J)I"⟩, method_12_code, 4, (some .int), [((0 : Nat), (9 : Nat), (12 : Nat), (13 : Nat)), ((0 : Nat), (9 : Nat), (15 : Nat), (15 : Nat))])
def m_SR_sounds : rx_T := (⟨"ScoreRoads", "sounds", "(I)I"⟩, prog_1_method_14_code, 2, (some .int), [])
def m_Sounding_know : rx_T := (⟨"ScoreRoads$Sounding", "know", "(ILScoreRoads$Page;LScoreRoads$Notes;LScoreRoads$Road;)V"⟩, prog_10_method_3_code, 6, none, [])
def m_Sounding_gather : rx_T := (⟨"ScoreRoads$Sounding", "gather", "(IILScoreRoads$Page;LScoreRoads$Notes;LScoreRoads$Road;)V"⟩, prog_10_method_4_code, 8, none, [])
def m_Notes_get : rx_T := (⟨"ScoreRoads$Notes", "get", "(I)LScoreRoads$Note;"⟩, prog_5_method_4_code, 2, (some (.object "ScoreRoads$Note")), [])
def m_Notes_isGoingOn : rx_T := (⟨"ScoreRoads$Notes", "isGoingOn", "(LScoreRoads$Note;LScoreRoads$Page;I)Z"⟩, prog_5_method_11_code, 6, (some .boolean), [])
def m_Note_reachesOver : rx_T := (⟨"ScoreRoads$Note", "reachesOver", "(LScoreRoads$Page;)Z"⟩, prog_4_method_4_code, 2, (some .boolean), [])
def m_La_sound : rx_T := (⟨"ScoreRoadsLaw", "sound", "(LScoreRoads;III[J)I"⟩, method_13_code, 6, (some .int), [((0 : Nat), (11 : Nat), (14 : Nat), (13 : Nat)), ((0 : Nat), (11 : Nat), (18 : Nat), (15 : Nat))])
def m_SR_sound : rx_T := (⟨"ScoreRoads", "sound", "(III)J"⟩, prog_1_method_15_code, 4, (some .long), [])
def m_Sounding_beginOf : rx_T := (⟨"ScoreRoads$Sounding", "beginOf", "(ILScoreRoads$Page;LScoreRoads$Road;)J"⟩, prog_10_method_6_code, 5, (some .long), [])
def m_Sounding_firstOf : rx_T := (⟨"ScoreRoads$Sounding", "firstOf", "(I)LScoreRoads$Note;"⟩, prog_10_method_5_code, 2, (some (.object "ScoreRoads$Note")), [])
def m_Sounding_pitchOf : rx_T := (⟨"ScoreRoads$Sounding", "pitchOf", "(I)I"⟩, prog_10_method_7_code, 3, (some .int), [])
def m_Sounding_lengthOf : rx_T := (⟨"ScoreRoads$Sounding", "lengthOf", "(IZLScoreRoads$Page;LScoreRoads$Notes;LScoreRoads$Road;)J"⟩, prog_10_method_8_code, 10, (some .long), [])
def m_Notes_goingOn : rx_T := (⟨"ScoreRoads$Notes", "goingOn", "(LScoreRoads$Note;LScoreRoads$Page;I)LScoreRoads$Note;"⟩, prog_5_method_10_code, 4, (some (.object "ScoreRoads$Note")), [])
def m_La_rest : rx_T := (⟨"ScoreRoadsLaw", "rest", "(LScoreRoads;II[J)I"⟩, method_14_code, 5, (some .int), [((0 : Nat), (10 : Nat), (13 : Nat), (13 : Nat))])
def m_SR_rest : rx_T := (⟨"ScoreRoads", "rest", "(II)I"⟩, prog_1_method_16_code, 5, (some .int), [])
def m_Notes_isRest : rx_T := (⟨"ScoreRoads$Notes", "isRest", "(II)Z"⟩, prog_5_method_6_code, 4, (some .boolean), [])
def m_SR_goesOnResting : rx_T := (⟨"ScoreRoads", "goesOnResting", "(II)Z"⟩, prog_1_method_18_code, 3, (some .boolean), [])
def m_Page_isCutBefore : rx_T := (⟨"ScoreRoads$Page", "isCutBefore", "(I)Z"⟩, prog_6_method_12_code, 2, (some .boolean), [])
def m_Page_opensCut : rx_T := (⟨"ScoreRoads$Page", "opensCut", "(I)Z"⟩, prog_6_method_13_code, 2, (some .boolean), [])
def m_Page_closesCut : rx_T := (⟨"ScoreRoads$Page", "closesCut", "(I)Z"⟩, prog_6_method_14_code, 2, (some .boolean), [])
def m_SR_restBars : rx_T := (⟨"ScoreRoads", "restBars", "(II)I"⟩, prog_1_method_17_code, 4, (some .int), [])
def m_Mo_init : rx_T := (⟨"ScoreRoadsModel", "<init>", "(I)V"⟩, prog_12_method_1_code, 3, none, [])
def m_Mo_thrown : rx_T := (⟨"ScoreRoadsModel", "thrown", "()I"⟩, prog_12_method_2_code, 1, (some .int), [])
def m_Mo_bar : rx_T := (⟨"ScoreRoadsModel", "bar", "(III)V"⟩, prog_12_method_10_code, 5, none, [])
def m_Mo_isBar : rx_T := (⟨"ScoreRoadsModel", "isBar", "(I)Z"⟩, prog_12_method_5_code, 2, (some .boolean), [])
def m_Mo_within : rx_T := (⟨"ScoreRoadsModel", "within", "(III)Z"⟩, prog_12_method_4_code, 3, (some .boolean), [])
def m_Mo_sign : rx_T := (⟨"ScoreRoadsModel", "sign", "(III)Z"⟩, prog_12_method_11_code, 6, (some .boolean), [])
def m_Mo_signAt : rx_T := (⟨"ScoreRoadsModel", "signAt", "(II)I"⟩, prog_12_method_12_code, 3, (some .int), [])
def m_Mo_note : rx_T := (⟨"ScoreRoadsModel", "note", "(IIIIIZ)I"⟩, prog_12_method_13_code, 10, (some .int), [])
def m_Mo_isPart : rx_T := (⟨"ScoreRoadsModel", "isPart", "(I)Z"⟩, prog_12_method_6_code, 1, (some .boolean), [])
def m_Mo_refuse : rx_T := (⟨"ScoreRoadsModel", "refuse", "(I)I"⟩, prog_12_method_3_code, 2, (some .int), [])
def m_Mo_transpose : rx_T := (⟨"ScoreRoadsModel", "transpose", "(II)I"⟩, prog_12_method_14_code, 7, (some .int), [])
def m_Mo_check : rx_T := (⟨"ScoreRoadsModel", "check", "()I"⟩, prog_12_method_29_code, 1, (some .int), [])
def m_Mo_findFault : rx_T := (⟨"ScoreRoadsModel", "findFault", "()I"⟩, prog_12_method_28_code, 4, (some .int), [])
def m_Mo_findRepeats : rx_T := (⟨"ScoreRoadsModel", "findRepeats", "()V"⟩, prog_12_method_20_code, 6, none, [])
def m_Mo_has : rx_T := (⟨"ScoreRoadsModel", "has", "(II)Z"⟩, prog_12_method_8_code, 3, (some .boolean), [])
def m_Mo_signOf : rx_T := (⟨"ScoreRoadsModel", "signOf", "(II)I"⟩, prog_12_method_7_code, 3, (some .int), [])
def m_Mo_lastStart : rx_T := (⟨"ScoreRoadsModel", "lastStart", "(II)I"⟩, prog_12_method_15_code, 5, (some .int), [])
def m_Mo_lowest : rx_T := (⟨"ScoreRoadsModel", "lowest", "(I)I"⟩, prog_12_method_16_code, 3, (some .int), [])
def m_Mo_in : rx_T := (⟨"ScoreRoadsModel", "in", "(II)Z"⟩, prog_12_method_9_code, 2, (some .boolean), [])
def m_Mo_withEnding : rx_T := (⟨"ScoreRoadsModel", "withEnding", "(I)I"⟩, prog_12_method_18_code, 3, (some .int), [])
def m_Mo_checkStart : rx_T := (⟨"ScoreRoadsModel", "checkStart", "(I)V"⟩, prog_12_method_22_code, 5, none, [])
def m_Mo_wrong : rx_T := (⟨"ScoreRoadsModel", "wrong", "(ZII)V"⟩, prog_12_method_21_code, 5, none, [])
def m_Mo_checkEnding : rx_T := (⟨"ScoreRoadsModel", "checkEnding", "(I)V"⟩, prog_12_method_23_code, 3, none, [])
def m_Mo_isThere : rx_T := (⟨"ScoreRoadsModel", "isThere", "(III)Z"⟩, prog_12_method_25_code, 6, (some .boolean), [])
def m_Mo_checkJump : rx_T := (⟨"ScoreRoadsModel", "checkJump", "(I)V"⟩, prog_12_method_27_code, 6, none, [])
def m_Mo_firstOf : rx_T := (⟨"ScoreRoadsModel", "firstOf", "(I)I"⟩, prog_12_method_26_code, 3, (some .int), [])
def m_Mo_checkRepeat : rx_T := (⟨"ScoreRoadsModel", "checkRepeat", "(I)V"⟩, prog_12_method_24_code, 5, none, [])
def m_Mo_highest : rx_T := (⟨"ScoreRoadsModel", "highest", "(I)I"⟩, prog_12_method_17_code, 3, (some .int), [])
def m_Mo_plays : rx_T := (⟨"ScoreRoadsModel", "plays", "()I"⟩, prog_12_method_37_code, 1, (some .int), [])
def m_Mo_walk : rx_T := (⟨"ScoreRoadsModel", "walk", "()Z"⟩, prog_12_method_36_code, 2, (some .boolean), [])
def m_Mo_resetPasses : rx_T := (⟨"ScoreRoadsModel", "resetPasses", "()V"⟩, prog_12_method_32_code, 2, none, [])
def m_Mo_come : rx_T := (⟨"ScoreRoadsModel", "come", "(I)V"⟩, prog_12_method_33_code, 5, none, [])
def m_Mo_takes : rx_T := (⟨"ScoreRoadsModel", "takes", "()Z"⟩, prog_12_method_30_code, 1, (some .boolean), [])
def m_Mo_goOn : rx_T := (⟨"ScoreRoadsModel", "goOn", "()Z"⟩, prog_12_method_35_code, 2, (some .boolean), [])
def m_Mo_withEnd : rx_T := (⟨"ScoreRoadsModel", "withEnd", "(I)I"⟩, prog_12_method_19_code, 3, (some .int), [])
def m_Mo_how : rx_T := (⟨"ScoreRoadsModel", "how", "()I"⟩, prog_12_method_31_code, 1, (some .int), [])
def m_Mo_resetJumped : rx_T := (⟨"ScoreRoadsModel", "resetJumped", "(I)V"⟩, prog_12_method_34_code, 2, none, [])
def m_Mo_played : rx_T := (⟨"ScoreRoadsModel", "played", "(I)I"⟩, prog_12_method_39_code, 2, (some .int), [])
def m_Mo_wrongBar : rx_T := (⟨"ScoreRoadsModel", "wrongBar", "(II)I"⟩, prog_12_method_38_code, 3, (some .int), [])
def m_Mo_time : rx_T := (⟨"ScoreRoadsModel", "time", "(I)I"⟩, prog_12_method_40_code, 4, (some .int), [])
def m_Mo_find : rx_T := (⟨"ScoreRoadsModel", "find", "(II)I"⟩, prog_12_method_41_code, 5, (some .int), [])
def m_Mo_tick : rx_T := (⟨"ScoreRoadsModel", "tick", "(I)J"⟩, prog_12_method_43_code, 2, (some .long), [])
def m_Mo_ticksBefore : rx_T := (⟨"ScoreRoadsModel", "ticksBefore", "(I)J"⟩, prog_12_method_42_code, 5, (some .long), [])
def m_Mo_at : rx_T := (⟨"ScoreRoadsModel", "at", "(J)I"⟩, prog_12_method_44_code, 5, (some .int), [])
def m_Mo_sounds : rx_T := (⟨"ScoreRoadsModel", "sounds", "(I)I"⟩, prog_12_method_52_code, 3, (some .int), [])
def m_Mo_wrongPart : rx_T := (⟨"ScoreRoadsModel", "wrongPart", "(I)I"⟩, prog_12_method_51_code, 2, (some .int), [])
def m_Mo_seek : rx_T := (⟨"ScoreRoadsModel", "seek", "(II)I"⟩, prog_12_method_50_code, 6, (some .int), [])
def m_Mo_nextNote : rx_T := (⟨"ScoreRoadsModel", "nextNote", "(III)I"⟩, prog_12_method_49_code, 8, (some .int), [])
def m_Mo_goesOn : rx_T := (⟨"ScoreRoadsModel", "goesOn", "(II)Z"⟩, prog_12_method_47_code, 5, (some .boolean), [])
def m_Mo_reaches : rx_T := (⟨"ScoreRoadsModel", "reaches", "(I)Z"⟩, prog_12_method_45_code, 2, (some .boolean), [])
def m_Mo_follow : rx_T := (⟨"ScoreRoadsModel", "follow", "(II)V"⟩, prog_12_method_48_code, 5, none, [])
def m_Mo_opening : rx_T := (⟨"ScoreRoadsModel", "opening", "(III)I"⟩, prog_12_method_46_code, 6, (some .int), [])
def m_Mo_sound : rx_T := (⟨"ScoreRoadsModel", "sound", "(III)J"⟩, prog_12_method_53_code, 5, (some .long), [])
def m_Mo_rest : rx_T := (⟨"ScoreRoadsModel", "rest", "(II)I"⟩, prog_12_method_56_code, 7, (some .int), [])
def m_Mo_isRest : rx_T := (⟨"ScoreRoadsModel", "isRest", "(II)Z"⟩, prog_12_method_54_code, 5, (some .boolean), [])
def m_Mo_joins : rx_T := (⟨"ScoreRoadsModel", "joins", "(II)Z"⟩, prog_12_method_55_code, 5, (some .boolean), [])
end
section
/-! rx: one judgement for a frame of any method of the program, over the whole world: the cells from the address z on, as one list -/
abbrev rx_R : Type := Option Value ⊕ Nat
abbrev rx_L : Type := List (Option Value)
/-- launch, the first address, the classes' numbers and slots, the array classes, the int arrays that lie outside -/
abbrev rx_V : Type := Launch × Nat × va_G × (Nat → ClassId) × List (Nat × Nat × (Nat → Int32))
def rx_ws (z : Nat) (h : List va_E) : va_W := h.mapIdx (fun i e => (z + i, e))
theorem rx_ws_at (z : Nat) (h : List va_E) (i : Nat) : (rx_ws z h)[i]? = (h[i]?).map (fun e => (z + i, e)) := by
  unfold rx_ws
  rw [List.getElem?_mapIdx]
theorem rx_ws_of {z : Nat} {h : List va_E} {i : Nat} {e : va_E} (he : h[i]? = some e) : (rx_ws z h)[i]? = some (z + i, e) := by
  rw [rx_ws_at, he]; rfl
theorem rx_ws_set (z : Nat) (h : List va_E) (k : Nat) (e : va_E) : (rx_ws z h).set k (z + k, e) = rx_ws z (h.set k e) := by
  apply List.ext_getElem?
  intro i
  rw [rx_ws_at, List.getElem?_set, List.getElem?_set]
  have hl : (rx_ws z h).length = h.length := by unfold rx_ws; exact List.length_mapIdx
  by_cases hk : k = i
  · subst hk
    rw [if_pos rfl, if_pos rfl, hl]
    by_cases hlt : k < h.length
    · rw [if_pos hlt, if_pos hlt]; rfl
    · rw [if_neg hlt, if_neg hlt]; rfl
  · rw [if_neg hk, if_neg hk, rx_ws_at]
theorem rx_ws_push (z : Nat) (h : List va_E) (e : va_E) : rx_ws z h ++ [(z + h.length, e)] = rx_ws z (h ++ [e]) := by
  unfold rx_ws
  rw [List.mapIdx_append]
  simp
theorem rx_ws_D (z : Nat) (h : List va_E) : va_D (fun q => z ≤ q) (rx_ws z h) := by
  refine ⟨fun i j p q hp hq e => ?_, fun k q hk => ?_⟩
  · rw [rx_ws_at] at hp hq
    cases h1 : h[i]? with
    | none => rw [h1] at hp; cases hp
    | some a =>
      cases h2 : h[j]? with
      | none => rw [h2] at hq; cases hq
      | some b =>
        rw [h1] at hp; rw [h2] at hq
        cases hp; cases hq
        have e' : z + i = z + j := e
        omega
  · rw [rx_ws_at] at hk
    cases h1 : h[k]? with
    | none => rw [h1] at hk; cases hk
    | some a =>
      rw [h1] at hk
      cases hk
      exact Nat.le_add_right _ _
/-- reading and writing by an address -/
def rx_rd (V : rx_V) (h : List va_E) (a : Nat) : Option va_E := if V.2.1 ≤ a then h[a - V.2.1]? else none
def rx_wr (V : rx_V) (h : List va_E) (a : Nat) (e : va_E) : List va_E := h.set (a - V.2.1) e
theorem rx_rd_at {V : rx_V} {h : List va_E} {a : Nat} {e : va_E} (he : rx_rd V h a = some e) : ∃ q, a = V.2.1 + q ∧ h[q]? = some e ∧ a - V.2.1 = q := by
  unfold rx_rd at he
  by_cases hz : V.2.1 ≤ a
  · rw [if_pos hz] at he
    exact ⟨a - V.2.1, by omega, he, rfl⟩
  · rw [if_neg hz] at he; cases he
theorem rx_rd_in {V : rx_V} {h : List va_E} {k : Nat} : rx_rd V h (V.2.1 + k) = h[k]? := by
  unfold rx_rd
  rw [if_pos (Nat.le_add_right _ _), Nat.add_sub_cancel_left]
theorem rx_wr_in {V : rx_V} {h : List va_E} {k : Nat} {e : va_E} : rx_wr V h (V.2.1 + k) e = h.set k e := by
  unfold rx_wr
  rw [Nat.add_sub_cancel_left]
/-! locals -/
def rx_clr (L : rx_L) : Nat → rx_L
  | 0 => L
  | j + 1 => match L[j]? with
    | some (some v) => if v.category = 2 then L.set j none else L
    | _ => L
def rx_st1 (L : rx_L) (i : Nat) (v : Value) : rx_L := (rx_clr L i).set i (some v)
def rx_st2 (L : rx_L) (i : Nat) (v : Value) : rx_L := ((rx_clr L i).set i (some v)).set (i + 1) none
theorem rx_clr_len (L : rx_L) (i : Nat) : (rx_clr L i).length = L.length := by
  cases i with
  | zero => rfl
  | succ k =>
    unfold rx_clr
    dsimp only
    split
    · split
      · exact List.length_set
      · rfl
    · rfl
theorem rx_clr_at {L : rx_L} {i j : Nat} {w : Value} (h : (rx_clr L i)[j]? = some (some w)) : L[j]? = some (some w) ∧ ¬ (j + 1 = i ∧ w.category = 2) := by
  cases i with
  | zero => exact ⟨h, fun q => by omega⟩
  | succ k =>
    unfold rx_clr at h
    dsimp only at h
    split at h
    · rename_i v hv
      split at h
      · rename_i hc
        rw [List.getElem?_set] at h
        by_cases e : k = j
        · rw [if_pos e] at h
          split at h <;> simp at h
        · rw [if_neg e] at h
          exact ⟨h, fun q => by omega⟩
      · rename_i hc
        refine ⟨h, fun q => ?_⟩
        have e : j = k := by omega
        subst e
        rw [hv] at h
        cases h
        exact hc q.2
    · rename_i hn
      refine ⟨h, fun q => ?_⟩
      have e : j = k := by omega
      subst e
      exact hn w h
def rx_al (L : rx_L) : List (Nat × Value) := (List.range L.length).filterMap (fun i => (L[i]?.join).map (fun v => (i, v)))
theorem rx_al_in {L : rx_L} {i : Nat} {v : Value} : (i, v) ∈ rx_al L ↔ L[i]? = some (some v) := by
  unfold rx_al
  rw [List.mem_filterMap]
  constructor
  · rintro ⟨j, -, hj⟩
    cases h : L[j]? with
    | none => rw [h] at hj; cases hj
    | some o =>
      cases o with
      | none => rw [h] at hj; cases hj
      | some w =>
        rw [h] at hj
        cases hj
        exact h
  · intro h
    refine ⟨i, List.mem_range.mpr (List.getElem?_eq_some_iff.mp h).1, ?_⟩
    rw [h]; rfl
def rx_lv (ls : Array Slot) (n : Nat) (L : rx_L) : Prop := ls.size = n ∧ lv_wf ls ∧ L.length = n ∧ ∀ (i : Nat) (v : Value), L[i]? = some (some v) → ls[i]? = some (.val v)
theorem rx_has {ls : Array Slot} {n : Nat} {L : rx_L} (h : rx_lv ls n L) : lv_has ls n (rx_al L) := ⟨h.1, h.2.1, fun q hq => h.2.2.2 q.1 q.2 (rx_al_in.mp hq)⟩
theorem rx_has1 {ls : Array Slot} {n : Nat} {L : rx_L} {i : Nat} {v : Value} (h : rx_lv ls n L) (hi : L[i]? = some (some v)) : lv_has ls n ((i, v) :: rx_al L) := ⟨h.1, h.2.1, fun q hq => by
  rcases List.mem_cons.mp hq with rfl | hq
  · exact h.2.2.2 _ _ hi
  · exact h.2.2.2 q.1 q.2 (rx_al_in.mp hq)⟩
theorem rx_lv1 {ls' : Array Slot} {n : Nat} {L : rx_L} {i : Nat} {v : Value} {l : List (Nat × Value)} (hn : L.length = n) (hall : ∀ (j : Nat) (w : Value), L[j]? = some (some w) → (j, w) ∈ l)
    (h' : lv_has ls' n ((i, v) :: l.filter (fun q => !(q.1 == i) && !(q.1 + 1 == i && q.2.category == 2)))) : rx_lv ls' n (rx_st1 L i v) := by
  refine ⟨h'.1, h'.2.1, ?_, fun j w hj => ?_⟩
  · unfold rx_st1
    rw [List.length_set, rx_clr_len]
    exact hn
  · unfold rx_st1 at hj
    rw [List.getElem?_set] at hj
    by_cases e : i = j
    · subst e
      rw [if_pos rfl] at hj
      split at hj
      · cases hj
        exact h'.2.2 (i, v) List.mem_cons_self
      · cases hj
    · rw [if_neg e] at hj
      obtain ⟨h1, h2⟩ := rx_clr_at hj
      refine h'.2.2 (j, w) (List.mem_cons_of_mem _ (List.mem_filter.mpr ⟨hall j w h1, ?_⟩))
      have e' : ¬ j = i := fun q => e q.symm
      by_cases hc : j + 1 = i
      · have h3 : ¬ w.category = 2 := fun q => h2 ⟨hc, q⟩
        simp [e', h3]
      · simp [e', hc]
theorem rx_lv2 {ls' : Array Slot} {n : Nat} {L : rx_L} {i : Nat} {v : Value} {l : List (Nat × Value)} (hn : L.length = n) (hall : ∀ (j : Nat) (w : Value), L[j]? = some (some w) → (j, w) ∈ l)
    (h' : lv_has ls' n ((i, v) :: l.filter (fun q => !(q.1 == i) && (!(q.1 == i + 1) && !(q.1 + 1 == i && q.2.category == 2))))) : rx_lv ls' n (rx_st2 L i v) := by
  refine ⟨h'.1, h'.2.1, ?_, fun j w hj => ?_⟩
  · unfold rx_st2
    rw [List.length_set, List.length_set, rx_clr_len]
    exact hn
  · unfold rx_st2 at hj
    rw [List.getElem?_set] at hj
    by_cases e1 : i + 1 = j
    · rw [if_pos e1] at hj
      split at hj <;> simp at hj
    · rw [if_neg e1, List.getElem?_set] at hj
      by_cases e : i = j
      · subst e
        rw [if_pos rfl] at hj
        split at hj
        · cases hj
          exact h'.2.2 (i, v) List.mem_cons_self
        · cases hj
      · rw [if_neg e] at hj
        obtain ⟨h1, h2⟩ := rx_clr_at hj
        refine h'.2.2 (j, w) (List.mem_cons_of_mem _ (List.mem_filter.mpr ⟨hall j w h1, ?_⟩))
        have e' : ¬ j = i := fun q => e q.symm
        have e2 : ¬ j = i + 1 := fun q => e1 q.symm
        by_cases hc : j + 1 = i
        · have h3 : ¬ w.category = 2 := fun q => h2 ⟨hc, q⟩
          simp [e', e2, h3]
        · simp [e', e2, hc]
/-- the locals with which a method begins -/
def rx_ea (As : List Value) : rx_L := As.flatMap (fun v => if v.category = 2 then [some v, none] else [some v])
def rx_en (n : Nat) (As : List Value) : rx_L := rx_ea As ++ List.replicate (n - (rx_ea As).length) none
theorem rx_ea_len (As : List Value) : (rx_ea As).length = (lg_sl As).length := by
  induction As with
  | nil => rfl
  | cons v vs ih =>
    have e1 : rx_ea (v :: vs) = (if v.category = 2 then [some v, none] else [some v]) ++ rx_ea vs := rfl
    have e2 : lg_sl (v :: vs) = (if v.category = 2 then [Slot.val v, Slot.second] else [Slot.val v]) ++ lg_sl vs := rfl
    rw [e1, e2, List.length_append, List.length_append, ih]
    by_cases hc : v.category = 2
    · rw [if_pos hc, if_pos hc]; rfl
    · rw [if_neg hc, if_neg hc]; rfl
theorem rx_ea_args : ∀ (As : List Value) (k i : Nat) (v : Value), (rx_ea As)[i]? = some (some v) → (k + i, v) ∈ lv_args k As := by
  intro As
  induction As with
  | nil => intro k i v h; cases h
  | cons w vs ih =>
    intro k i v h
    have e1 : rx_ea (w :: vs) = (if w.category = 2 then [some w, none] else [some w]) ++ rx_ea vs := rfl
    rw [e1] at h
    unfold lv_args
    by_cases hc : w.category = 2
    · rw [if_pos hc] at h
      rw [if_pos hc]
      match i, h with
      | 0, h =>
        cases h
        exact List.mem_cons_self
      | 1, h => simp at h
      | j + 2, h =>
        have h' : (rx_ea vs)[j]? = some (some v) := by simpa using h
        have h3 := ih (k + 2) j v h'
        rw [show k + (j + 2) = k + 2 + j by omega]
        exact List.mem_cons_of_mem _ h3
    · rw [if_neg hc] at h
      rw [if_neg hc]
      match i, h with
      | 0, h =>
        cases h
        exact List.mem_cons_self
      | j + 1, h =>
        have h' : (rx_ea vs)[j]? = some (some v) := by simpa using h
        have h3 := ih (k + 1) j v h'
        rw [show k + (j + 1) = k + 1 + j by omega]
        exact List.mem_cons_of_mem _ h3
theorem rx_entry {As : List Value} {n : Nat} (hn : (lg_sl As).length ≤ n) : rx_lv ((lg_sl As ++ List.replicate (n - (lg_sl As).length) Slot.unset).toArray) n (rx_en n As) := by
  have h := lv_entry As hn
  refine ⟨h.1, h.2.1, ?_, fun i v hi => ?_⟩
  · unfold rx_en
    rw [List.length_append, List.length_replicate, rx_ea_len]
    omega
  · unfold rx_en at hi
    by_cases hl : i < (rx_ea As).length
    · rw [List.getElem?_append_left hl] at hi
      have h3 := rx_ea_args As 0 i v hi
      rw [Nat.zero_add] at h3
      exact h.2.2 (i, v) h3
    · rw [List.getElem?_append_right (by omega)] at hi
      have h3 := List.eq_of_mem_replicate (List.mem_of_getElem? hi)
      cases h3
/-! what lies outside the world, and stays: the int arrays, the statics, the texts -/
def rx_A (V : rx_V) : Nat → Prop := fun q => V.2.1 ≤ q
/-- where a static field lies, its class's statics cell in the heap -/
def rx_Ls (C n d : String) (A : Nat → Prop) (U : State) : Prop := ∃ (c : ClassId) (k : Class) (i : Nat) (f : Field) (a : Nat) (cell : Cell), U.vm.findClass C = some c ∧ U.fieldFound? C n d = some (c, k, i, f) ∧ f.isStatic = true ∧ k.statics = some a ∧ U.heap[a]? = some cell ∧ cell.vm.isStatics = true ∧ cell.cls = c ∧ f.slot < cell.slots.size ∧ k.staticTypes[f.slot]? = some f.type ∧ ¬ A a
theorem rx_Ls_moved {C n d : String} {A : Nat → Prop} {s U : State} (hvm : s.vm.Alike U.vm) (hq : ∀ q : Nat, ¬ A q → U.heap[q]? = s.heap[q]?) (h : rx_Ls C n d A s) : rx_Ls C n d A U := by
  obtain ⟨c, k, i, f, a, cell, h1, h2, h3, h4, h5, h6, h7, h8, h9, h10⟩ := h
  obtain ⟨k', hi', he⟩ := State.fieldFound?_setVm hvm h2
  exact ⟨c, k', i, f, a, cell, by rw [hvm.findClass]; exact h1, hi', h3, by rw [he]; exact h4, by rw [hq a h10]; exact h5, h6, h7, h8, by rw [he]; exact h9, h10⟩
theorem rx_Ls_word {C n d : String} {A : Nat → Prop} {s : State} {args : Array Value} (h : rx_Ls C n d A s) : (Cond.laysStatic C n d).before args s = true := by
  obtain ⟨c, k, i, f, a, cell, h1, h2, h3, h4, h5, h6, h7, h8, h9, -⟩ := h
  show (Cond.laysStatic C n d).holds args s none s [] = true
  exact Cond.laysStatic_of h1 h2 h3 h4 h5 h6 h7 h8 h9
def rx_tN : String := "java/lang/Throwable"
def rx_E (V : rx_V) (U : State) : Prop :=
  (∀ q ∈ V.2.2.2.2, q.1 < V.2.1 ∧ va_X q.1 q.2.1 q.2.2 U U.heap) ∧ V.2.1 ≤ U.heap.size ∧
  (∀ q, V.2.2.2.2[1]? = some q → va_Z "ScoreRoads" "LEAST_VALUES" "[I" (.ref q.1) (rx_A V) U U.heap) ∧ (∀ q, V.2.2.2.2[2]? = some q → va_Z "ScoreRoads" "MOST_VALUES" "[I" (.ref q.1) (rx_A V) U U.heap) ∧
  (va_Zq rx_tN "UNASSIGNED_STACK" "[Ljava/lang/StackTraceElement;" (rx_A V) U U.heap ∧ rx_Ls rx_tN "UNASSIGNED_STACK" "[Ljava/lang/StackTraceElement;" (rx_A V) U) ∧
  (va_Zq rx_tN "SUPPRESSED_SENTINEL" "Ljava/util/List;" (rx_A V) U U.heap ∧ rx_Ls rx_tN "SUPPRESSED_SENTINEL" "Ljava/util/List;" (rx_A V) U) ∧
  (∀ q ∈ rx_strs, ∃ sa, vk_R "ScoreRoads" q.1 q.2 sa U) ∧
  (∀ E E' : Nat, E < 3 → E' < 3 → E ≠ E' → ∃ a b, U.vm.findClass (rx_exn E) = some a ∧ U.vm.findClass (rx_exn E') = some b ∧ U.vm.assignable a b = false)
theorem rx_E_moved {V : rx_V} {s U : State} (hW : s.WarmedH U.vm) (hz : V.2.1 ≤ U.heap.size) (hq : ∀ q : Nat, q < V.2.1 → U.heap[q]? = s.heap[q]?) (h : rx_E V s) : rx_E V U := by
  obtain ⟨h1, h2, h3, h4, ⟨h5, h6⟩, ⟨h7, h8⟩, h9, h10⟩ := h
  have hvm := hW.alike
  have hA : ∀ q : Nat, ¬ rx_A V q → U.heap[q]? = s.heap[q]? := fun q hn => hq q (Nat.not_le.mp hn)
  have hA' : ∀ q : Nat, q < s.heap.size → ¬ rx_A V q → U.heap[q]? = s.heap[q]? := fun q _ hn => hA q hn
  refine ⟨fun q hm => ⟨(h1 q hm).1, ?_⟩, hz, fun q hm => va_Z.moved hvm ((h3 q hm).kept hA'), fun q hm => va_Z.moved hvm ((h4 q hm).kept hA'), ⟨va_Zq.moved hvm (h5.kept hA'), rx_Ls_moved hvm hA h6⟩, ⟨va_Zq.moved hvm (h7.kept hA'), rx_Ls_moved hvm hA h8⟩, fun q hm => ?_, fun E E' e1 e2 e3 => ?_⟩
  · exact va_X.moved hvm ((h1 q hm).2.kept (hq _ (h1 q hm).1))
  · obtain ⟨sa, hs⟩ := h9 q hm
    exact ⟨sa, vk_R.warm hW hs⟩
  · obtain ⟨a, b, f1, f2, f3⟩ := h10 E E' e1 e2 e3
    exact ⟨a, b, by rw [hvm.findClass]; exact f1, by rw [hvm.findClass]; exact f2, by rw [hvm.assignable]; exact f3⟩
end
section
/-! the judgement and its rows -/
def rx_tys (V : rx_V) : List (ClassId × FieldType) := rx_ats.mapIdx (fun i t => (V.2.2.2.1 i, t))
theorem rx_tys_of {V : rx_V} {i : Nat} {t : FieldType} (h : rx_ats[i]? = some t) : (rx_tys V)[i]? = some (V.2.2.2.1 i, t) := by
  unfold rx_tys
  rw [List.getElem?_mapIdx, h]; rfl
def rx_F (d : Nat) (M : rx_T) (p : Program) (R : Room) (s : State) (m : MethodId) (args : Array Value) (meth : Method) (c : Code) : Prop :=
  p.tables.exec = Jvm.exec ∧ c.code = M.2.1 ∧ c.maxLocals = M.2.2.1 ∧ meth.sig.returnType = M.2.2.2.1 ∧ meth.locks = false ∧ s.vm.findClass M.1.cls = some m.cls ∧ (∀ w ∈ rx_tbl, w.before args s = true) ∧
  meth.name = M.1.name ∧ d ≤ R.frames ∧ 32 * d ≤ R.locals ∧ c.exceptionTable.toList.map (fun x => (x.startPc, x.endPc, x.handlerPc, x.catchType)) = M.2.2.2.2
def rx_G (V : rx_V) (kc ks : Nat) (R : Room) (s : State) (h : List va_E) (H : Heap) (locs : List Loc) (cells slots : Nat) : Prop :=
  H.size = V.2.1 + h.length ∧ va_P V.2.2.1 rx_cl (rx_ws V.2.1 h) H ∧ va_S (rx_A V) s.heap H locs ∧ va_K V.2.2.1 rx_cl (rx_tys V) s ∧ rx_E V s ∧ V.2.1 ≤ s.heap.size ∧ cells + kc ≤ R.cells ∧ slots + ks ≤ R.slots
/-- the outcome o at t: the answer and the world that Q allows -/
def rx_O (V : rx_V) (s : State) (Q : rx_R → List va_E → Prop) (o : Outcome) (t : State) : Prop :=
  ∃ (r : rx_R) (h : List va_E), Q r h ∧ t.heap.size = V.2.1 + h.length ∧ va_P V.2.2.1 rx_cl (rx_ws V.2.1 h) t.heap ∧ va_F (rx_A V) s t ∧
    (match r with
      | .inl v => o = .returned v
      | .inr E => ∃ (a : Nat) (ce : Cell), o = .threw a ∧ t.heap[a]? = some ce ∧ ce.vm = .none ∧ s.vm.findClass (rx_exn E) = some ce.cls)
def rx_N (V : rx_V) (s : State) (t : State) (mc ms : Nat) : Prop := ∃ L, s.WarmedH t.vm ∧ s.sameButNew ({ t with vm := s.vm } : State) L mc ms ∧ ∀ q ∈ L, rx_A V q.base
def rx_Z (V : rx_V) (below : List Frame) (s : State) (mc ms : Nat) (Q : rx_R → List va_E → Prop) : State → Prop := fun t =>
  ∃ o, t.status = .running ∧ Ended t below o ∧ rx_O V s Q o t ∧ rx_N V s t mc ms
def rx_W (V : rx_V) (d kc ks : Nat) (M : rx_T) (pc : Nat) (L : rx_L) (S : List Value) (h : List va_E) (Q : rx_R → List va_E → Prop) : Prop :=
  ∀ (p : Program) (e : Env) (R : Room) (s : State) (m : MethodId) (args : Array Value) (below : List Frame) (meth : Method) (c : Code) (H : Heap) (locs : List Loc) (cells slots : Nat) (ls : Array Slot),
    rx_F d M p R s m args meth c → rx_G V kc ks R s h H locs cells slots → rx_lv ls M.2.2.1 L →
    W p V.1 e R s m args below meth c H locs cells slots (rx_Z V below s (cells + kc) (slots + ks) Q) (F0 m pc ls S)
theorem rx_mono {p : Program} {l : Launch} {e : Env} {R : Room} {s : State} {m : MethodId} {args : Array Value} {below : List Frame} {meth : Method} {c : Code} {H : Heap} {locs : List Loc} {cells slots : Nat} {Q Q' : State → Prop} {g : JFrame}
    (hq : ∀ t, Q t → Q' t) (w : W p l e R s m args below meth c H locs cells slots Q g) : W p l e R s m args below meth c H locs cells slots Q' g := fun T hT X => by
  obtain ⟨t, a, b⟩ := w T hT X
  exact ⟨t, a, hq t b⟩
section RX
variable {V : rx_V} {d kc ks : Nat} {M : rx_T} {pc : Nat} {L : rx_L} {S : List Value} {h : List va_E} {Q : rx_R → List va_E → Prop}
/-- another end -/
theorem rx_cons {Q' : rx_R → List va_E → Prop} (w : rx_W V d kc ks M pc L S h Q') (hq : ∀ r h', Q' r h' → Q r h') : rx_W V d kc ks M pc L S h Q := fun p e R s m args below meth c H locs cells slots ls F G hl =>
  rx_mono (fun _ ⟨o, a, b, ⟨r, h', c1, c2⟩, n⟩ => ⟨o, a, b, ⟨r, h', hq r h' c1, c2⟩, n⟩) (w p e R s m args below meth c H locs cells slots ls F G hl)
/-- more room than is needed -/
theorem rx_more {d0 kc0 ks0 : Nat} (w : rx_W V d0 kc0 ks0 M pc L S h Q) (hd : d0 ≤ d) (hc : kc0 ≤ kc) (hs : ks0 ≤ ks) : rx_W V d kc ks M pc L S h Q := by
  intro p e R s m args below meth c H locs cells slots ls F G hl
  obtain ⟨f1, f2, f3, f4, f5, f6, f7, f8, f9, f10, f11⟩ := F
  obtain ⟨g1, g2, g3, g4, g5, g6, g7, g8⟩ := G
  refine rx_mono (fun t ⟨o, a, b, c1, L9, n1, n2, n3⟩ => ⟨o, a, b, c1, L9, n1, n2.mono (by omega) (by omega), n3⟩) (w p e R s m args below meth c H locs cells slots ls ⟨f1, f2, f3, f4, f5, f6, f7, f8, by omega, by omega, f11⟩ ⟨g1, g2, g3, g4, g5, g6, by omega, by omega⟩ hl)
theorem rx_iconst {n : Int} {v : Int32} (hd : decode M.2.1 pc = .ok (.iconst n, 1)) (hv : Int32.ofInt n = v) (k : rx_W V d kc ks M (pc + 1) L (.int v :: S) h Q) : rx_W V d kc ks M pc L S h Q :=
  fun p e R s m args below meth c H locs cells slots ls F G hl => lv_iconst F.1 F.2.1 hd hv (k p e R s m args below meth c H locs cells slots ls F G hl)
theorem rx_bipush {n : Int} {v : Int32} (hd : decode M.2.1 pc = .ok (.bipush n, 2)) (hv : (Int8.ofInt n).toInt32 = v) (k : rx_W V d kc ks M (pc + 2) L (.int v :: S) h Q) : rx_W V d kc ks M pc L S h Q :=
  fun p e R s m args below meth c H locs cells slots ls F G hl => lv_bipush F.1 F.2.1 hd hv (k p e R s m args below meth c H locs cells slots ls F G hl)
theorem rx_sipush {n : Int} {v : Int32} (hd : decode M.2.1 pc = .ok (.sipush n, 3)) (hv : (Int16.ofInt n).toInt32 = v) (k : rx_W V d kc ks M (pc + 3) L (.int v :: S) h Q) : rx_W V d kc ks M pc L S h Q :=
  fun p e R s m args below meth c H locs cells slots ls F G hl => lv_sipush F.1 F.2.1 hd hv (k p e R s m args below meth c H locs cells slots ls F G hl)
theorem rx_lconst {n : Fin 2} {v : Int64} (hd : decode M.2.1 pc = .ok (.lconst n, 1)) (hv : Int64.ofNat (n : Nat) = v) (k : rx_W V d kc ks M (pc + 1) L (.long v :: S) h Q) : rx_W V d kc ks M pc L S h Q :=
  fun p e R s m args below meth c H locs cells slots ls F G hl => lv_lconst F.1 F.2.1 hd hv (k p e R s m args below meth c H locs cells slots ls F G hl)
theorem rx_null (hd : decode M.2.1 pc = .ok (.aconst_null, 1)) (k : rx_W V d kc ks M (pc + 1) L (.null :: S) h Q) : rx_W V d kc ks M pc L S h Q :=
  fun p e R s m args below meth c H locs cells slots ls F G hl => lv_null F.1 F.2.1 hd (k p e R s m args below meth c H locs cells slots ls F G hl)
theorem rx_iload_n {n : Fin 4} {x : Int32} (hd : decode M.2.1 pc = .ok (.iload_n n, 1)) (hv : L[(n : Nat)]? = some (some (.int x))) (k : rx_W V d kc ks M (pc + 1) L (.int x :: S) h Q) : rx_W V d kc ks M pc L S h Q :=
  fun p e R s m args below meth c H locs cells slots ls F G hl => lv_iload_n F.1 F.2.1 hd rfl (hl.2.2.2 _ _ hv) (k p e R s m args below meth c H locs cells slots ls F G hl)
theorem rx_iload {n : Nat} {x : Int32} (hd : decode M.2.1 pc = .ok (.iload n, 2)) (hv : L[n]? = some (some (.int x))) (k : rx_W V d kc ks M (pc + 2) L (.int x :: S) h Q) : rx_W V d kc ks M pc L S h Q :=
  fun p e R s m args below meth c H locs cells slots ls F G hl => lv_iload F.1 F.2.1 hd (hl.2.2.2 _ _ hv) (k p e R s m args below meth c H locs cells slots ls F G hl)
theorem rx_lload_n {n : Fin 4} {x : Int64} (hd : decode M.2.1 pc = .ok (.lload_n n, 1)) (hv : L[(n : Nat)]? = some (some (.long x))) (k : rx_W V d kc ks M (pc + 1) L (.long x :: S) h Q) : rx_W V d kc ks M pc L S h Q :=
  fun p e R s m args below meth c H locs cells slots ls F G hl => lv_lload_n F.1 F.2.1 hd rfl (hl.2.2.2 _ _ hv) (k p e R s m args below meth c H locs cells slots ls F G hl)
theorem rx_lload {n : Nat} {x : Int64} (hd : decode M.2.1 pc = .ok (.lload n, 2)) (hv : L[n]? = some (some (.long x))) (k : rx_W V d kc ks M (pc + 2) L (.long x :: S) h Q) : rx_W V d kc ks M pc L S h Q :=
  fun p e R s m args below meth c H locs cells slots ls F G hl => lv_lload F.1 F.2.1 hd (hl.2.2.2 _ _ hv) (k p e R s m args below meth c H locs cells slots ls F G hl)
/-- a reference or null, as an Option -/
theorem rx_aload_n {n : Fin 4} {x : Option Nat} (hd : decode M.2.1 pc = .ok (.aload_n n, 1)) (hv : L[(n : Nat)]? = some (some (va_rf x))) (k : rx_W V d kc ks M (pc + 1) L (va_rf x :: S) h Q) : rx_W V d kc ks M pc L S h Q :=
  fun p e R s m args below meth c H locs cells slots ls F G hl => by
    cases x with
    | none => exact lv_aload_nN F.1 F.2.1 hd rfl (hl.2.2.2 _ _ hv) (k p e R s m args below meth c H locs cells slots ls F G hl)
    | some a => exact lv_aload_n F.1 F.2.1 hd rfl (hl.2.2.2 _ _ hv) (k p e R s m args below meth c H locs cells slots ls F G hl)
theorem rx_aload {n : Nat} {x : Option Nat} (hd : decode M.2.1 pc = .ok (.aload n, 2)) (hv : L[n]? = some (some (va_rf x))) (k : rx_W V d kc ks M (pc + 2) L (va_rf x :: S) h Q) : rx_W V d kc ks M pc L S h Q :=
  fun p e R s m args below meth c H locs cells slots ls F G hl => by
    cases x with
    | none => exact lv_aloadN F.1 F.2.1 hd (hl.2.2.2 _ _ hv) (k p e R s m args below meth c H locs cells slots ls F G hl)
    | some a => exact lv_aload F.1 F.2.1 hd (hl.2.2.2 _ _ hv) (k p e R s m args below meth c H locs cells slots ls F G hl)
theorem rx_aload_nr {n : Fin 4} {a : Nat} (hd : decode M.2.1 pc = .ok (.aload_n n, 1)) (hv : L[(n : Nat)]? = some (some (.ref a))) (k : rx_W V d kc ks M (pc + 1) L (.ref a :: S) h Q) : rx_W V d kc ks M pc L S h Q :=
  rx_aload_n (x := some a) hd hv k
theorem rx_aload_r {n : Nat} {a : Nat} (hd : decode M.2.1 pc = .ok (.aload n, 2)) (hv : L[n]? = some (some (.ref a))) (k : rx_W V d kc ks M (pc + 2) L (.ref a :: S) h Q) : rx_W V d kc ks M pc L S h Q :=
  rx_aload (x := some a) hd hv k
theorem rx_istore_n {n : Fin 4} {x : Int32} (hd : decode M.2.1 pc = .ok (.istore_n n, 1)) (hn : (n : Nat) < L.length) (k : rx_W V d kc ks M (pc + 1) (rx_st1 L n (.int x)) S h Q) : rx_W V d kc ks M pc L (.int x :: S) h Q :=
  fun p e R s m args below meth c H locs cells slots ls F G hl => lv_istore_n F.1 F.2.1 hd rfl (rx_has hl) (by rw [← hl.2.2.1]; exact hn) rfl (fun ls' h' => k p e R s m args below meth c H locs cells slots ls' F G (rx_lv1 hl.2.2.1 (fun _ _ => rx_al_in.mpr) h'))
theorem rx_istore {n : Nat} {x : Int32} (hd : decode M.2.1 pc = .ok (.istore n, 2)) (hn : n < L.length) (k : rx_W V d kc ks M (pc + 2) (rx_st1 L n (.int x)) S h Q) : rx_W V d kc ks M pc L (.int x :: S) h Q :=
  fun p e R s m args below meth c H locs cells slots ls F G hl => lv_istore F.1 F.2.1 hd (rx_has hl) (by rw [← hl.2.2.1]; exact hn) rfl (fun ls' h' => k p e R s m args below meth c H locs cells slots ls' F G (rx_lv1 hl.2.2.1 (fun _ _ => rx_al_in.mpr) h'))
theorem rx_lstore_n {n : Fin 4} {x : Int64} (hd : decode M.2.1 pc = .ok (.lstore_n n, 1)) (hn : (n : Nat) + 1 < L.length) (k : rx_W V d kc ks M (pc + 1) (rx_st2 L n (.long x)) S h Q) : rx_W V d kc ks M pc L (.long x :: S) h Q :=
  fun p e R s m args below meth c H locs cells slots ls F G hl => lv_lstore_n F.1 F.2.1 hd rfl (rx_has hl) (by rw [← hl.2.2.1]; exact hn) rfl (fun ls' h' => k p e R s m args below meth c H locs cells slots ls' F G (rx_lv2 hl.2.2.1 (fun _ _ => rx_al_in.mpr) h'))
theorem rx_lstore {n : Nat} {x : Int64} (hd : decode M.2.1 pc = .ok (.lstore n, 2)) (hn : n + 1 < L.length) (k : rx_W V d kc ks M (pc + 2) (rx_st2 L n (.long x)) S h Q) : rx_W V d kc ks M pc L (.long x :: S) h Q :=
  fun p e R s m args below meth c H locs cells slots ls F G hl => lv_lstore F.1 F.2.1 hd (rx_has hl) (by rw [← hl.2.2.1]; exact hn) rfl (fun ls' h' => k p e R s m args below meth c H locs cells slots ls' F G (rx_lv2 hl.2.2.1 (fun _ _ => rx_al_in.mpr) h'))
theorem rx_astore_n {n : Fin 4} {x : Option Nat} (hd : decode M.2.1 pc = .ok (.astore_n n, 1)) (hn : (n : Nat) < L.length) (k : rx_W V d kc ks M (pc + 1) (rx_st1 L n (va_rf x)) S h Q) : rx_W V d kc ks M pc L (va_rf x :: S) h Q :=
  fun p e R s m args below meth c H locs cells slots ls F G hl => by
    cases x with
    | none => exact lv_astore_nN F.1 F.2.1 hd rfl (rx_has hl) (by rw [← hl.2.2.1]; exact hn) rfl (fun ls' h' => k p e R s m args below meth c H locs cells slots ls' F G (rx_lv1 hl.2.2.1 (fun _ _ => rx_al_in.mpr) h'))
    | some a => exact lv_astore_n F.1 F.2.1 hd rfl (rx_has hl) (by rw [← hl.2.2.1]; exact hn) rfl (fun ls' h' => k p e R s m args below meth c H locs cells slots ls' F G (rx_lv1 hl.2.2.1 (fun _ _ => rx_al_in.mpr) h'))
theorem rx_astore {n : Nat} {x : Option Nat} (hd : decode M.2.1 pc = .ok (.astore n, 2)) (hn : n < L.length) (k : rx_W V d kc ks M (pc + 2) (rx_st1 L n (va_rf x)) S h Q) : rx_W V d kc ks M pc L (va_rf x :: S) h Q :=
  fun p e R s m args below meth c H locs cells slots ls F G hl => by
    cases x with
    | none => exact lv_astoreN F.1 F.2.1 hd (rx_has hl) (by rw [← hl.2.2.1]; exact hn) rfl (fun ls' h' => k p e R s m args below meth c H locs cells slots ls' F G (rx_lv1 hl.2.2.1 (fun _ _ => rx_al_in.mpr) h'))
    | some a => exact lv_astore F.1 F.2.1 hd (rx_has hl) (by rw [← hl.2.2.1]; exact hn) rfl (fun ls' h' => k p e R s m args below meth c H locs cells slots ls' F G (rx_lv1 hl.2.2.1 (fun _ _ => rx_al_in.mpr) h'))
theorem rx_astore_nr {n : Fin 4} {a : Nat} (hd : decode M.2.1 pc = .ok (.astore_n n, 1)) (hn : (n : Nat) < L.length) (k : rx_W V d kc ks M (pc + 1) (rx_st1 L n (.ref a)) S h Q) : rx_W V d kc ks M pc L (.ref a :: S) h Q :=
  rx_astore_n (x := some a) hd hn k
theorem rx_astore_r {n : Nat} {a : Nat} (hd : decode M.2.1 pc = .ok (.astore n, 2)) (hn : n < L.length) (k : rx_W V d kc ks M (pc + 2) (rx_st1 L n (.ref a)) S h Q) : rx_W V d kc ks M pc L (.ref a :: S) h Q :=
  rx_astore (x := some a) hd hn k
theorem rx_iinc {i : Nat} {n : Int} {x v : Int32} (hd : decode M.2.1 pc = .ok (.iinc i n, 3)) (hx : L[i]? = some (some (.int x))) (hv : x + Int32.ofInt n = v) (k : rx_W V d kc ks M (pc + 3) (rx_st1 L i (.int v)) S h Q) : rx_W V d kc ks M pc L S h Q :=
  fun p e R s m args below meth c H locs cells slots ls F G hl => lv_iinc (k := 0) F.1 F.2.1 hd (rx_has1 hl hx) rfl hv (by rw [← hl.2.2.1]; exact (List.getElem?_eq_some_iff.mp hx).1) rfl (fun ls' h' => k p e R s m args below meth c H locs cells slots ls' F G (rx_lv1 hl.2.2.1 (fun _ _ q => List.mem_cons_of_mem _ (rx_al_in.mpr q)) h'))
theorem rx_iadd {x y : Int32} (hd : decode M.2.1 pc = .ok (.iadd, 1)) (k : rx_W V d kc ks M (pc + 1) L (.int (x + y) :: S) h Q) : rx_W V d kc ks M pc L (.int y :: .int x :: S) h Q :=
  fun p e R s m args below meth c H locs cells slots ls F G hl => lv_iadd F.1 F.2.1 hd (k p e R s m args below meth c H locs cells slots ls F G hl)
theorem rx_isub {x y : Int32} (hd : decode M.2.1 pc = .ok (.isub, 1)) (k : rx_W V d kc ks M (pc + 1) L (.int (x - y) :: S) h Q) : rx_W V d kc ks M pc L (.int y :: .int x :: S) h Q :=
  fun p e R s m args below meth c H locs cells slots ls F G hl => lv_isub F.1 F.2.1 hd (k p e R s m args below meth c H locs cells slots ls F G hl)
theorem rx_imul {x y : Int32} (hd : decode M.2.1 pc = .ok (.imul, 1)) (k : rx_W V d kc ks M (pc + 1) L (.int (x * y) :: S) h Q) : rx_W V d kc ks M pc L (.int y :: .int x :: S) h Q :=
  fun p e R s m args below meth c H locs cells slots ls F G hl => lv_imul F.1 F.2.1 hd (k p e R s m args below meth c H locs cells slots ls F G hl)
theorem rx_iand {x y : Int32} (hd : decode M.2.1 pc = .ok (.iand, 1)) (k : rx_W V d kc ks M (pc + 1) L (.int (x &&& y) :: S) h Q) : rx_W V d kc ks M pc L (.int y :: .int x :: S) h Q :=
  fun p e R s m args below meth c H locs cells slots ls F G hl => lv_iand F.1 F.2.1 hd (k p e R s m args below meth c H locs cells slots ls F G hl)
theorem rx_ior {x y : Int32} (hd : decode M.2.1 pc = .ok (.ior, 1)) (k : rx_W V d kc ks M (pc + 1) L (.int (x ||| y) :: S) h Q) : rx_W V d kc ks M pc L (.int y :: .int x :: S) h Q :=
  fun p e R s m args below meth c H locs cells slots ls F G hl => lv_ior F.1 F.2.1 hd (k p e R s m args below meth c H locs cells slots ls F G hl)
theorem rx_ixor {x y : Int32} (hd : decode M.2.1 pc = .ok (.ixor, 1)) (k : rx_W V d kc ks M (pc + 1) L (.int (x ^^^ y) :: S) h Q) : rx_W V d kc ks M pc L (.int y :: .int x :: S) h Q :=
  fun p e R s m args below meth c H locs cells slots ls F G hl => lv_ixor F.1 F.2.1 hd (k p e R s m args below meth c H locs cells slots ls F G hl)
theorem rx_ishl {x y : Int32} (hd : decode M.2.1 pc = .ok (.ishl, 1)) (k : rx_W V d kc ks M (pc + 1) L (.int (x <<< (y &&& 31)) :: S) h Q) : rx_W V d kc ks M pc L (.int y :: .int x :: S) h Q :=
  fun p e R s m args below meth c H locs cells slots ls F G hl => lv_ishl F.1 F.2.1 hd (k p e R s m args below meth c H locs cells slots ls F G hl)
theorem rx_ishr {x y : Int32} (hd : decode M.2.1 pc = .ok (.ishr, 1)) (k : rx_W V d kc ks M (pc + 1) L (.int (x >>> (y &&& 31)) :: S) h Q) : rx_W V d kc ks M pc L (.int y :: .int x :: S) h Q :=
  fun p e R s m args below meth c H locs cells slots ls F G hl => lv_ishr F.1 F.2.1 hd (k p e R s m args below meth c H locs cells slots ls F G hl)
theorem rx_idiv {x y : Int32} (hd : decode M.2.1 pc = .ok (.idiv, 1)) (hne : ¬ y = 0) (k : rx_W V d kc ks M (pc + 1) L (.int (x / y) :: S) h Q) : rx_W V d kc ks M pc L (.int y :: .int x :: S) h Q :=
  fun p e R s m args below meth c H locs cells slots ls F G hl => lv_idiv F.1 F.2.1 hd hne (k p e R s m args below meth c H locs cells slots ls F G hl)
theorem rx_irem {x y : Int32} (hd : decode M.2.1 pc = .ok (.irem, 1)) (hne : ¬ y = 0) (k : rx_W V d kc ks M (pc + 1) L (.int (x - x / y * y) :: S) h Q) : rx_W V d kc ks M pc L (.int y :: .int x :: S) h Q :=
  fun p e R s m args below meth c H locs cells slots ls F G hl => lv_irem F.1 F.2.1 hd hne (k p e R s m args below meth c H locs cells slots ls F G hl)
theorem rx_ineg {x : Int32} (hd : decode M.2.1 pc = .ok (.ineg, 1)) (k : rx_W V d kc ks M (pc + 1) L (.int (-x) :: S) h Q) : rx_W V d kc ks M pc L (.int x :: S) h Q :=
  fun p e R s m args below meth c H locs cells slots ls F G hl => lv_ineg F.1 F.2.1 hd (k p e R s m args below meth c H locs cells slots ls F G hl)
theorem rx_ladd {x y : Int64} (hd : decode M.2.1 pc = .ok (.ladd, 1)) (k : rx_W V d kc ks M (pc + 1) L (.long (x + y) :: S) h Q) : rx_W V d kc ks M pc L (.long y :: .long x :: S) h Q :=
  fun p e R s m args below meth c H locs cells slots ls F G hl => lv_ladd F.1 F.2.1 hd (k p e R s m args below meth c H locs cells slots ls F G hl)
theorem rx_lsub {x y : Int64} (hd : decode M.2.1 pc = .ok (.lsub, 1)) (k : rx_W V d kc ks M (pc + 1) L (.long (x - y) :: S) h Q) : rx_W V d kc ks M pc L (.long y :: .long x :: S) h Q :=
  fun p e R s m args below meth c H locs cells slots ls F G hl => lv_lsub F.1 F.2.1 hd (k p e R s m args below meth c H locs cells slots ls F G hl)
theorem rx_lmul {x y : Int64} (hd : decode M.2.1 pc = .ok (.lmul, 1)) (k : rx_W V d kc ks M (pc + 1) L (.long (x * y) :: S) h Q) : rx_W V d kc ks M pc L (.long y :: .long x :: S) h Q :=
  fun p e R s m args below meth c H locs cells slots ls F G hl => lv_lmul F.1 F.2.1 hd (k p e R s m args below meth c H locs cells slots ls F G hl)
theorem rx_land {x y : Int64} (hd : decode M.2.1 pc = .ok (.land, 1)) (k : rx_W V d kc ks M (pc + 1) L (.long (x &&& y) :: S) h Q) : rx_W V d kc ks M pc L (.long y :: .long x :: S) h Q :=
  fun p e R s m args below meth c H locs cells slots ls F G hl => lv_land F.1 F.2.1 hd (k p e R s m args below meth c H locs cells slots ls F G hl)
theorem rx_lor {x y : Int64} (hd : decode M.2.1 pc = .ok (.lor, 1)) (k : rx_W V d kc ks M (pc + 1) L (.long (x ||| y) :: S) h Q) : rx_W V d kc ks M pc L (.long y :: .long x :: S) h Q :=
  fun p e R s m args below meth c H locs cells slots ls F G hl => lv_lor F.1 F.2.1 hd (k p e R s m args below meth c H locs cells slots ls F G hl)
theorem rx_i2l {x : Int32} (hd : decode M.2.1 pc = .ok (.i2l, 1)) (k : rx_W V d kc ks M (pc + 1) L (.long x.toInt64 :: S) h Q) : rx_W V d kc ks M pc L (.int x :: S) h Q :=
  fun p e R s m args below meth c H locs cells slots ls F G hl => lv_i2l F.1 F.2.1 hd rfl (k p e R s m args below meth c H locs cells slots ls F G hl)
theorem rx_l2i {x : Int64} (hd : decode M.2.1 pc = .ok (.l2i, 1)) (k : rx_W V d kc ks M (pc + 1) L (.int x.toInt32 :: S) h Q) : rx_W V d kc ks M pc L (.long x :: S) h Q :=
  fun p e R s m args below meth c H locs cells slots ls F G hl => lv_l2i F.1 F.2.1 hd rfl (k p e R s m args below meth c H locs cells slots ls F G hl)
theorem rx_lshl {x : Int64} {y : Int32} (hd : decode M.2.1 pc = .ok (.lshl, 1)) (k : rx_W V d kc ks M (pc + 1) L (.long (x <<< (y.toInt64 &&& 63)) :: S) h Q) : rx_W V d kc ks M pc L (.int y :: .long x :: S) h Q :=
  fun p e R s m args below meth c H locs cells slots ls F G hl => lv_lshl F.1 F.2.1 hd rfl (k p e R s m args below meth c H locs cells slots ls F G hl)
theorem rx_lcmp {x y : Int64} (hd : decode M.2.1 pc = .ok (.lcmp, 1)) (k : rx_W V d kc ks M (pc + 1) L (.int (lg_cmp x y) :: S) h Q) : rx_W V d kc ks M pc L (.long y :: .long x :: S) h Q :=
  fun p e R s m args below meth c H locs cells slots ls F G hl => W.lcmp F.1 F.2.1 hd (k p e R s m args below meth c H locs cells slots ls F G hl)
theorem rx_dup {a : Value} (hd : decode M.2.1 pc = .ok (.dup, 1)) (ha : a.category = 1) (k : rx_W V d kc ks M (pc + 1) L (a :: a :: S) h Q) : rx_W V d kc ks M pc L (a :: S) h Q :=
  fun p e R s m args below meth c H locs cells slots ls F G hl => lv_dup F.1 F.2.1 hd ha (k p e R s m args below meth c H locs cells slots ls F G hl)
theorem rx_pop {a : Value} (hd : decode M.2.1 pc = .ok (.pop, 1)) (ha : a.category = 1) (k : rx_W V d kc ks M (pc + 1) L (S) h Q) : rx_W V d kc ks M pc L (a :: S) h Q :=
  fun p e R s m args below meth c H locs cells slots ls F G hl => lv_pop F.1 F.2.1 hd ha (k p e R s m args below meth c H locs cells slots ls F G hl)
theorem rx_dup_x1 {a b : Value} (hd : decode M.2.1 pc = .ok (.dup_x1, 1)) (ha : a.category = 1) (hb : b.category = 1) (k : rx_W V d kc ks M (pc + 1) L (a :: b :: a :: S) h Q) : rx_W V d kc ks M pc L (a :: b :: S) h Q :=
  fun p e R s m args below meth c H locs cells slots ls F G hl => lv_dup_x1 F.1 F.2.1 hd ha hb (k p e R s m args below meth c H locs cells slots ls F G hl)
theorem rx_dup2 {a b : Value} (hd : decode M.2.1 pc = .ok (.dup2, 1)) (ha : a.category = 1) (hb : b.category = 1) (k : rx_W V d kc ks M (pc + 1) L (a :: b :: a :: b :: S) h Q) : rx_W V d kc ks M pc L (a :: b :: S) h Q :=
  fun p e R s m args below meth c H locs cells slots ls F G hl => lv_dup2_11 F.1 F.2.1 hd ha hb (k p e R s m args below meth c H locs cells slots ls F G hl)
theorem rx_if_eq {x : Int32} {off : Int} {tgt : Nat} (hd : decode M.2.1 pc = .ok (.ifCond .eq off, 3)) (ht : (pc : Int) + off = (tgt : Int)) (kt : x = 0 → rx_W V d kc ks M tgt L S h Q) (kf : ¬ x = 0 → rx_W V d kc ks M (pc + 3) L S h Q) : rx_W V d kc ks M pc L (.int x :: S) h Q :=
  fun p e R s m args below meth c H locs cells slots ls F G hl => lv_if_eq F.1 F.2.1 hd ht (fun q => kt q p e R s m args below meth c H locs cells slots ls F G hl) (fun q => kf q p e R s m args below meth c H locs cells slots ls F G hl)
theorem rx_icmp_eq {x y : Int32} {off : Int} {tgt : Nat} (hd : decode M.2.1 pc = .ok (.if_icmp .eq off, 3)) (ht : (pc : Int) + off = (tgt : Int)) (kt : x = y → rx_W V d kc ks M tgt L S h Q) (kf : ¬ x = y → rx_W V d kc ks M (pc + 3) L S h Q) : rx_W V d kc ks M pc L (.int y :: .int x :: S) h Q :=
  fun p e R s m args below meth c H locs cells slots ls F G hl => lv_icmp_eq F.1 F.2.1 hd ht (fun q => kt q p e R s m args below meth c H locs cells slots ls F G hl) (fun q => kf q p e R s m args below meth c H locs cells slots ls F G hl)
theorem rx_if_ne {x : Int32} {off : Int} {tgt : Nat} (hd : decode M.2.1 pc = .ok (.ifCond .ne off, 3)) (ht : (pc : Int) + off = (tgt : Int)) (kt : ¬ x = 0 → rx_W V d kc ks M tgt L S h Q) (kf : x = 0 → rx_W V d kc ks M (pc + 3) L S h Q) : rx_W V d kc ks M pc L (.int x :: S) h Q :=
  fun p e R s m args below meth c H locs cells slots ls F G hl => lv_if_ne F.1 F.2.1 hd ht (fun q => kt q p e R s m args below meth c H locs cells slots ls F G hl) (fun q => kf q p e R s m args below meth c H locs cells slots ls F G hl)
theorem rx_icmp_ne {x y : Int32} {off : Int} {tgt : Nat} (hd : decode M.2.1 pc = .ok (.if_icmp .ne off, 3)) (ht : (pc : Int) + off = (tgt : Int)) (kt : ¬ x = y → rx_W V d kc ks M tgt L S h Q) (kf : x = y → rx_W V d kc ks M (pc + 3) L S h Q) : rx_W V d kc ks M pc L (.int y :: .int x :: S) h Q :=
  fun p e R s m args below meth c H locs cells slots ls F G hl => lv_icmp_ne F.1 F.2.1 hd ht (fun q => kt q p e R s m args below meth c H locs cells slots ls F G hl) (fun q => kf q p e R s m args below meth c H locs cells slots ls F G hl)
theorem rx_if_lt {x : Int32} {off : Int} {tgt : Nat} (hd : decode M.2.1 pc = .ok (.ifCond .lt off, 3)) (ht : (pc : Int) + off = (tgt : Int)) (kt : x < 0 → rx_W V d kc ks M tgt L S h Q) (kf : ¬ x < 0 → rx_W V d kc ks M (pc + 3) L S h Q) : rx_W V d kc ks M pc L (.int x :: S) h Q :=
  fun p e R s m args below meth c H locs cells slots ls F G hl => lv_if_lt F.1 F.2.1 hd ht (fun q => kt q p e R s m args below meth c H locs cells slots ls F G hl) (fun q => kf q p e R s m args below meth c H locs cells slots ls F G hl)
theorem rx_icmp_lt {x y : Int32} {off : Int} {tgt : Nat} (hd : decode M.2.1 pc = .ok (.if_icmp .lt off, 3)) (ht : (pc : Int) + off = (tgt : Int)) (kt : x < y → rx_W V d kc ks M tgt L S h Q) (kf : ¬ x < y → rx_W V d kc ks M (pc + 3) L S h Q) : rx_W V d kc ks M pc L (.int y :: .int x :: S) h Q :=
  fun p e R s m args below meth c H locs cells slots ls F G hl => lv_icmp_lt F.1 F.2.1 hd ht (fun q => kt q p e R s m args below meth c H locs cells slots ls F G hl) (fun q => kf q p e R s m args below meth c H locs cells slots ls F G hl)
theorem rx_if_ge {x : Int32} {off : Int} {tgt : Nat} (hd : decode M.2.1 pc = .ok (.ifCond .ge off, 3)) (ht : (pc : Int) + off = (tgt : Int)) (kt : 0 ≤ x → rx_W V d kc ks M tgt L S h Q) (kf : ¬ 0 ≤ x → rx_W V d kc ks M (pc + 3) L S h Q) : rx_W V d kc ks M pc L (.int x :: S) h Q :=
  fun p e R s m args below meth c H locs cells slots ls F G hl => lv_if_ge F.1 F.2.1 hd ht (fun q => kt q p e R s m args below meth c H locs cells slots ls F G hl) (fun q => kf q p e R s m args below meth c H locs cells slots ls F G hl)
theorem rx_icmp_ge {x y : Int32} {off : Int} {tgt : Nat} (hd : decode M.2.1 pc = .ok (.if_icmp .ge off, 3)) (ht : (pc : Int) + off = (tgt : Int)) (kt : y ≤ x → rx_W V d kc ks M tgt L S h Q) (kf : ¬ y ≤ x → rx_W V d kc ks M (pc + 3) L S h Q) : rx_W V d kc ks M pc L (.int y :: .int x :: S) h Q :=
  fun p e R s m args below meth c H locs cells slots ls F G hl => lv_icmp_ge F.1 F.2.1 hd ht (fun q => kt q p e R s m args below meth c H locs cells slots ls F G hl) (fun q => kf q p e R s m args below meth c H locs cells slots ls F G hl)
theorem rx_if_gt {x : Int32} {off : Int} {tgt : Nat} (hd : decode M.2.1 pc = .ok (.ifCond .gt off, 3)) (ht : (pc : Int) + off = (tgt : Int)) (kt : 0 < x → rx_W V d kc ks M tgt L S h Q) (kf : ¬ 0 < x → rx_W V d kc ks M (pc + 3) L S h Q) : rx_W V d kc ks M pc L (.int x :: S) h Q :=
  fun p e R s m args below meth c H locs cells slots ls F G hl => lv_if_gt F.1 F.2.1 hd ht (fun q => kt q p e R s m args below meth c H locs cells slots ls F G hl) (fun q => kf q p e R s m args below meth c H locs cells slots ls F G hl)
theorem rx_icmp_gt {x y : Int32} {off : Int} {tgt : Nat} (hd : decode M.2.1 pc = .ok (.if_icmp .gt off, 3)) (ht : (pc : Int) + off = (tgt : Int)) (kt : y < x → rx_W V d kc ks M tgt L S h Q) (kf : ¬ y < x → rx_W V d kc ks M (pc + 3) L S h Q) : rx_W V d kc ks M pc L (.int y :: .int x :: S) h Q :=
  fun p e R s m args below meth c H locs cells slots ls F G hl => lv_icmp_gt F.1 F.2.1 hd ht (fun q => kt q p e R s m args below meth c H locs cells slots ls F G hl) (fun q => kf q p e R s m args below meth c H locs cells slots ls F G hl)
theorem rx_if_le {x : Int32} {off : Int} {tgt : Nat} (hd : decode M.2.1 pc = .ok (.ifCond .le off, 3)) (ht : (pc : Int) + off = (tgt : Int)) (kt : x ≤ 0 → rx_W V d kc ks M tgt L S h Q) (kf : ¬ x ≤ 0 → rx_W V d kc ks M (pc + 3) L S h Q) : rx_W V d kc ks M pc L (.int x :: S) h Q :=
  fun p e R s m args below meth c H locs cells slots ls F G hl => lv_if_le F.1 F.2.1 hd ht (fun q => kt q p e R s m args below meth c H locs cells slots ls F G hl) (fun q => kf q p e R s m args below meth c H locs cells slots ls F G hl)
theorem rx_icmp_le {x y : Int32} {off : Int} {tgt : Nat} (hd : decode M.2.1 pc = .ok (.if_icmp .le off, 3)) (ht : (pc : Int) + off = (tgt : Int)) (kt : x ≤ y → rx_W V d kc ks M tgt L S h Q) (kf : ¬ x ≤ y → rx_W V d kc ks M (pc + 3) L S h Q) : rx_W V d kc ks M pc L (.int y :: .int x :: S) h Q :=
  fun p e R s m args below meth c H locs cells slots ls F G hl => lv_icmp_le F.1 F.2.1 hd ht (fun q => kt q p e R s m args below meth c H locs cells slots ls F G hl) (fun q => kf q p e R s m args below meth c H locs cells slots ls F G hl)
theorem rx_acmp_eq {rx ry : Option Nat} {off : Int} {tgt : Nat} (hd : decode M.2.1 pc = .ok (.if_acmp .eq off, 3)) (ht : (pc : Int) + off = (tgt : Int)) (kt : rx = ry → rx_W V d kc ks M tgt L S h Q) (kf : ¬ rx = ry → rx_W V d kc ks M (pc + 3) L S h Q) : rx_W V d kc ks M pc L (va_rf ry :: va_rf rx :: S) h Q :=
  fun p e R s m args below meth c H locs cells slots ls F G hl => lv_acmp_eq F.1 F.2.1 hd ht (fun q => kt q p e R s m args below meth c H locs cells slots ls F G hl) (fun q => kf q p e R s m args below meth c H locs cells slots ls F G hl)
theorem rx_acmp_ne {rx ry : Option Nat} {off : Int} {tgt : Nat} (hd : decode M.2.1 pc = .ok (.if_acmp .ne off, 3)) (ht : (pc : Int) + off = (tgt : Int)) (kt : ¬ rx = ry → rx_W V d kc ks M tgt L S h Q) (kf : rx = ry → rx_W V d kc ks M (pc + 3) L S h Q) : rx_W V d kc ks M pc L (va_rf ry :: va_rf rx :: S) h Q :=
  fun p e R s m args below meth c H locs cells slots ls F G hl => lv_acmp_ne F.1 F.2.1 hd ht (fun q => kt q p e R s m args below meth c H locs cells slots ls F G hl) (fun q => kf q p e R s m args below meth c H locs cells slots ls F G hl)
theorem rx_ifnull {x : Option Nat} {off : Int} {tgt : Nat} (hd : decode M.2.1 pc = .ok (.ifnull off, 3)) (ht : (pc : Int) + off = (tgt : Int)) (kt : x = none → rx_W V d kc ks M tgt L S h Q) (kf : ∀ a, x = some a → rx_W V d kc ks M (pc + 3) L S h Q) : rx_W V d kc ks M pc L (va_rf x :: S) h Q :=
  fun p e R s m args below meth c H locs cells slots ls F G hl => by
    cases x with
    | none => exact lv_ifnullN F.1 F.2.1 hd ht (kt rfl p e R s m args below meth c H locs cells slots ls F G hl)
    | some a => exact lv_ifnull F.1 F.2.1 hd (kf a rfl p e R s m args below meth c H locs cells slots ls F G hl)
theorem rx_ifnonnull {x : Option Nat} {off : Int} {tgt : Nat} (hd : decode M.2.1 pc = .ok (.ifnonnull off, 3)) (ht : (pc : Int) + off = (tgt : Int)) (kt : ∀ a, x = some a → rx_W V d kc ks M tgt L S h Q) (kf : x = none → rx_W V d kc ks M (pc + 3) L S h Q) : rx_W V d kc ks M pc L (va_rf x :: S) h Q :=
  fun p e R s m args below meth c H locs cells slots ls F G hl => by
    cases x with
    | none => exact lv_ifnonnullN F.1 F.2.1 hd (kf rfl p e R s m args below meth c H locs cells slots ls F G hl)
    | some a => exact lv_ifnonnull F.1 F.2.1 hd ht (kt a rfl p e R s m args below meth c H locs cells slots ls F G hl)
theorem rx_goto {off : Int} {tgt : Nat} (hd : decode M.2.1 pc = .ok (.goto off, 3)) (ht : (pc : Int) + off = (tgt : Int)) (k : rx_W V d kc ks M tgt L S h Q) : rx_W V d kc ks M pc L S h Q :=
  fun p e R s m args below meth c H locs cells slots ls F G hl => lv_goto F.1 F.2.1 hd ht (k p e R s m args below meth c H locs cells slots ls F G hl)
theorem rx_tableOut {dflt lo hi : Int} {offs : Array Int} {len : Nat} {x : Int32} {tgt : Nat} (hd : decode M.2.1 pc = .ok (.tableswitch dflt lo hi offs, len)) (hx : x.toInt < lo ∨ hi < x.toInt) (ht : (pc : Int) + dflt = (tgt : Int)) (k : rx_W V d kc ks M tgt L S h Q) : rx_W V d kc ks M pc L (.int x :: S) h Q :=
  fun p e R s m args below meth c H locs cells slots ls F G hl => lv_tableOut F.1 F.2.1 hd hx ht (k p e R s m args below meth c H locs cells slots ls F G hl)
theorem rx_tableIn {dflt lo hi : Int} {offs : Array Int} {len : Nat} {x : Int32} {off : Int} {tgt : Nat} (hd : decode M.2.1 pc = .ok (.tableswitch dflt lo hi offs, len)) (h1 : ¬ x.toInt < lo) (h2 : ¬ hi < x.toInt) (ho : offs[(x.toInt - lo).toNat]? = some off) (ht : (pc : Int) + off = (tgt : Int)) (k : rx_W V d kc ks M tgt L S h Q) : rx_W V d kc ks M pc L (.int x :: S) h Q :=
  fun p e R s m args below meth c H locs cells slots ls F G hl => lv_tableIn F.1 F.2.1 hd h1 h2 ho ht (k p e R s m args below meth c H locs cells slots ls F G hl)
end RX
end
section
/-! rows of the heap, and the ends -/
section RXH
variable {V : rx_V} {d kc ks : Nat} {M : rx_T} {pc : Nat} {L : rx_L} {S : List Value} {h : List va_E} {Q : rx_R → List va_E → Prop}
theorem rx_G_set {R : Room} {s : State} {H H1 : Heap} {locs : List Loc} {cells slots q : Nat} {e0 e : va_E} (k : Nat) (G : rx_G V kc ks R s h H locs cells slots) (hq : h[q]? = some e0) (hat : va_at V.2.2.1 rx_cl (V.2.1 + q, e) H1) (z1 : H1.size = H.size) (oq : ∀ x : Nat, x ≠ V.2.1 + q → H1[x]? = H[x]?) :
    rx_G V kc ks R s (h.set q e) H1 (locs ++ [⟨V.2.1 + q, k⟩]) cells slots := by
  refine ⟨by rw [z1, G.1, List.length_set], ?_, G.2.2.1.put z1 oq (Nat.le_add_right _ _), G.2.2.2⟩
  rw [← rx_ws_set]
  exact G.2.1.set (rx_ws_D V.2.1 h) (rx_ws_of hq) hat oq
theorem rx_G_push {R : Room} {s : State} {H H1 : Heap} {locs : List Loc} {cells slots n : Nat} {e : va_E} (G : rx_G V (kc + 1) (ks + n) R s h H locs cells slots) (hat : va_at V.2.2.1 rx_cl (V.2.1 + h.length, e) H1) (z1 : H1.size = H.size + 1) (o1 : ∀ x : Nat, x < H.size → H1[x]? = H[x]?) :
    rx_G V kc ks R s (h ++ [e]) H1 locs (cells + 1) (slots + n) := by
  have hk : ∀ (k : Nat) (x : Nat × va_E), (rx_ws V.2.1 h)[k]? = some x → H1[x.1]? = H[x.1]? := fun k x hx => o1 x.1 ((G.2.1 k x hx).lt)
  obtain ⟨g1, g2, g3, g4, g5, g6, g7, g8⟩ := G
  refine ⟨by rw [z1, g1, List.length_append]; rfl, ?_, ⟨Nat.le_trans g3.1 (by omega), fun x h1 h2 => (o1 x (Nat.lt_of_lt_of_le h1 g3.1)).trans (g3.2.1 x h1 h2), g3.2.2⟩, g4, g5, g6, by omega, by omega⟩
  rw [← rx_ws_push]
  refine (g2.kept hk).app (fun k x hx => ?_)
  have hz : k < 1 := (List.getElem?_eq_some_iff.mp hx).1
  rw [show k = 0 by omega] at hx
  cases hx
  exact hat
/-- a field of the class with the number ci, its k-th, under the pool's index -/
def rx_fl (own : String) (index ci k : Nat) : Prop := ∃ (C : String) (T : u_T) (N : Nat), rx_cl[ci]? = some (C, T, N) ∧ k < N ∧ (∀ w ∈ u_ws C T N, w ∈ rx_tbl) ∧ Cond.fieldLink own index (T k).1 (T k).2.1 (T k).2.2.1 ∈ rx_tbl
/-- .. and it may be written: the types, the names apart; a final field by its class's constructor alone -/
def rx_fw (M : rx_T) (index ci k : Nat) (ty : FieldType) : Prop := ∃ (C : String) (T : u_T) (N : Nat) (ty0 : Nat → FieldType), rx_cl[ci]? = some (C, T, N) ∧ k < N ∧ (∀ w ∈ u_ws C T N, w ∈ rx_tbl) ∧ Cond.fieldLink M.1.cls index (T k).1 (T k).2.1 (T k).2.2.1 ∈ rx_tbl ∧
  (∀ j, j < N → parseFieldDescriptor (T j).2.2.1 = some (ty0 j)) ∧ (∀ a, a < N → ∀ b, b < N → a ≠ b → (T a).2.1 ≠ (T b).2.1) ∧ parseFieldDescriptor (T k).2.2.1 = some ty ∧ ((T k).2.2.2 = false ∨ ((T k).2.2.2 = true ∧ M.1.name = "<init>" ∧ (T k).1 = M.1.cls))
theorem rx_getfield {a ci index k : Nat} {fs : List Value} {v : Value} (hd : decode M.2.1 pc = .ok (.getfield index, 3)) (hF : rx_fl M.1.cls index ci k) (he : rx_rd V h a = some (.inr (ci, fs))) (hv : fs[k]? = some v)
    (kk : rx_W V d kc ks M (pc + 3) L (v :: S) h Q) : rx_W V d kc ks M pc L (.ref a :: S) h Q := by
  intro p e R s m args below meth c H locs cells slots ls F G hl
  obtain ⟨C, T, N, hc, hk, hin, hlk⟩ := hF
  obtain ⟨q, rfl, hq, -⟩ := rx_rd_at he
  exact va_get (D := V.2.2.1) F.1 F.2.1 F.2.2.2.2.2.2.1 hin F.2.2.2.2.2.1 G.2.2.2.1 G.2.1 q (rx_ws_of hq) hc k hk (F.2.2.2.2.2.2.1 _ hlk) (fun _ z => z) hv hd (kk p e R s m args below meth c H locs cells slots ls F G hl)
theorem rx_putfield {a ci index k : Nat} {fs : List Value} {v : Value} {ty : FieldType} (hd : decode M.2.1 pc = .ok (.putfield index, 3)) (hF : rx_fw M index ci k ty) (he : rx_rd V h a = some (.inr (ci, fs))) (hk' : k < fs.length) (hn : narrow ty v = v) (hfit : fits ty v = true)
    (kk : rx_W V d kc ks M (pc + 3) L S (rx_wr V h a (.inr (ci, fs.set k v))) Q) : rx_W V d kc ks M pc L (v :: .ref a :: S) h Q := by
  intro p e R s m args below meth c H locs cells slots ls F G hl
  obtain ⟨C, T, N, ty0, hc, hk, hin, hlk, hty, hnm, hpd, hfin⟩ := hF
  obtain ⟨q, rfl, hq, hqe⟩ := rx_rd_at he
  rw [rx_wr_in] at kk
  obtain ⟨r, h1, cell, q1, q2, q3, q4⟩ := G.2.1 q _ (rx_ws_of hq)
  have hr : r = (C, T, N) := Option.some.inj (h1.symm.trans hc)
  subst hr
  have hts := F.2.2.2.2.2.2.1
  have hown := F.2.2.2.2.2.1
  have hap := va_apart (own := M.1.cls) hts hin ty0 hty hnm G.2.2.2.1 hc
  obtain ⟨hS, hfc, kC, hkC, hkind⟩ := G.2.2.2.1.1 ci _ hc
  obtain ⟨cf, kf, fi, f, hi, hsl⟩ := hS k hk
  have hlay := hts _ (hin _ (u_in_lay hk))
  unfold u_lay at hlay
  have hst := (u_facts hfc hkC (u_lays hts hin hk) hi).1
  have hat : ∀ H' : Heap, H'[V.2.1 + q]? = some (cell.setSlot (V.2.2.1.2 ci k) v) → va_at V.2.2.1 rx_cl (V.2.1 + q, .inr (ci, fs.set k v)) H' := fun H' e1 =>
    ⟨_, hc, t_OB.to (V := updV (vp_V fs) k v) ⟨_, e1, q2, q3, t_set q4 hap hk v⟩ (fun j _ => vp_updV_set hk' v j)⟩
  rcases hfin with hfin | ⟨hfin, hin2, hdecl⟩
  · rw [if_neg (by rw [hfin]; decide)] at hlay
    have h6 := u_store hfc hkC hkind hlay hi hpd hn hfit
    refine W.putK F.1 F.2.1 (f := f) ⟨hown, hts _ hlk, ⟨_, _, _, hi⟩, hst⟩ (by rw [q2]; exact h6) q1 q3 (by rw [hsl]; exact k2_hasslot (q4 k hk)) rfl rfl hd fun H' e1 e2 e3 => ?_
    rw [hsl] at e1 ⊢
    exact kk p e R s m args below meth c H' _ cells slots ls F (rx_G_set _ G hq (hat H' e1) e2 e3) hl
  · rw [if_pos hfin] at hlay
    have hcf : m.cls = cf := by
      obtain ⟨_, _, c', _, _, _, -, -, hf', -, -, -, hown2, -⟩ := Cond.laysFinal_spec hlay
      have e1 : c' = cf := by have := hi.symm.trans hf'; simp at this; exact this.1.symm
      rw [hdecl] at hown2
      rw [← e1]; exact Option.some.inj (hown.symm.trans hown2)
    have h6 := u_fits hfc hkC hkind (Or.inr hlay) hi hpd hn hfit
    refine W.putFinK F.1 F.2.1 hown (hts _ hlk) hi hst hcf (F.2.2.2.2.2.2.2.1.trans hin2) (by rw [q2]; exact h6) q1 q3 (by rw [hsl]; exact k2_hasslot (q4 k hk)) rfl rfl hd fun H' e1 e2 e3 => ?_
    rw [hsl] at e1 ⊢
    exact kk p e R s m args below meth c H' _ cells slots ls F (rx_G_set _ G hq (hat H' e1) e2 e3) hl
/-! arrays -/
theorem rx_iaload {a n : Nat} {f : Nat → Int32} {i : Int32} (hd : decode M.2.1 pc = .ok (.iaload, 1)) (ht : rx_ats[0]? = some .int) (he : rx_rd V h a = some (.inl (V.2.2.2.1 0, n, .inl f))) (hin : vp_in i n)
    (kk : rx_W V d kc ks M (pc + 1) L (.int (f i.toNatClampNeg) :: S) h Q) : rx_W V d kc ks M pc L (.int i :: .ref a :: S) h Q := by
  intro p e R s m args below meth c H locs cells slots ls F G hl
  obtain ⟨q, rfl, hq, -⟩ := rx_rd_at he
  exact va_iald (D := V.2.2.1) F.1 F.2.1 G.2.2.2.1 G.2.1 q 0 (rx_ws_of hq) (rx_tys_of ht) hin hd (kk p e R s m args below meth c H locs cells slots ls F G hl)
theorem rx_laload {a n : Nat} {f : Nat → Int64} {i : Int32} (hd : decode M.2.1 pc = .ok (.laload, 1)) (ht : rx_ats[1]? = some .long) (he : rx_rd V h a = some (.inl (V.2.2.2.1 1, n, .inr (.inl f)))) (hin : vp_in i n)
    (kk : rx_W V d kc ks M (pc + 1) L (.long (f i.toNatClampNeg) :: S) h Q) : rx_W V d kc ks M pc L (.int i :: .ref a :: S) h Q := by
  intro p e R s m args below meth c H locs cells slots ls F G hl
  obtain ⟨q, rfl, hq, -⟩ := rx_rd_at he
  exact va_lald (D := V.2.2.1) F.1 F.2.1 G.2.2.2.1 G.2.1 q 1 (rx_ws_of hq) (rx_tys_of ht) hin hd (kk p e R s m args below meth c H locs cells slots ls F G hl)
theorem rx_zaload {a n : Nat} {f : Nat → Int32} {i : Int32} (hd : decode M.2.1 pc = .ok (.baload, 1)) (ht : rx_ats[2]? = some .boolean) (he : rx_rd V h a = some (.inl (V.2.2.2.1 2, n, .inl f))) (hin : vp_in i n)
    (kk : rx_W V d kc ks M (pc + 1) L (.int (f i.toNatClampNeg) :: S) h Q) : rx_W V d kc ks M pc L (.int i :: .ref a :: S) h Q := by
  intro p e R s m args below meth c H locs cells slots ls F G hl
  obtain ⟨q, rfl, hq, -⟩ := rx_rd_at he
  exact va_zald (D := V.2.2.1) F.1 F.2.1 G.2.2.2.1 G.2.1 q 2 (rx_ws_of hq) (rx_tys_of ht) hin hd (kk p e R s m args below meth c H locs cells slots ls F G hl)
theorem rx_aaload {a n t0 : Nat} {C : String} {f : Nat → Option Nat} {i : Int32} (hd : decode M.2.1 pc = .ok (.aaload, 1)) (ht : rx_ats[t0]? = some (.object C)) (he : rx_rd V h a = some (.inl (V.2.2.2.1 t0, n, .inr (.inr (.inr (.inr f)))))) (hin : vp_in i n)
    (kk : rx_W V d kc ks M (pc + 1) L (va_rf (f i.toNatClampNeg) :: S) h Q) : rx_W V d kc ks M pc L (.int i :: .ref a :: S) h Q := by
  intro p e R s m args below meth c H locs cells slots ls F G hl
  obtain ⟨q, rfl, hq, -⟩ := rx_rd_at he
  exact va_aldq (D := V.2.2.1) F.1 F.2.1 G.2.2.2.1 G.2.1 q t0 (rx_ws_of hq) (rx_tys_of ht) hin hd (kk p e R s m args below meth c H locs cells slots ls F G hl)
theorem rx_alen {a t0 : Nat} {x : vp_A} {ty : FieldType} (hd : decode M.2.1 pc = .ok (.arraylength, 1)) (ht : rx_ats[t0]? = some ty) (he : rx_rd V h a = some (.inl (V.2.2.2.1 t0, x)))
    (kk : rx_W V d kc ks M (pc + 1) L (.int (Int32.ofNat x.1) :: S) h Q) : rx_W V d kc ks M pc L (.ref a :: S) h Q := by
  intro p e R s m args below meth c H locs cells slots ls F G hl
  obtain ⟨q, rfl, hq, -⟩ := rx_rd_at he
  exact va_alen (D := V.2.2.1) F.1 F.2.1 G.2.2.2.1 G.2.1 q t0 (rx_ws_of hq) (rx_tys_of ht) rfl hd (kk p e R s m args below meth c H locs cells slots ls F G hl)
theorem rx_iastore {a n : Nat} {f : Nat → Int32} {i : Int32} {x : Int32} (hd : decode M.2.1 pc = .ok (.iastore, 1)) (ht : rx_ats[0]? = some .int) (he : rx_rd V h a = some (.inl (V.2.2.2.1 0, n, .inl (f)))) (hin : vp_in i n)
    (kk : rx_W V d kc ks M (pc + 1) L S (rx_wr V h a (.inl (V.2.2.2.1 0, n, .inl (upd f i.toNatClampNeg x)))) Q) : rx_W V d kc ks M pc L (.int x :: .int i :: .ref a :: S) h Q := by
  intro p e R s m args below meth c H locs cells slots ls F G hl
  obtain ⟨q, rfl, hq, -⟩ := rx_rd_at he
  rw [rx_wr_in] at kk
  refine W.iast F.1 F.2.1 (G.2.1 q _ (rx_ws_of hq)) ((G.2.2.2.1.2 0 _ (rx_tys_of ht)).1 n (fun j => .int (f j))) (fun q => by cases q) (by show ¬ (i < 0 ∨ (arrV _ _ _).slots.size ≤ _); rw [arrV_size]; exact hin) rfl rfl hd fun H1 e1 z oq => ?_
  refine kk p e R s m args below meth c H1 _ cells slots ls F (rx_G_set _ G hq ?_ z oq) hl
  show H1[V.2.1 + q]? = some (vp_cell _ _)
  rw [e1]
  rw [vp_cell_i, vp_cell_i, arrV_store]
  congr 2
  funext j
  by_cases hj : j = i.toNatClampNeg
  · subst hj
    simp [updV, upd]
    try rfl
  · simp [updV, upd, hj]
theorem rx_zastore {a n : Nat} {f : Nat → Int32} {i : Int32} {x : Int32} (hd : decode M.2.1 pc = .ok (.bastore, 1)) (ht : rx_ats[2]? = some .boolean) (he : rx_rd V h a = some (.inl (V.2.2.2.1 2, n, .inl (f)))) (hin : vp_in i n)
    (kk : rx_W V d kc ks M (pc + 1) L S (rx_wr V h a (.inl (V.2.2.2.1 2, n, .inl (upd f i.toNatClampNeg (vp_nar .boolean x))))) Q) : rx_W V d kc ks M pc L (.int x :: .int i :: .ref a :: S) h Q := by
  intro p e R s m args below meth c H locs cells slots ls F G hl
  obtain ⟨q, rfl, hq, -⟩ := rx_rd_at he
  rw [rx_wr_in] at kk
  refine W.zast F.1 F.2.1 (G.2.1 q _ (rx_ws_of hq)) ((G.2.2.2.1.2 2 _ (rx_tys_of ht)).1 n (fun j => .int (f j))) (fun q => by cases q) (by show ¬ (i < 0 ∨ (arrV _ _ _).slots.size ≤ _); rw [arrV_size]; exact hin) rfl rfl hd fun H1 e1 z oq => ?_
  refine kk p e R s m args below meth c H1 _ cells slots ls F (rx_G_set _ G hq ?_ z oq) hl
  show H1[V.2.1 + q]? = some (vp_cell _ _)
  rw [e1]
  rw [vp_cell_i, vp_cell_i, arrV_store]
  congr 2
  funext j
  by_cases hj : j = i.toNatClampNeg
  · subst hj
    simp [updV, upd, vp_nar]
    try rfl
  · simp [updV, upd, vp_nar, hj]
theorem rx_lastore {a n : Nat} {f : Nat → Int64} {i : Int32} {x : Int64} (hd : decode M.2.1 pc = .ok (.lastore, 1)) (ht : rx_ats[1]? = some .long) (he : rx_rd V h a = some (.inl (V.2.2.2.1 1, n, .inr (.inl (f))))) (hin : vp_in i n)
    (kk : rx_W V d kc ks M (pc + 1) L S (rx_wr V h a (.inl (V.2.2.2.1 1, n, .inr (.inl (vp_updL f i.toNatClampNeg x))))) Q) : rx_W V d kc ks M pc L (.long x :: .int i :: .ref a :: S) h Q := by
  intro p e R s m args below meth c H locs cells slots ls F G hl
  obtain ⟨q, rfl, hq, -⟩ := rx_rd_at he
  rw [rx_wr_in] at kk
  refine W.last F.1 F.2.1 (G.2.1 q _ (rx_ws_of hq)) ((G.2.2.2.1.2 1 _ (rx_tys_of ht)).1 n (fun j => .long (f j))) (fun q => by cases q) (by show ¬ (i < 0 ∨ (arrV _ _ _).slots.size ≤ _); rw [arrV_size]; exact hin) rfl rfl hd fun H1 e1 z oq => ?_
  refine kk p e R s m args below meth c H1 _ cells slots ls F (rx_G_set _ G hq ?_ z oq) hl
  show H1[V.2.1 + q]? = some (vp_cell _ _)
  rw [e1]
  rw [vp_cell_l, vp_cell_l, arrV_store]
  congr 2
  funext j
  by_cases hj : j = i.toNatClampNeg
  · subst hj
    simp [updV, vp_updL]
    try rfl
  · simp [updV, vp_updL, hj]
theorem rx_aastore {a n t0 v ci : Nat} {r : vw_C} {vs : List Value} {f : Nat → Option Nat} {i : Int32} (hd : decode M.2.1 pc = .ok (.aastore, 1)) (ht : rx_ats[t0]? = some (.object r.1)) (he : rx_rd V h a = some (.inl (V.2.2.2.1 t0, n, .inr (.inr (.inr (.inr f)))))) (hv : rx_rd V h v = some (.inr (ci, vs))) (hc : rx_cl[ci]? = some r) (hin : vp_in i n)
    (kk : rx_W V d kc ks M (pc + 1) L S (rx_wr V h a (.inl (V.2.2.2.1 t0, n, .inr (.inr (.inr (.inr (va_up f i.toNatClampNeg (some v)))))))) Q) : rx_W V d kc ks M pc L (.ref v :: .int i :: .ref a :: S) h Q := by
  intro p e R s m args below meth c H locs cells slots ls F G hl
  obtain ⟨q, rfl, hq, -⟩ := rx_rd_at he
  obtain ⟨qv, rfl, hqv, -⟩ := rx_rd_at hv
  rw [rx_wr_in] at kk
  have hlt : i.toNatClampNeg < n := Nat.not_le.mp fun q => hin (Or.inr q)
  have h0 : ¬ i < 0 := fun q => hin (Or.inl q)
  obtain ⟨r', hr', cellV, g1, g2, g3, -⟩ := G.2.1 qv _ (rx_ws_of hqv)
  have hcls := (G.2.2.2.1.1 ci r hc).2
  obtain ⟨kA, comp, k1, k2, k3, -⟩ := (G.2.2.2.1.2 t0 _ (rx_tys_of ht)).2
  have hcomp : comp = V.2.2.1.1 ci := Option.some.inj (k3.symm.trans hcls.1)
  subst hcomp
  obtain ⟨kC, hkC, -⟩ := hcls.2
  refine W.aast F.1 F.2.1 (G.2.1 q _ (rx_ws_of hq)) (fun q h => by cases h) (fun h => by cases h) k1 k2 rfl hkC ⟨h0, by show _ < (arrV _ _ _).slots.size; rw [arrV_size]; exact hlt⟩ g1 (fun q h => by rw [g3] at h; cases h) (by rw [g2]; exact hkC) (by rw [g2]; exact va_assign hcls) rfl rfl hd fun H1 e1 z oq => ?_
  refine kk p e R s m args below meth c H1 _ cells slots ls F (rx_G_set _ G hq ?_ z oq) hl
  show H1[V.2.1 + q]? = some (vp_cell _ _)
  rw [e1]
  rw [vp_cell_q, vp_cell_q, arrV_store]
  congr 2
  funext j
  by_cases hj : j = i.toNatClampNeg
  · subst hj
    simp [updV, va_up, va_rf]
  · simp [updV, va_up, hj]
theorem rx_aastoreN {a n t0 : Nat} {C : String} {f : Nat → Option Nat} {i : Int32} (hd : decode M.2.1 pc = .ok (.aastore, 1)) (ht : rx_ats[t0]? = some (.object C)) (he : rx_rd V h a = some (.inl (V.2.2.2.1 t0, n, .inr (.inr (.inr (.inr f)))))) (hin : vp_in i n)
    (kk : rx_W V d kc ks M (pc + 1) L S (rx_wr V h a (.inl (V.2.2.2.1 t0, n, .inr (.inr (.inr (.inr (va_up f i.toNatClampNeg none))))))) Q) : rx_W V d kc ks M pc L (.null :: .int i :: .ref a :: S) h Q := by
  intro p e R s m args below meth c H locs cells slots ls F G hl
  obtain ⟨q, rfl, hq, -⟩ := rx_rd_at he
  rw [rx_wr_in] at kk
  refine va_WaastN (C := C) F.1 F.2.1 (G.2.1 q _ (rx_ws_of hq)) ((G.2.2.2.1.2 t0 _ (rx_tys_of ht)).1 n (fun j => va_rf (f j))) (fun h => by cases h) (by show ¬ (i < 0 ∨ (arrV _ _ _).slots.size ≤ _); rw [arrV_size]; exact hin) rfl rfl hd fun H1 e1 z oq => ?_
  refine kk p e R s m args below meth c H1 _ cells slots ls F (rx_G_set _ G hq ?_ z oq) hl
  show H1[V.2.1 + q]? = some (vp_cell _ _)
  rw [e1]
  rw [vp_cell_q, vp_cell_q, arrV_store]
  congr 2
  funext j
  by_cases hj : j = i.toNatClampNeg
  · subst hj
    simp [updV, va_up, va_rf]
  · simp [updV, va_up, hj]
/-! making -/
theorem rx_new {index ci N : Nat} {C : String} {T : u_T} {fs : List Value} (ty : Nat → FieldType) (hd : decode M.2.1 pc = .ok (.new index, 3)) (hc : rx_cl[ci]? = some (C, T, N)) (hin : ∀ w ∈ u_ws C T N, w ∈ rx_tbl) (hty : ∀ k, k < N → parseFieldDescriptor (T k).2.2.1 = some (ty k))
    (w1 : Cond.classLink M.1.cls index C ∈ rx_tbl) (w2 : Cond.instantiable C N ∈ rx_tbl) (w3 : Cond.initialized C ∈ rx_tbl) (hfs : ∀ j, j < N → defaultValue (ty j) = vp_V fs j)
    (kk : rx_W V d kc ks M (pc + 3) L (.ref (V.2.1 + h.length) :: S) (h ++ [.inr (ci, fs)]) Q) : rx_W V d (kc + 1) (ks + N) M pc L S h Q := by
  intro p e R s m args below meth c H locs cells slots ls F G hl
  have hts := F.2.2.2.2.2.2.1
  have hKn := G.2.2.2.1.1 ci _ hc
  have hG := G
  obtain ⟨g1, -, -, -, -, -, g7, g8⟩ := hG
  refine W.newcK F.1 F.2.1 F.2.2.2.2.2.1 (hts _ w1) (hts _ w2) (hts _ w3) rfl hd (by omega) (by omega) hKn.2.1 g1 fun H1 kC hkC e1 z1 o1 => ?_
  rw [show cells + (kc + 1) = cells + 1 + kc by omega, show slots + (ks + N) = slots + N + ks by omega]
  refine kk p e R s m args below meth c H1 locs (cells + 1) (slots + N) ls F (rx_G_push G ?_ (by rw [z1, g1]) (fun x hx => o1 x (by rw [← g1]; exact hx))) hl
  exact ⟨_, hc, (u_born ty hts hin hKn hkC e1 hty).to hfs⟩
theorem rx_newarray {t0 : Nat} {atype : ArrayType} {ty : FieldType} {n : Int32} {N : Nat} {a0 : vp_A} (hd : decode M.2.1 pc = .ok (.newarray atype, 2)) (ht : rx_ats[t0]? = some ty) (hty : newarray.typeOf atype = ty) (w1 : Cond.arrayClass ty ∈ rx_tbl) (hnm : ∀ (U : State) (cA : ClassId), va_RA U cA ty → U.vm.findClass ("[" ++ ty.toString) = some cA)
    (ha : ∀ cA : ClassId, vp_cell cA a0 = arrV cA N (fun _ => defaultValue ty)) (hn : ¬ n < 0) (hN : n.toNatClampNeg = N) (hbytes : N * componentBytes ty ≤ 536870912)
    (kk : rx_W V d kc ks M (pc + 2) L (.ref (V.2.1 + h.length) :: S) (h ++ [.inl (V.2.2.2.1 t0, a0)]) Q) : rx_W V d (kc + 1) (ks + N) M pc L (.int n :: S) h Q := by
  intro p e R s m args below meth c H locs cells slots ls F G hl
  have hts := F.2.2.2.2.2.2.1
  subst hty
  have hRA := (G.2.2.2.1.2 t0 _ (rx_tys_of ht)).2
  have hG := G
  obtain ⟨g1, -, -, -, -, -, g7, g8⟩ := hG
  refine va_newaK F.1 F.2.1 (hts _ w1) rfl hd rfl hn hN hbytes (by omega) (by omega) g1 fun H1 cA e1 z1 o1 hAr hNm => ?_
  have hcA : cA = V.2.2.2.1 t0 := Option.some.inj (hNm.symm.trans (hnm s _ hRA))
  subst hcA
  rw [show cells + (kc + 1) = cells + 1 + kc by omega, show slots + (ks + N) = slots + N + ks by omega]
  refine kk p e R s m args below meth c H1 locs (cells + 1) (slots + N) ls F (rx_G_push G ?_ (by rw [z1, g1]) (fun x hx => o1 x (by rw [← g1]; exact hx))) hl
  show H1[V.2.1 + h.length]? = some (vp_cell _ _)
  rw [ha]
  exact e1
theorem rx_anewarray {t0 index : Nat} {C : String} {n : Int32} {N : Nat} (hd : decode M.2.1 pc = .ok (.anewarray index, 3)) (ht : rx_ats[t0]? = some (.object C)) (w1 : Cond.classLink M.1.cls index C ∈ rx_tbl) (w2 : Cond.arrayOver (.object C) ∈ rx_tbl) (hn : ¬ n < 0) (hN : n.toNatClampNeg = N) (hbytes : N * 4 ≤ 536870912)
    (kk : rx_W V d kc ks M (pc + 3) L (.ref (V.2.1 + h.length) :: S) (h ++ [.inl (V.2.2.2.1 t0, N, .inr (.inr (.inr (.inr (fun _ => none)))))]) Q) : rx_W V d (kc + 1) (ks + N) M pc L (.int n :: S) h Q := by
  intro p e R s m args below meth c H locs cells slots ls F G hl
  have hts := F.2.2.2.2.2.2.1
  have hRA := (G.2.2.2.1.2 t0 _ (rx_tys_of ht)).2
  have hG := G
  obtain ⟨g1, -, -, -, -, -, g7, g8⟩ := hG
  subst hN
  refine W.anew F.1 F.2.1 F.2.2.2.2.2.1 (hts _ w1) (hts _ w2) rfl hd rfl hn hbytes (by omega) (by omega) fun cA kA comp f1 f2 f3 f4 => ?_
  obtain ⟨kA', comp', -, -, -, hNm⟩ := hRA
  have hcA : cA = V.2.2.2.1 t0 := Option.some.inj (f1.symm.trans hNm)
  subst hcA
  generalize hH1 : H.push ({ cls := V.2.2.2.1 t0, slots := Array.replicate n.toNatClampNeg .null, vm := .none } : Cell) = H1
  have z1 : H1.size = H.size + 1 := by rw [← hH1, Array.size_push]
  have e1 : H1[H.size]? = some (arrV (V.2.2.2.1 t0) n.toNatClampNeg (fun _ => .null)) := by rw [← hH1, Array.getElem?_push_size, ← arrV_new]
  have o1 : ∀ q : Nat, q < H.size → H1[q]? = H[q]? := fun q hq => by rw [← hH1, Array.getElem?_push, if_neg (Nat.ne_of_lt hq)]
  rw [g1] at e1 ⊢
  rw [show cells + (kc + 1) = cells + 1 + kc by omega, show slots + (ks + n.toNatClampNeg) = slots + n.toNatClampNeg + ks by omega]
  refine kk p e R s m args below meth c H1 locs (cells + 1) (slots + n.toNatClampNeg) ls F (rx_G_push G ?_ z1 o1) hl
  show H1[V.2.1 + h.length]? = some (vp_cell _ _)
  rw [vp_cell_q]
  exact e1
/-! the ends -/
theorem rx_end {r : rx_R} (hq : Q r h) {R : Room} {s : State} {H : Heap} {locs : List Loc} {cells slots : Nat} (G : rx_G V kc ks R s h H locs cells slots) {v : Option Value} (hr : r = .inl v) (t : State) (ht : t.heap = H) : rx_O V s Q (.returned v) t := by
  subst hr
  exact ⟨.inl v, h, hq, by rw [ht]; exact G.1, by rw [ht]; exact G.2.1, G.2.2.1.F ht, rfl⟩
theorem rx_mq {p : Program} {l : Launch} {e : Env} {R : Room} {s : State} {m : MethodId} {args : Array Value} {below : List Frame} {meth : Method} {c : Code} {H : Heap} {locs : List Loc} {cells slots kc ks : Nat} {g : JFrame}
    (w : W p l e R s m args below meth c H locs (cells + kc) (slots + ks) (MQ below (fun _ st o t => rx_O V st Q o t) args s (cells + kc) (slots + ks) (rx_A V)) g) : W p l e R s m args below meth c H locs cells slots (rx_Z V below s (cells + kc) (slots + ks) Q) g :=
  W.widen (Nat.le_add_right _ _) (Nat.le_add_right _ _) (rx_mono (fun t ⟨o, a, b, c1, L9, n1, n2⟩ => ⟨o, a, b, c1, L9, n1.2.1, n1.2.2, n2⟩) w)
theorem rx_ireturn {v : Int32} (hd : decode M.2.1 pc = .ok (.ireturn, 1)) (hr : M.2.2.2.1 = some .int) (hq : Q (.inl (some (.int v))) h) : rx_W V d kc ks M pc L [.int v] h Q :=
  fun p e R s m args below meth c H locs cells slots ls F G hl => rx_mq (W.iret F.1 F.2.1 (F.2.2.2.1.trans hr) (fun t ht _ => rx_end hq G rfl t ht) G.2.2.1.2.2 hd (hlocks := F.2.2.2.2.1))
theorem rx_zreturn {v : Int32} (hd : decode M.2.1 pc = .ok (.ireturn, 1)) (hr : M.2.2.2.1 = some .boolean) (hn : narrow .boolean (.int v) = .int v) (hq : Q (.inl (some (.int v))) h) : rx_W V d kc ks M pc L [.int v] h Q :=
  fun p e R s m args below meth c H locs cells slots ls F G hl => rx_mq (W.zret F.1 F.2.1 (F.2.2.2.1.trans hr) hn (fun t ht _ => rx_end hq G rfl t ht) G.2.2.1.2.2 hd (hlocks := F.2.2.2.2.1))
theorem rx_lreturn {v : Int64} (hd : decode M.2.1 pc = .ok (.lreturn, 1)) (hr : M.2.2.2.1 = some .long) (hq : Q (.inl (some (.long v))) h) : rx_W V d kc ks M pc L [.long v] h Q :=
  fun p e R s m args below meth c H locs cells slots ls F G hl => rx_mq (W.lret F.1 F.2.1 (F.2.2.2.1.trans hr) (fun t ht _ => rx_end hq G rfl t ht) G.2.2.1.2.2 hd (hlocks := F.2.2.2.2.1))
theorem rx_vreturn (hd : decode M.2.1 pc = .ok (.return_, 1)) (hr : M.2.2.2.1 = none) (hq : Q (.inl none) h) : rx_W V d kc ks M pc L [] h Q :=
  fun p e R s m args below meth c H locs cells slots ls F G hl => rx_mq (W.vret F.1 F.2.1 (F.2.2.2.1.trans hr) (fun t ht _ => rx_end hq G rfl t ht) G.2.2.1.2.2 hd (hlocks := F.2.2.2.2.1))
theorem rx_areturn {x : Option Nat} {C : String} (hd : decode M.2.1 pc = .ok (.areturn, 1)) (hr : M.2.2.2.1 = some (.object C)) (hq : Q (.inl (some (va_rf x))) h) : rx_W V d kc ks M pc L [va_rf x] h Q :=
  fun p e R s m args below meth c H locs cells slots ls F G hl => rx_mq (W.aret F.1 F.2.1 (F.2.2.2.1.trans hr) (Or.inl ⟨_, rfl⟩) (by cases x with | none => exact Or.inl rfl | some a => exact Or.inr ⟨a, rfl⟩) (fun t ht _ => rx_end hq G rfl t ht) G.2.2.1.2.2 hd (hlocks := F.2.2.2.2.1))
/-- Object's own constructor -/
theorem rx_objInit {index a : Nat} (hd : decode M.2.1 pc = .ok (.invokespecial index, 3)) (w1 : Cond.methodLink M.1.cls index Lib.objectInit ∈ rx_tbl) (w2 : Cond.instanceMethod Lib.objectInit ∈ rx_tbl) (w3 : Cond.code Lib.objectInit ⟨#[0xb1]⟩ 1 none ∈ rx_tbl) (hw : (S.map fun v => v.category).sum ≤ 8)
    (kk : rx_W V (d + 1) kc ks M (pc + 3) L S h Q) : rx_W V (d + 1) kc ks M pc L (.ref a :: S) h Q := by
  intro p e R s m args below meth c H locs cells slots ls F G hl
  have hts := F.2.2.2.2.2.2.1
  have hd1 := F.2.2.2.2.2.2.2.2.1
  have hd2 := F.2.2.2.2.2.2.2.2.2.1
  refine W.objInit F.1 F.2.1 F.2.2.2.2.2.1 (hts _ w1) (hts _ w2) (hts _ w3) rfl (by rw [F.2.2.1]; exact hl.1) rfl hd (by omega) ?_ ?_
  · have := lv_room (m := m) (pc := pc) (ls := ls) (rest := .ref a :: S) (st := S) hw
    omega
  · exact kk p e R s m args below meth c H locs cells slots ls F G hl
end RXH
end
section
/-! contracts and calls -/
def rx_P (V : rx_V) (As : List Value) (h : List va_E) : Array Value → State → Prop := fun a U => a = As.toArray ∧ U.heap.size = V.2.1 + h.length ∧ va_P V.2.2.1 rx_cl (rx_ws V.2.1 h) U.heap ∧ va_K V.2.2.1 rx_cl (rx_tys V) U ∧ rx_E V U
def rx_rm (d kc ks : Nat) : Room := { frames := d, cells := kc, slots := ks, locals := 32 * d }
def rx_Met (V : rx_V) (d kc ks : Nat) (y : rx_T) (As : List Value) (h : List va_E) (Q : rx_R → List va_E → Prop) : Prop :=
  MetFree V.1 y.1 (headSpec rx_tbl (rx_rm d kc ks)) (rx_P V As h) (fun _ _ _ _ _ => True) (fun _ st o t => rx_O V st Q o t ∧ rx_N V st t kc ks)
/-- a method from its entry on -/
def rx_C (V : rx_V) (d kc ks : Nat) (y : rx_T) (As : List Value) (h : List va_E) (Q : rx_R → List va_E → Prop) : Prop := rx_W V d kc ks y 0 (rx_en y.2.2.1 As) [] h Q
theorem rx_met {V : rx_V} {d kc ks : Nat} {y : rx_T} {As : List Value} {h : List va_E} {Q : rx_R → List va_E → Prop} (hy : plainName y.1.cls = true) (hsl : (lg_sl As).length ≤ y.2.2.1) (hh : y.2.2.2.2 = []) (hw : Cond.code y.1 y.2.1 y.2.2.1 y.2.2.2.1 ∈ rx_tbl) (K : rx_C V d kc ks y As h Q) : rx_Met V d kc ks y As h Q := by
  refine MetFree.of_bodyS (code := y.2.1) (maxLocals := y.2.2.1) (ret := y.2.2.2.1) hy ?_ ?_
  · intro args s m hp hn
    obtain ⟨meth, c, h1, h2, h3, h4, h5, h6, -, -⟩ := Cond.code_spec hn (atoms_spec (ws := rx_tbl) hp _ hw)
    exact ⟨meth, c, h1, h2, h3, h4, h5, h6⟩
  · intro p e s m args below meth c s₁ B hml hP _
    obtain ⟨rfl, hsz, hPw, hK, hE⟩ := hP
    have hh0 : s₁.heap = s.heap := by rw [B.state]; rfl
    have hts := atoms_spec (ws := rx_tbl) B.pre
    have hne : c.exceptionTable.toList = [] := by
      have h9 := B.noHandlers (hts _ hw)
      cases h8 : c.exceptionTable.toList with
      | nil => rfl
      | cons x xs =>
        have h7 : c.exceptionTable.size = 0 := by simpa using h9
        have h6 : c.exceptionTable.toList.length = 0 := by rw [Array.length_toList]; exact h7
        rw [h8] at h6
        cases h6
    have F : rx_F d y p (headSpec rx_tbl (rx_rm d kc ks)).room s m As.toArray meth c :=
      ⟨B.exec, B.bytes, hml, B.returns, B.notSynchronized, findClass_of_methodNamed B.named, hts, (name_of_methodNamed B.named B.method).1, Nat.le_refl _, Nat.le_refl _, by rw [hne, hh]; rfl⟩
    have G : rx_G V kc ks (headSpec rx_tbl (rx_rm d kc ks)).room s h s.heap [] 0 0 :=
      ⟨hsz, hPw, va_S.rf, hK, hE, by rw [hsz]; exact Nat.le_add_right _ _, by rw [Nat.zero_add]; exact Nat.le_refl _, by rw [Nat.zero_add]; exact Nat.le_refl _⟩
    obtain ⟨t, a1, o, b1, b2, b3, b4⟩ := K p e _ s m As.toArray below meth c s.heap [] 0 0 _ F G (rx_entry hsl) s₁ hh0 (Stand.of_body B)
    rw [Nat.zero_add, Nat.zero_add] at b4
    refine ⟨t, o, ?_, b1, b2, b3, b4⟩
    rw [lg_entry_eq]
    exact a1
theorem rx_metW {V : rx_V} {d kc ks : Nat} {y : rx_T} {As : List Value} {h : List va_E} {Q : rx_R → List va_E → Prop} (hy : plainName y.1.cls = true) (hsl : (lg_sl As).length ≤ y.2.2.1) (hw : Cond.codeWith y.1 y.2.1 y.2.2.1 y.2.2.2.1 y.2.2.2.2 ∈ rx_tbl) (K : rx_C V d kc ks y As h Q) : rx_Met V d kc ks y As h Q := by
  refine MetFree.of_bodyS (code := y.2.1) (maxLocals := y.2.2.1) (ret := y.2.2.2.1) hy ?_ ?_
  · intro args s m hp hn
    obtain ⟨m9, meth, c, hn9, h1, h2, h3, h4, -, h5, h6, -⟩ := Cond.codeWith_spec (atoms_spec (ws := rx_tbl) hp _ hw)
    cases hn.symm.trans hn9
    exact ⟨meth, c, h1, h2, h3, h4, h5, h6⟩
  · intro p e s m args below meth c s₁ B hml hP _
    obtain ⟨rfl, hsz, hPw, hK, hE⟩ := hP
    have hh0 : s₁.heap = s.heap := by rw [B.state]; rfl
    have hts := atoms_spec (ws := rx_tbl) B.pre
    have hne : c.exceptionTable.toList.map (fun x => (x.startPc, x.endPc, x.handlerPc, x.catchType)) = y.2.2.2.2 := by
      obtain ⟨m9, meth9, c9, hn9, h1, h2, -, -, h5, -, -, -⟩ := Cond.codeWith_spec (hts _ hw)
      cases B.named.symm.trans hn9
      cases B.method.symm.trans h1
      cases (Stand.of_body B).code.symm.trans h2
      exact h5
    have F : rx_F d y p (headSpec rx_tbl (rx_rm d kc ks)).room s m As.toArray meth c :=
      ⟨B.exec, B.bytes, hml, B.returns, B.notSynchronized, findClass_of_methodNamed B.named, hts, (name_of_methodNamed B.named B.method).1, Nat.le_refl _, Nat.le_refl _, hne⟩
    have G : rx_G V kc ks (headSpec rx_tbl (rx_rm d kc ks)).room s h s.heap [] 0 0 :=
      ⟨hsz, hPw, va_S.rf, hK, hE, by rw [hsz]; exact Nat.le_add_right _ _, by rw [Nat.zero_add]; exact Nat.le_refl _, by rw [Nat.zero_add]; exact Nat.le_refl _⟩
    obtain ⟨t, a1, o, b1, b2, b3, b4⟩ := K p e _ s m As.toArray below meth c s.heap [] 0 0 _ F G (rx_entry hsl) s₁ hh0 (Stand.of_body B)
    rw [Nat.zero_add, Nat.zero_add] at b4
    refine ⟨t, o, ?_, b1, b2, b3, b4⟩
    rw [lg_entry_eq]
    exact a1
section RXB
variable {V : rx_V} {p : Program} {e : Env} {R : Room} {s : State} {m : MethodId} {args : Array Value} {below : List Frame} {meth : Method} {c : Code} {T : State} {locs : List Loc} {cells slots : Nat}
/-- the callee comes back, with its answer, or with an exception over the caller's frame -/
theorem rx_back {d mc ms : Nat} {y : rx_T} {As : List Value} {h : List va_E} {Q1 : rx_R → List va_E → Prop} (hM : rx_Met V d mc ms y As h Q1)
    (X : Stand p V.1 e R s m args below meth c T locs cells slots) {g : JFrame} {ig : Instr} {len : Nat} {mk : MethodId} (hg : g.method = m) (hsize : g.locals.size = c.maxLocals) (hdg : decode c.code g.pc = .ok (ig, len)) (hW : 2 * g.monitorRoom + (g.stack.map fun v => v.category).sum ≤ 8)
    (hn : T.methodNamed? y.1 = some mk) (hfr : d + 1 ≤ R.frames) (hlo : 8 + (y.2.2.1 + 11) + 32 * d ≤ R.locals) (hws : ∀ w ∈ rx_tbl, w.before As.toArray T = true)
    (hcode : Cond.code y.1 y.2.1 y.2.2.1 y.2.2.2.1 ∈ rx_tbl ∨ Cond.codeWith y.1 y.2.1 y.2.2.1 y.2.2.2.1 y.2.2.2.2 ∈ rx_tbl) (hinit : (Cond.initialized y.1.cls).before As.toArray T = true) (hc : cells + mc ≤ R.cells) (hs : slots + ms ≤ R.slots)
    (hP : rx_P V As h As.toArray (T.calling g mk As.toArray)) :
    ∃ (o : Outcome) (t T' : State) (L : List Loc), Stand p V.1 e R s m args below meth c T' (locs ++ L) (cells + mc) (slots + ms) ∧ (∀ q ∈ L, rx_A V q.base) ∧ T'.heap = t.heap ∧ T'.vm = t.vm ∧ rx_O V (T.calling g mk As.toArray) Q1 o t ∧
      (∀ v, o = .returned v → Steps p.tables e below (doInvoke e (T.setTop g) [] mk As.toArray).1 (T'.setTop { g with pc := g.pc + len, stack := v.toList ++ g.stack })) ∧
      (∀ q, o = .threw q → Steps p.tables e below (doInvoke e (T.setTop g) [] mk As.toArray).1 ((T'.setTop g).pushFrame (.throwing q))) := by
  obtain ⟨methY, cY, hmY, hcY, hlY⟩ : ∃ methY cY, T.vm.method? mk = some methY ∧ methY.code = some cY ∧ cY.maxLocals = y.2.2.1 := by
    rcases hcode with hcode | hcode
    · obtain ⟨methY, cY, hmY, hcY, -, hlY, -, -, -, -⟩ := Cond.code_spec hn (hws _ hcode)
      exact ⟨methY, cY, hmY, hcY, hlY⟩
    · obtain ⟨m9, methY, cY, hn9, hmY, hcY, -, hlY, -⟩ := Cond.codeWith_spec (hws _ hcode)
      cases hn.symm.trans hn9
      exact ⟨methY, cY, hmY, hcY, hlY⟩
  obtain ⟨kY, hkY, -⟩ := className_of_methodNamed hn
  have hinitY : kY.init = .initialized := Cond.initialized_spec (findClass_of_methodNamed hn) hkY hinit
  have hat : At T g.method c below := by rw [hg]; exact X.here
  have happ : (headSpec rx_tbl (rx_rm d mc ms)).appliesLoose y.1 e.platform (T.calling g mk As.toArray) = true :=
    Spec.appliesLoose_calling (g := g) hat hdg hn hkY hinitY
      (X.room_calling (g := g) (R' := (headSpec rx_tbl (rx_rm d mc ms)).room) hsize hmY hcY hfr (by rw [hlY]; show _ + _ + 32 * d ≤ _; omega) hc hs) (atoms_intro hws)
  obtain ⟨mid, hmid⟩ := hat.above
  have hfr9 : (T.setTop g).frames = (.java g :: mid) ++ below := by rw [State.frames_setTop' g hat.top, hmid]; rfl
  obtain ⟨o, t, hsteps, -, hend, hq⟩ := Steps.callFree hM p X.admits X.cas X.clock (acts := []) hfr9 happ hP trivial
  have hq' : rx_O V (T.calling g mk As.toArray) Q1 o t ∧ rx_N V (T.calling g mk As.toArray) t mc ms := hq
  obtain ⟨hO, L, hW₂, hsm, hL⟩ := hq'
  rw [State.frames_setTop' g hat.top] at hend
  obtain ⟨g₀, hg0⟩ := Option.isSome_iff_exists.mp hat.top
  obtain ⟨r, hr⟩ := State.topJava?_eq_some.mp hg0
  have hr' : (({ T with heap := t.heap, slotsUsed := t.slotsUsed } : State).setVm t.vm).frames = .java g₀ :: r := hr
  obtain ⟨e2, q2, q3, q4, q5, q6⟩ := id hsm
  have e3 : t = ({ (T.calling g mk As.toArray).setFrames t.frames with heap := t.heap, slotsUsed := t.slotsUsed } : State).setVm t.vm := by
    have h9 : t = ({ t with vm := (T.calling g mk As.toArray).vm } : State).setVm t.vm := rfl
    rw [e2] at h9
    exact h9
  have hW' : T.WarmedH t.vm := hW₂
  have hsame : T.sameButNew ({ T with heap := t.heap, slotsUsed := t.slotsUsed } : State) L mc ms := by
    refine ⟨?_, q2, q3, q4, q5, q6⟩
    obtain ⟨th, hth, -⟩ := State.frames_cons hr
    show ({ T with heap := t.heap, slotsUsed := t.slotsUsed } : State) = { T.setFrames T.frames with heap := t.heap, slotsUsed := t.slotsUsed }
    rw [State.setFrames_self hth]
  have X' : Stand p V.1 e R s m args below meth c (({ T with heap := t.heap, slotsUsed := t.slotsUsed } : State).setVm t.vm) (locs ++ L) (cells + mc) (slots + ms) :=
    ⟨X.admits, X.cas, X.clock, X.frames, X.room, X.hears, X.method, X.code, (X.here.setHeapUsed t.heap t.slotsUsed).setVm hW'.alike, X.tail, State.WarmedH.trans X.warmed hW', X.limits, X.bytes, X.same.trans (hsame.setVm s.vm)⟩
  refine ⟨o, t, _, L, X', hL, rfl, rfl, hO, fun v hv => ?_, fun q hv => ?_⟩
  · subst hv
    obtain ⟨c₂, i₂, len₂, hc₂, hd₂, hf₂⟩ := hend
    have hcc : c₂ = c := by
      have h1 : t.code? g.method = T.code? g.method := by
        rw [State.code?_eq, State.code?_eq, hW'.alike.method?]
      exact Option.some.inj (hc₂.symm.trans (h1.trans hat.code))
    subst hcc
    have hlen : len₂ = len := by rw [hdg] at hd₂; cases hd₂; rfl
    subst hlen
    have hs₂ : t = (({ T with heap := t.heap, slotsUsed := t.slotsUsed } : State).setVm t.vm).setTop { g with pc := g.pc + len₂, stack := v.toList ++ g.stack } := by
      refine e3.trans ?_
      rw [hf₂, State.calling_eq hat.top, State.setFrames_setFrames, State.setTop_of_frames _ hr', hr]
      rfl
    rw [← hs₂]
    exact hsteps
  · subst hv
    have hf₂ : t.frames = .throwing q :: .java g :: T.frames.tail := hend
    have hs₂ : t = ((({ T with heap := t.heap, slotsUsed := t.slotsUsed } : State).setVm t.vm).setTop g).pushFrame (.throwing q) := by
      refine e3.trans ?_
      rw [hf₂, State.calling_eq hat.top, State.setFrames_setFrames, State.pushFrame, State.frames_setTop _ hr', State.setTop_of_frames _ hr', State.setFrames_setFrames, hr]
      rfl
    rw [← hs₂]
    exact hsteps
end RXB
/-- an exception of the kind E lies over the frame at pc -/
def rx_Y (V : rx_V) (d kc ks : Nat) (M : rx_T) (pc : Nat) (L : rx_L) (h : List va_E) (Q : rx_R → List va_E → Prop) (E : Nat) : Prop :=
  ∀ (p : Program) (e : Env) (R : Room) (s : State) (m : MethodId) (args : Array Value) (below : List Frame) (meth : Method) (c : Code) (H : Heap) (locs : List Loc) (cells slots : Nat) (ls : Array Slot) (rest : List Value) (q : Nat) (ce : Cell),
    rx_F d M p R s m args meth c → rx_G V kc ks R s h H locs cells slots → rx_lv ls M.2.2.1 L → H[q]? = some ce → ce.vm = .none → s.vm.findClass (rx_exn E) = some ce.cls →
    ∀ T : State, T.heap = H → Stand p V.1 e R s m args below meth c T locs cells slots → ∃ t, Steps p.tables e below ((T.setTop (F0 m pc ls rest)).pushFrame (.throwing q)) t ∧ rx_Z V below s (cells + kc) (slots + ks) Q t
theorem rx_out {V : rx_V} {d kc ks : Nat} {M : rx_T} {pc : Nat} {L : rx_L} {h : List va_E} {Q : rx_R → List va_E → Prop} {E : Nat} (hh : M.2.2.2.2 = []) (hq : Q (.inr E) h) : rx_Y V d kc ks M pc L h Q E := by
  intro p e R s m args below meth c H locs cells slots ls rest q ce F G hl hce hcv hcl T hT X
  have hne : c.exceptionTable.toList = [] := by
    have h9 := F.2.2.2.2.2.2.2.2.2.2
    rw [hh] at h9
    exact List.map_eq_nil_iff.mp h9
  obtain ⟨st1, hrun, hend, hW, hsm⟩ := X.leaveThrown q (g := F0 m pc ls rest) rfl rfl rfl (by rw [hne]; intro x hx; cases hx) (hlocks := F.2.2.2.2.1)
  refine ⟨_, st1, .threw q, hrun, hend, ⟨.inr E, h, hq, ?_, ?_, G.2.2.1.F hT, q, ce, rfl, ?_, hcv, hcl⟩, locs, hW, hsm.mono (Nat.le_add_right _ _) (Nat.le_add_right _ _), G.2.2.1.2.2⟩
  · show T.heap.size = _
    rw [hT]; exact G.1
  · show va_P _ _ _ T.heap
    rw [hT]; exact G.2.1
  · show T.heap[q]? = _
    rw [hT]; exact hce
section RXK
variable {V : rx_V} {d kc ks mc ms : Nat} {M y : rx_T} {pc : Nat} {L : rx_L} {S Sr As : List Value} {h : List va_E} {Q Q1 : rx_R → List va_E → Prop} {index : Nat}
/-- what every call needs of the callee -/
def rx_cl9 (y : rx_T) (n k : Nat) : Prop := plainName y.1.cls = true ∧ (y.1.cls ≠ "java/lang/invoke/MethodHandle" ∧ y.1.cls ≠ "java/lang/invoke/VarHandle") ∧ (parseMethodDescriptor y.1.desc).map (fun t => t.parameters.length) = some n ∧ Cond.code y.1 y.2.1 y.2.2.1 y.2.2.2.1 ∈ rx_tbl ∧ Cond.initialized y.1.cls ∈ rx_tbl ∧ y.2.2.2.2 = [] ∧ k ≤ y.2.2.1 ∧ y.2.2.1 ≤ 13
theorem rx_pre {R : Room} {s : State} {H : Heap} {locs : List Loc} {cells slots : Nat} {T : State} {kc ks : Nat} (G : rx_G V kc ks R s h H locs cells slots) (hT : T.heap = H) (hW : s.WarmedH T.vm) (g : JFrame) (mk : MethodId) (As : List Value) : rx_P V As h As.toArray (T.calling g mk As.toArray) := by
  obtain ⟨g1, g2, g3, g4, g5, g6, -, -⟩ := G
  refine ⟨rfl, ?_, ?_, va_K.moved hW.alike g4, rx_E_moved (U := T.calling g mk As.toArray) hW ?_ (fun q hq => ?_) g5⟩
  · show T.heap.size = _
    rw [hT]; exact g1
  · show va_P _ _ _ T.heap
    rw [hT]; exact g2
  · show V.2.1 ≤ T.heap.size
    rw [hT, g1]; exact Nat.le_add_right _ _
  · show T.heap[q]? = _
    rw [hT]
    exact g3.2.1 q (Nat.lt_of_lt_of_le hq g6) (fun z => Nat.not_le.mpr hq z)
theorem rx_after {R : Room} {s : State} {H : Heap} {locs L9 : List Loc} {cells slots : Nat} {T' t st : State} {h1 : List va_E} (G : rx_G V (mc + kc) (ms + ks) R s h H locs cells slots) (hst : st.heap = H) (hz : t.heap.size = V.2.1 + h1.length) (hP : va_P V.2.2.1 rx_cl (rx_ws V.2.1 h1) t.heap) (hF : va_F (rx_A V) st t) (hL : ∀ q ∈ L9, rx_A V q.base) (ht : T'.heap = t.heap) :
    rx_G V kc ks R s h1 T'.heap (locs ++ L9) (cells + mc) (slots + ms) := by
  obtain ⟨g1, g2, g3, g4, g5, g6, g7, g8⟩ := G
  obtain ⟨f1, f2⟩ := hF
  rw [hst] at f1 f2
  rw [ht]
  refine ⟨hz, hP, ⟨Nat.le_trans g3.1 f1, fun q h1 h2 => (f2 q (Nat.lt_of_lt_of_le h1 g3.1) h2).trans (g3.2.1 q h1 h2), fun q hq => ?_⟩, g4, g5, g6, by omega, by omega⟩
  rcases List.mem_append.mp hq with hq | hq
  · exact g3.2.2 q hq
  · exact hL q hq
/-- the end of every call row -/
theorem rx_goonM {p : Program} {e : Env} {R : Room} {s : State} {m : MethodId} {args : Array Value} {below : List Frame} {meth : Method} {c : Code} {H : Heap} {locs : List Loc} {cells slots : Nat} {ls : Array Slot} {T : State} {vm₁ : Vm} {mk : MethodId} {ig : Instr} {Av : List Value}
    (F : rx_F (d + 1) M p R s m args meth c) (G : rx_G V (mc + kc) (ms + ks) R s h H locs cells slots) (hl : rx_lv ls M.2.2.1 L) (hT : T.heap = H) (c4 : Cond.code y.1 y.2.1 y.2.2.1 y.2.2.2.1 ∈ rx_tbl ∨ Cond.codeWith y.1 y.2.1 y.2.2.1 y.2.2.2.1 y.2.2.2.2 ∈ rx_tbl) (c5 : Cond.initialized y.1.cls ∈ rx_tbl) (c8 : y.2.2.1 ≤ 13) (hw8 : (Sr.map fun v => v.category).sum ≤ 8) (hd : decode M.2.1 pc = .ok (ig, 3))
    (hM : rx_Met V d mc ms y Av h Q1) (kx : ∀ E h1, Q1 (.inr E) h1 → rx_Y V (d + 1) kc ks M pc L h1 Q E) (k : ∀ v h1, Q1 (.inl v) h1 → rx_W V (d + 1) kc ks M (pc + 3) L (v.toList ++ Sr) h1 Q)
    (X₁ : Stand p V.1 e R s m args below meth c (T.setVm vm₁) locs cells slots) (hn : s.methodNamed? y.1 = some mk) :
    ∃ t, Steps p.tables e below (doInvoke e ((T.setVm vm₁).setTop (F0 m pc ls Sr)) [] mk Av.toArray).1 t ∧ rx_Z V below s (cells + (mc + kc)) (slots + (ms + ks)) Q t := by
  have hd1 := F.2.2.2.2.2.2.2.2.1
  have hd2 := F.2.2.2.2.2.2.2.2.2.1
  have hts := F.2.2.2.2.2.2.1
  obtain ⟨-, -, -, -, -, -, g7, g8⟩ := id G
  obtain ⟨o, t, T', L9, X', hL9, e1, e2, ⟨r, h1, hQ, hz, hP, hF, hr⟩, s1, s2⟩ := rx_back hM X₁ (g := F0 m pc ls Sr) (ig := ig) (len := 3) rfl (by rw [F.2.2.1]; exact hl.1) (by rw [F.2.1]; exact hd) (lv_room hw8) (X₁.named hn) hd1 (by omega)
    (fun w hw => rx_at X₁.warmed (rx_good hw) (hts w hw)) c4 (rx_at X₁.warmed (rx_good c5) (hts _ c5)) (by omega) (by omega) (rx_pre (T := T.setVm vm₁) G hT X₁.warmed _ _ _)
  have G1 := rx_after G (st := (T.setVm vm₁).calling (F0 m pc ls Sr) mk Av.toArray) hT hz hP hF hL9 e1
  rw [← Nat.add_assoc, ← Nat.add_assoc]
  cases r with
  | inl v =>
    obtain ⟨u, a1, b1⟩ := k v h1 hQ p e R s m args below meth c T'.heap (locs ++ L9) (cells + mc) (slots + ms) ls F G1 hl T' rfl X'
    exact ⟨u, (s1 v hr).trans a1, b1⟩
  | inr E =>
    obtain ⟨a, ce, ho, hce, hcv, hcls⟩ := hr
    have hcls' : s.vm.findClass (rx_exn E) = some ce.cls := by
      have h9 : (T.setVm vm₁).vm.findClass (rx_exn E) = some ce.cls := hcls
      rw [X₁.warmed.alike.findClass] at h9
      exact h9
    obtain ⟨u, a1, b1⟩ := kx E h1 hQ p e R s m args below meth c T'.heap (locs ++ L9) (cells + mc) (slots + ms) ls Sr a ce F G1 hl (by rw [e1]; exact hce) hcv hcls' T' rfl X'
    exact ⟨u, (s2 a ho).trans a1, b1⟩
theorem rx_goon {p : Program} {e : Env} {R : Room} {s : State} {m : MethodId} {args : Array Value} {below : List Frame} {meth : Method} {c : Code} {H : Heap} {locs : List Loc} {cells slots : Nat} {ls : Array Slot} {T : State} {vm₁ : Vm} {mk : MethodId} {ig : Instr} {Av : List Value}
    (F : rx_F (d + 1) M p R s m args meth c) (G : rx_G V (mc + kc) (ms + ks) R s h H locs cells slots) (hl : rx_lv ls M.2.2.1 L) (hT : T.heap = H) (hcl : rx_cl9 y As.length (lg_sl Av).length) (hw8 : (Sr.map fun v => v.category).sum ≤ 8) (hd : decode M.2.1 pc = .ok (ig, 3))
    (K : rx_C V d mc ms y Av h Q1) (kx : ∀ E h1, Q1 (.inr E) h1 → rx_Y V (d + 1) kc ks M pc L h1 Q E) (k : ∀ v h1, Q1 (.inl v) h1 → rx_W V (d + 1) kc ks M (pc + 3) L (v.toList ++ Sr) h1 Q)
    (X₁ : Stand p V.1 e R s m args below meth c (T.setVm vm₁) locs cells slots) (hn : s.methodNamed? y.1 = some mk) :
    ∃ t, Steps p.tables e below (doInvoke e ((T.setVm vm₁).setTop (F0 m pc ls Sr)) [] mk Av.toArray).1 t ∧ rx_Z V below s (cells + (mc + kc)) (slots + (ms + ks)) Q t :=
  rx_goonM F G hl hT (Or.inl hcl.2.2.2.1) hcl.2.2.2.2.1 hcl.2.2.2.2.2.2.2 hw8 hd (rx_met hcl.1 hcl.2.2.2.2.2.2.1 hcl.2.2.2.2.2.1 hcl.2.2.2.1 K) kx k X₁ hn
theorem rx_len {As : List Value} {n : Nat} {y : rx_T} (h : (parseMethodDescriptor y.1.desc).map (fun t => t.parameters.length) = some As.length) (sig : MethodDescriptor) (hs : parseMethodDescriptor y.1.desc = some sig) : As.length = sig.parameters.length := by
  rw [hs] at h
  exact (Option.some.inj h).symm
/-- invokevirtual on an object of the class with the number ci -/
theorem rx_callV {b ci : Nat} {fs : List Value} {r : vw_C} (hd : decode M.2.1 pc = .ok (.invokevirtual index, 3)) (hc : rx_cl[ci]? = some r) (w1 : Cond.methodLink M.1.cls index y.1 ∈ rx_tbl) (w2 : Cond.instanceMethod y.1 ∈ rx_tbl) (w3 : Cond.selects r.1 y.1 y.1 ∈ rx_tbl) (hcl : rx_cl9 y As.length (lg_sl (.ref b :: As)).length)
    (he : rx_rd V h b = some (.inr (ci, fs))) (hS : S = As.reverse ++ .ref b :: Sr) (hw8 : (Sr.map fun v => v.category).sum ≤ 8)
    (K : rx_C V d mc ms y (.ref b :: As) h Q1) (kx : ∀ E h1, Q1 (.inr E) h1 → rx_Y V (d + 1) kc ks M pc L h1 Q E) (k : ∀ v h1, Q1 (.inl v) h1 → rx_W V (d + 1) kc ks M (pc + 3) L (v.toList ++ Sr) h1 Q) : rx_W V (d + 1) (mc + kc) (ms + ks) M pc L S h Q := by
  intro p e R s m args below meth c H locs cells slots ls F G hl T hT X
  subst hS
  have hts := F.2.2.2.2.2.2.1
  obtain ⟨q, rfl, hq, -⟩ := rx_rd_at he
  obtain ⟨cellB, hcB, hoB, hclB⟩ := va_recv G.2.2.2.1 G.2.1 hc (rx_ws_of hq)
  obtain ⟨mk, methM, hnamed, hmethM, hstM, habM⟩ := Cond.instanceMethod_spec (hts _ w2)
  obtain ⟨methM', cM, hmethM', -, -, -, -, -, -, hsigM⟩ := Cond.code_spec hnamed (hts _ hcl.2.2.2.1)
  cases hmethM.symm.trans hmethM'
  obtain ⟨c2, r2, m2, q1, q2, q3, q4, kP, hkP, hkPi⟩ := Cond.selects_spec (hts _ w3)
  cases hclB.symm.trans q1
  cases (State.methodFound?_of_named hnamed hcl.2.1).symm.trans q2
  cases hnamed.symm.trans q3
  have hselP : selectMethod e.platform s.vm cellB.cls mk = .method mk := by rw [Launch.admits_selectMethod X.admits]; exact q4
  obtain ⟨vm₁, X₁, hstep₁⟩ := X.invokevirtual F.1 F.2.2.2.2.2.1 (hts _ w1) hnamed hmethM hstM hkP hkPi hcl.2.1 (a := V.2.1 + q) (cell := cellB) (by rw [hT]; exact hcB)
    (fun z h => by rw [h] at hoB; cases hoB) hselP hmethM habM hkP hkPi (g := F0 m pc ls (As.reverse ++ .ref (V.2.1 + q) :: Sr)) rfl (argsL := As) (rest := Sr) (rx_len (n := 0) hcl.2.2.1 _ hsigM) rfl (by rw [F.2.1]; exact hd)
  obtain ⟨t, a1, b1⟩ := rx_goon F G hl hT hcl hw8 hd K kx k X₁ hnamed
  exact ⟨t, hstep₁ _ fun acts => by rw [doInvoke_state]; exact a1, b1⟩
theorem rx_callS (hd : decode M.2.1 pc = .ok (.invokestatic index, 3)) (w1 : Cond.methodLink M.1.cls index y.1 ∈ rx_tbl) (w2 : Cond.static y.1 ∈ rx_tbl) (hcl : rx_cl9 y As.length (lg_sl As).length)
    (hS : S = As.reverse ++ Sr) (hw8 : (Sr.map fun v => v.category).sum ≤ 8)
    (K : rx_C V d mc ms y As h Q1) (kx : ∀ E h1, Q1 (.inr E) h1 → rx_Y V (d + 1) kc ks M pc L h1 Q E) (k : ∀ v h1, Q1 (.inl v) h1 → rx_W V (d + 1) kc ks M (pc + 3) L (v.toList ++ Sr) h1 Q) : rx_W V (d + 1) (mc + kc) (ms + ks) M pc L S h Q := by
  intro p e R s m args below meth c H locs cells slots ls F G hl T hT X
  subst hS
  have hts := F.2.2.2.2.2.2.1
  obtain ⟨mk, hnamed⟩ := Cond.code_named (hts _ hcl.2.2.2.1)
  obtain ⟨methM, cM, hmethM, -, -, -, -, -, -, hsigM⟩ := Cond.code_spec hnamed (hts _ hcl.2.2.2.1)
  have hstatic : methM.isStatic = true := Cond.static_spec hnamed hmethM (hts _ w2)
  obtain ⟨kP, hkP, -⟩ := className_of_methodNamed hnamed
  have hinitP : kP.init = .initialized := Cond.initialized_spec (findClass_of_methodNamed hnamed) hkP (hts _ hcl.2.2.2.2.1)
  obtain ⟨vm₁, X₁, hstep₁⟩ := X.invokestatic F.1 F.2.2.2.2.2.1 (hts _ w1) hnamed hmethM hstatic hkP hinitP hcl.2.1 (g := F0 m pc ls (As.reverse ++ Sr)) rfl (argsL := As) (rest := Sr) (rx_len (n := 0) hcl.2.2.1 _ hsigM) rfl (by rw [F.2.1]; exact hd)
  obtain ⟨t, a1, b1⟩ := rx_goon F G hl hT hcl hw8 hd K kx k X₁ hnamed
  exact ⟨t, hstep₁ _ fun acts => by rw [doInvoke_state]; exact a1, b1⟩
theorem rx_callSW (hd : decode M.2.1 pc = .ok (.invokestatic index, 3)) (w1 : Cond.methodLink M.1.cls index y.1 ∈ rx_tbl) (w2 : Cond.static y.1 ∈ rx_tbl) (w4 : Cond.codeWith y.1 y.2.1 y.2.2.1 y.2.2.2.1 y.2.2.2.2 ∈ rx_tbl) (w5 : Cond.initialized y.1.cls ∈ rx_tbl)
    (hy : plainName y.1.cls = true) (hy2 : y.1.cls ≠ "java/lang/invoke/MethodHandle" ∧ y.1.cls ≠ "java/lang/invoke/VarHandle") (hlen : (parseMethodDescriptor y.1.desc).map (fun t => t.parameters.length) = some As.length) (hsl : (lg_sl As).length ≤ y.2.2.1) (h13 : y.2.2.1 ≤ 13)
    (hS : S = As.reverse ++ Sr) (hw8 : (Sr.map fun v => v.category).sum ≤ 8)
    (K : rx_C V d mc ms y As h Q1) (kx : ∀ E h1, Q1 (.inr E) h1 → rx_Y V (d + 1) kc ks M pc L h1 Q E) (k : ∀ v h1, Q1 (.inl v) h1 → rx_W V (d + 1) kc ks M (pc + 3) L (v.toList ++ Sr) h1 Q) : rx_W V (d + 1) (mc + kc) (ms + ks) M pc L S h Q := by
  intro p e R s m args below meth c H locs cells slots ls F G hl T hT X
  subst hS
  have hts := F.2.2.2.2.2.2.1
  obtain ⟨mk, methM, cM, hnamed, hmethM, -, -, -, -, -, -, hsigM⟩ := Cond.codeWith_spec (hts _ w4)
  have hstatic : methM.isStatic = true := Cond.static_spec hnamed hmethM (hts _ w2)
  obtain ⟨kP, hkP, -⟩ := className_of_methodNamed hnamed
  have hinitP : kP.init = .initialized := Cond.initialized_spec (findClass_of_methodNamed hnamed) hkP (hts _ w5)
  obtain ⟨vm₁, X₁, hstep₁⟩ := X.invokestatic F.1 F.2.2.2.2.2.1 (hts _ w1) hnamed hmethM hstatic hkP hinitP hy2 (g := F0 m pc ls (As.reverse ++ Sr)) rfl (argsL := As) (rest := Sr) (rx_len (n := 0) hlen _ hsigM) rfl (by rw [F.2.1]; exact hd)
  obtain ⟨t, a1, b1⟩ := rx_goonM F G hl hT (Or.inr w4) w5 h13 hw8 hd (rx_metW hy hsl w4 K) kx k X₁ hnamed
  exact ⟨t, hstep₁ _ fun acts => by rw [doInvoke_state]; exact a1, b1⟩
theorem rx_callI {b : Nat} (hd : decode M.2.1 pc = .ok (.invokespecial index, 3)) (w1 : Cond.methodLink M.1.cls index y.1 ∈ rx_tbl) (w2 : Cond.instanceMethod y.1 ∈ rx_tbl) (hy1 : y.1.name = "<init>") (hret : y.2.2.2.1 = none) (hcl : rx_cl9 y As.length (lg_sl (.ref b :: As)).length)
    (hS : S = As.reverse ++ .ref b :: Sr) (hw8 : (Sr.map fun v => v.category).sum ≤ 8)
    (K : rx_C V d mc ms y (.ref b :: As) h Q1) (kx : ∀ E h1, Q1 (.inr E) h1 → rx_Y V (d + 1) kc ks M pc L h1 Q E) (k : ∀ v h1, Q1 (.inl v) h1 → rx_W V (d + 1) kc ks M (pc + 3) L (v.toList ++ Sr) h1 Q) : rx_W V (d + 1) (mc + kc) (ms + ks) M pc L S h Q := by
  intro p e R s m args below meth c H locs cells slots ls F G hl T hT X
  subst hS
  have hts := F.2.2.2.2.2.2.1
  have hpl : e.platform.magicAccessors = ({} : Platform).magicAccessors := by rw [X.admits.platform]
  have hcode := hts _ hcl.2.2.2.1
  rw [hret] at hcode
  obtain ⟨mk, methM, cM, kP, vm₁, hnamed, hmethM, hcodeM, -, hlocalsM, -, hkP, -, hW₁, hstep₁⟩ := Steps.initColdArgs (e := e) X.here F.1 X.warmed hpl F.2.2.2.2.2.1 hy1 hcl.2.1 (hts _ w1) (hts _ w2) hcode (f := F0 m pc ls (As.reverse ++ .ref b :: Sr)) rfl (rx_len (n := 0) hcl.2.2.1) rfl (by rw [F.2.1]; exact hd)
  obtain ⟨t, a1, b1⟩ := rx_goon F G hl hT hcl hw8 hd K kx k (X.noted hW₁) hnamed
  exact ⟨t, hstep₁ _ fun acts => by rw [doInvoke_state]; exact a1, b1⟩
theorem rx_callSN {host : String} (hd : decode M.2.1 pc = .ok (.invokestatic index, 3)) (w1 : Cond.methodLinkNest M.1.cls index y.1 host ∈ rx_tbl) (w2 : Cond.static y.1 ∈ rx_tbl) (hcl : rx_cl9 y As.length (lg_sl As).length)
    (hS : S = As.reverse ++ Sr) (hw8 : (Sr.map fun v => v.category).sum ≤ 8)
    (K : rx_C V d mc ms y As h Q1) (kx : ∀ E h1, Q1 (.inr E) h1 → rx_Y V (d + 1) kc ks M pc L h1 Q E) (k : ∀ v h1, Q1 (.inl v) h1 → rx_W V (d + 1) kc ks M (pc + 3) L (v.toList ++ Sr) h1 Q) : rx_W V (d + 1) (mc + kc) (ms + ks) M pc L S h Q := by
  intro p e R s m args below meth c H locs cells slots ls F G hl T hT X
  subst hS
  have hts := F.2.2.2.2.2.2.1
  obtain ⟨mk, hnamed⟩ := Cond.code_named (hts _ hcl.2.2.2.1)
  obtain ⟨methM, cM, hmethM, -, -, -, -, -, -, hsigM⟩ := Cond.code_spec hnamed (hts _ hcl.2.2.2.1)
  have hstatic : methM.isStatic = true := Cond.static_spec hnamed hmethM (hts _ w2)
  obtain ⟨kP, hkP, -⟩ := className_of_methodNamed hnamed
  have hinitP : kP.init = .initialized := Cond.initialized_spec (findClass_of_methodNamed hnamed) hkP (hts _ hcl.2.2.2.2.1)
  obtain ⟨vm₁, X₁, hstep₁⟩ := X.invokestaticNest F.1 F.2.2.2.2.2.1 (hts _ w1) hnamed hmethM hstatic hkP hinitP hcl.2.1 (g := F0 m pc ls (As.reverse ++ Sr)) rfl (argsL := As) (rest := Sr) (rx_len (n := 0) hcl.2.2.1 _ hsigM) rfl (by rw [F.2.1]; exact hd)
  obtain ⟨t, a1, b1⟩ := rx_goon F G hl hT hcl hw8 hd K kx k X₁ hnamed
  exact ⟨t, hstep₁ _ fun acts => by rw [doInvoke_state]; exact a1, b1⟩
theorem rx_callIN {b : Nat} {host : String} (hd : decode M.2.1 pc = .ok (.invokespecial index, 3)) (w1 : Cond.methodLinkNest M.1.cls index y.1 host ∈ rx_tbl) (w2 : Cond.instanceMethod y.1 ∈ rx_tbl) (hy1 : y.1.name = "<init>") (hret : y.2.2.2.1 = none) (hcl : rx_cl9 y As.length (lg_sl (.ref b :: As)).length)
    (hS : S = As.reverse ++ .ref b :: Sr) (hw8 : (Sr.map fun v => v.category).sum ≤ 8)
    (K : rx_C V d mc ms y (.ref b :: As) h Q1) (kx : ∀ E h1, Q1 (.inr E) h1 → rx_Y V (d + 1) kc ks M pc L h1 Q E) (k : ∀ v h1, Q1 (.inl v) h1 → rx_W V (d + 1) kc ks M (pc + 3) L (v.toList ++ Sr) h1 Q) : rx_W V (d + 1) (mc + kc) (ms + ks) M pc L S h Q := by
  intro p e R s m args below meth c H locs cells slots ls F G hl T hT X
  subst hS
  have hts := F.2.2.2.2.2.2.1
  have hpl : e.platform.magicAccessors = ({} : Platform).magicAccessors := by rw [X.admits.platform]
  have hcode := hts _ hcl.2.2.2.1
  rw [hret] at hcode
  obtain ⟨mk, methM, cM, kP, vm₁, hnamed, hmethM, hcodeM, -, hlocalsM, -, hkP, -, hW₁, hstep₁⟩ := Steps.initColdArgsNest (e := e) X.here F.1 X.warmed hpl F.2.2.2.2.2.1 hy1 hcl.2.1 (hts _ w1) (hts _ w2) hcode (f := F0 m pc ls (As.reverse ++ .ref b :: Sr)) rfl (rx_len (n := 0) hcl.2.2.1) rfl (by rw [F.2.1]; exact hd)
  obtain ⟨t, a1, b1⟩ := rx_goon F G hl hT hcl hw8 hd K kx k (X.noted hW₁) hnamed
  exact ⟨t, hstep₁ _ fun acts => by rw [doInvoke_state]; exact a1, b1⟩
end RXK
end
section
/-! rows of what lies outside: the script, the static arrays, long constants -/
section RXO
variable {V : rx_V} {d kc ks : Nat} {M : rx_T} {pc : Nat} {L : rx_L} {S : List Value} {h : List va_E} {Q : rx_R → List va_E → Prop}
theorem rx_ialoadX {a n : Nat} {f : Nat → Int32} {i : Int32} (hd : decode M.2.1 pc = .ok (.iaload, 1)) (hq : (a, n, f) ∈ V.2.2.2.2) (hin : vp_in i n)
    (kk : rx_W V d kc ks M (pc + 1) L (.int (f i.toNatClampNeg) :: S) h Q) : rx_W V d kc ks M pc L (.int i :: .ref a :: S) h Q := by
  intro p e R s m args below meth c H locs cells slots ls F G hl
  obtain ⟨h1, h2⟩ := G.2.2.2.2.1.1 _ hq
  exact va_sld F.1 F.2.1 h2 (Nat.lt_of_lt_of_le h1 G.2.2.2.2.2.1) (Nat.not_le.mpr h1) G.2.2.1 hin hd (kk p e R s m args below meth c H locs cells slots ls F G hl)
theorem rx_alenX {a n : Nat} {f : Nat → Int32} (hd : decode M.2.1 pc = .ok (.arraylength, 1)) (hq : (a, n, f) ∈ V.2.2.2.2)
    (kk : rx_W V d kc ks M (pc + 1) L (.int (Int32.ofNat n) :: S) h Q) : rx_W V d kc ks M pc L (.ref a :: S) h Q := by
  intro p e R s m args below meth c H locs cells slots ls F G hl
  obtain ⟨h1, h2⟩ := G.2.2.2.2.1.1 _ hq
  exact va_slen F.1 F.2.1 h2 (Nat.lt_of_lt_of_le h1 G.2.2.2.2.2.1) (Nat.not_le.mpr h1) G.2.2.1 hd (kk p e R s m args below meth c H locs cells slots ls F G hl)
theorem rx_least {q : Nat × Nat × (Nat → Int32)} {index : Nat} (hd : decode M.2.1 pc = .ok (.getstatic index, 3)) (hq : V.2.2.2.2[1]? = some q) (w1 : Cond.fieldLink M.1.cls index "ScoreRoads" "LEAST_VALUES" "[I" ∈ rx_tbl)
    (kk : rx_W V d kc ks M (pc + 3) L (.ref q.1 :: S) h Q) : rx_W V d kc ks M pc L S h Q := by
  intro p e R s m args below meth c H locs cells slots ls F G hl
  exact va_gets F.1 F.2.1 (G.2.2.2.2.1.2.2.1 q hq) G.2.2.1 F.2.2.2.2.2.1 (F.2.2.2.2.2.2.1 _ w1) (fun _ z => z) hd (kk p e R s m args below meth c H locs cells slots ls F G hl)
theorem rx_most {q : Nat × Nat × (Nat → Int32)} {index : Nat} (hd : decode M.2.1 pc = .ok (.getstatic index, 3)) (hq : V.2.2.2.2[2]? = some q) (w1 : Cond.fieldLink M.1.cls index "ScoreRoads" "MOST_VALUES" "[I" ∈ rx_tbl)
    (kk : rx_W V d kc ks M (pc + 3) L (.ref q.1 :: S) h Q) : rx_W V d kc ks M pc L S h Q := by
  intro p e R s m args below meth c H locs cells slots ls F G hl
  exact va_gets F.1 F.2.1 (G.2.2.2.2.1.2.2.2.1 q hq) G.2.2.1 F.2.2.2.2.2.1 (F.2.2.2.2.2.2.1 _ w1) (fun _ z => z) hd (kk p e R s m args below meth c H locs cells slots ls F G hl)
theorem rx_ldc2 {index : Nat} {v : Int64} (hd : decode M.2.1 pc = .ok (.ldc2_w index, 3)) (w1 : Cond.constantLong M.1.cls index v ∈ rx_tbl)
    (kk : rx_W V d kc ks M (pc + 3) L (.long v :: S) h Q) : rx_W V d kc ks M pc L S h Q := by
  intro p e R s m args below meth c H locs cells slots ls F G hl
  exact lv_ldc2 F.1 F.2.1 F.2.2.2.2.2.1 (F.2.2.2.2.2.2.1 _ w1) hd (kk p e R s m args below meth c H locs cells slots ls F G hl)
/-! exact ends -/
def rx_X (r0 : rx_R) (h0 : List va_E) : rx_R → List va_E → Prop := fun r h => r = r0 ∧ h = h0
variable {mc ms : Nat} {y : rx_T} {Sr As : List Value} {index : Nat} {v0 : Option Value} {h0 : List va_E}
theorem rx_exact {r0 : rx_R} (w : rx_W V d kc ks M pc L S h (rx_X r0 h0)) (hq : Q r0 h0) : rx_W V d kc ks M pc L S h Q := rx_cons w (fun r h' z => by obtain ⟨rfl, rfl⟩ := z; exact hq)
theorem rx_kx {v0 : Option Value} : ∀ E h1, rx_X (.inl v0) h0 (.inr E) h1 → rx_Y V (d + 1) kc ks M pc L h1 Q E := fun _ _ z => nomatch z.1
theorem rx_k1 {v0 : Option Value} (k : rx_W V (d + 1) kc ks M (pc + 3) L (v0.toList ++ Sr) h0 Q) : ∀ v h1, rx_X (.inl v0) h0 (.inl v) h1 → rx_W V (d + 1) kc ks M (pc + 3) L (v.toList ++ Sr) h1 Q := fun v h1 z => by
  obtain ⟨z1, rfl⟩ := z
  cases z1
  exact k
theorem rx_callV1 {b ci : Nat} {fs : List Value} {r : vw_C} (hd : decode M.2.1 pc = .ok (.invokevirtual index, 3)) (hc : rx_cl[ci]? = some r) (w1 : Cond.methodLink M.1.cls index y.1 ∈ rx_tbl) (w2 : Cond.instanceMethod y.1 ∈ rx_tbl) (w3 : Cond.selects r.1 y.1 y.1 ∈ rx_tbl) (hcl : rx_cl9 y As.length (lg_sl (.ref b :: As)).length)
    (he : rx_rd V h b = some (.inr (ci, fs))) (hS : S = As.reverse ++ .ref b :: Sr) (hw8 : (Sr.map fun v => v.category).sum ≤ 8) (K : rx_C V d mc ms y (.ref b :: As) h (rx_X (.inl v0) h0)) (k : rx_W V (d + 1) kc ks M (pc + 3) L (v0.toList ++ Sr) h0 Q) : rx_W V (d + 1) (mc + kc) (ms + ks) M pc L S h Q :=
  rx_callV hd hc w1 w2 w3 hcl he hS hw8 K rx_kx (rx_k1 k)
theorem rx_callS1 (hd : decode M.2.1 pc = .ok (.invokestatic index, 3)) (w1 : Cond.methodLink M.1.cls index y.1 ∈ rx_tbl) (w2 : Cond.static y.1 ∈ rx_tbl) (hcl : rx_cl9 y As.length (lg_sl As).length)
    (hS : S = As.reverse ++ Sr) (hw8 : (Sr.map fun v => v.category).sum ≤ 8) (K : rx_C V d mc ms y As h (rx_X (.inl v0) h0)) (k : rx_W V (d + 1) kc ks M (pc + 3) L (v0.toList ++ Sr) h0 Q) : rx_W V (d + 1) (mc + kc) (ms + ks) M pc L S h Q :=
  rx_callS hd w1 w2 hcl hS hw8 K rx_kx (rx_k1 k)
theorem rx_callSN1 {host : String} (hd : decode M.2.1 pc = .ok (.invokestatic index, 3)) (w1 : Cond.methodLinkNest M.1.cls index y.1 host ∈ rx_tbl) (w2 : Cond.static y.1 ∈ rx_tbl) (hcl : rx_cl9 y As.length (lg_sl As).length)
    (hS : S = As.reverse ++ Sr) (hw8 : (Sr.map fun v => v.category).sum ≤ 8) (K : rx_C V d mc ms y As h (rx_X (.inl v0) h0)) (k : rx_W V (d + 1) kc ks M (pc + 3) L (v0.toList ++ Sr) h0 Q) : rx_W V (d + 1) (mc + kc) (ms + ks) M pc L S h Q :=
  rx_callSN hd w1 w2 hcl hS hw8 K rx_kx (rx_k1 k)
theorem rx_callI1 {b : Nat} (hd : decode M.2.1 pc = .ok (.invokespecial index, 3)) (w1 : Cond.methodLink M.1.cls index y.1 ∈ rx_tbl) (w2 : Cond.instanceMethod y.1 ∈ rx_tbl) (hy1 : y.1.name = "<init>") (hret : y.2.2.2.1 = none) (hcl : rx_cl9 y As.length (lg_sl (.ref b :: As)).length)
    (hS : S = As.reverse ++ .ref b :: Sr) (hw8 : (Sr.map fun v => v.category).sum ≤ 8) (K : rx_C V d mc ms y (.ref b :: As) h (rx_X (.inl v0) h0)) (k : rx_W V (d + 1) kc ks M (pc + 3) L (v0.toList ++ Sr) h0 Q) : rx_W V (d + 1) (mc + kc) (ms + ks) M pc L S h Q :=
  rx_callI hd w1 w2 hy1 hret hcl hS hw8 K rx_kx (rx_k1 k)
theorem rx_callIN1 {b : Nat} {host : String} (hd : decode M.2.1 pc = .ok (.invokespecial index, 3)) (w1 : Cond.methodLinkNest M.1.cls index y.1 host ∈ rx_tbl) (w2 : Cond.instanceMethod y.1 ∈ rx_tbl) (hy1 : y.1.name = "<init>") (hret : y.2.2.2.1 = none) (hcl : rx_cl9 y As.length (lg_sl (.ref b :: As)).length)
    (hS : S = As.reverse ++ .ref b :: Sr) (hw8 : (Sr.map fun v => v.category).sum ≤ 8) (K : rx_C V d mc ms y (.ref b :: As) h (rx_X (.inl v0) h0)) (k : rx_W V (d + 1) kc ks M (pc + 3) L (v0.toList ++ Sr) h0 Q) : rx_W V (d + 1) (mc + kc) (ms + ks) M pc L S h Q :=
  rx_callIN hd w1 w2 hy1 hret hcl hS hw8 K rx_kx (rx_k1 k)
end RXO
end
section
/-! 'throw new E("text")' -/
theorem rx_isRef {C n d : String} {v : Value} {A : Nat → Prop} {s : State} {args : Array Value} (h : va_Z C n d v A s s.heap) (hv : v.isRef = true) : (Cond.isRef (.static C n d)).before args s = true := by
  obtain ⟨cf, kf, fi, f, a, cell, h1, h2, h3, h4, h5, h6, h7, -⟩ := h
  have he : (Term.static C n d).eval args s none [] s = some v := by
    simp [Term.eval, State.fieldNamed?, h1, h2, h4, h5, h6, h7]
  simp only [Cond.before, Cond.holds, Cond.value, he]
  cases v <;> simp_all [Value.isRef]
theorem rx_isRefq {C n d : String} {A : Nat → Prop} {s : State} {args : Array Value} (h : va_Zq C n d A s s.heap) : (Cond.isRef (.static C n d)).before args s = true := by
  rcases h with h | ⟨t, h⟩
  · exact rx_isRef h rfl
  · exact rx_isRef h rfl
/-- a Stand, seen anew from the state that it has come to -/
theorem rx_rebase {p : Program} {l : Launch} {e : Env} {R R' : Room} {s T : State} {m : MethodId} {args : Array Value} {below : List Frame} {meth : Method} {c : Code} {locs : List Loc} {cells slots : Nat}
    (X : Stand p l e R s m args below meth c T locs cells slots) (hf : R'.frames ≤ R.frames) (hl : R'.locals ≤ R.locals) (hc : cells + R'.cells ≤ R.cells) (hs : slots + R'.slots ≤ R.slots) :
    Stand p l e R' ((T.setVm s.vm).setFrames (.invoking m args :: below)) m args below meth c T [] 0 0 := by
  have htop : (T.setVm s.vm).topJava?.isSome := X.here.top
  have hF : ((T.setVm s.vm).setFrames (.invoking m args :: below)).frames = .invoking m args :: below := State.frames_setFrames _ (State.cur_lt_of_top htop)
  obtain ⟨g₀, hg0⟩ := Option.isSome_iff_exists.mp htop
  obtain ⟨r, hr⟩ := State.topJava?_eq_some.mp hg0
  obtain ⟨th, hth, -⟩ := State.frames_cons hr
  refine ⟨X.admits, X.cas, X.clock, hF, ?_, X.hears, X.method, X.code, X.here, X.tail, X.warmed, ?_, ?_, ?_⟩
  · have h := X.room
    have hU : ((T.setVm s.vm).setFrames (.invoking m args :: below)).localsInUse = s.localsInUse := by
      rw [State.localsInUse_invoking hF (meth := meth) (c := c) X.method X.code, State.localsInUse_invoking X.frames X.method X.code]
    have hlim : e.platform.stackLimits (T.setVm s.vm).me = e.platform.stackLimits s.me := X.limits
    have hbytes : (T.setVm s.vm).me.stackBytes = s.me.stackBytes := X.bytes
    have hz := X.heapSize
    have hu := X.used
    simp only [State.hasRoom, Bool.and_eq_true, decide_eq_true_eq] at h ⊢
    obtain ⟨⟨⟨⟨h1, h2, h3, h4, h5, h6⟩, h7⟩, h8⟩, h9⟩ := h
    rw [X.frames, List.length_cons] at h2 h3
    simp only [hF, hU, List.length_cons, State.stackLimits_setFrames, State.stackBytes_setFrames, hlim, hbytes]
    refine ⟨⟨⟨⟨by omega, by omega, by omega, by omega, by omega, h6⟩, ?_⟩, ?_⟩, X.book⟩
    · show T.heap.size + R'.cells ≤ e.platform.maxCells
      omega
    · show T.slotsUsed + R'.slots ≤ e.platform.maxSlots
      omega
  · rw [State.stackLimits_setFrames]; rfl
  · rw [State.stackBytes_setFrames]; rfl
  · have hdr : T.heap.toList.drop T.heap.size = [] := List.drop_eq_nil_of_le (Nat.le_of_eq Array.length_toList)
    refine ⟨?_, Nat.le_refl _, Nat.le_refl _, ?_, ?_, fun a c9 h9 => ⟨c9, h9, rfl, rfl, fun _ _ => rfl⟩⟩
    · show T.setVm s.vm = { ((T.setVm s.vm).setFrames (.invoking m args :: below)).setFrames (T.setVm s.vm).frames with heap := T.heap, slotsUsed := T.slotsUsed }
      rw [State.setFrames_setFrames, State.setFrames_self hth]
      rfl
    · show T.slotsUsed = T.slotsUsed + ((T.heap.toList.drop T.heap.size).map (·.slots.size)).sum
      rw [hdr]; rfl
    · show ((T.heap.toList.drop T.heap.size).map (·.slots.size)).sum ≤ 0
      rw [hdr]
      exact Nat.le_refl _
/-- the four words of a throw that speak of the heap -/
def rx_hw (w : Cond) : Bool := decide (w = .isRef (.static Bundle.tN "UNASSIGNED_STACK" Bundle.steD)) || decide (w = .isRef (.static Bundle.tN "SUPPRESSED_SENTINEL" Bundle.listD)) || decide (w = .laysStatic Bundle.tN "UNASSIGNED_STACK" Bundle.steD) || decide (w = .laysStatic Bundle.tN "SUPPRESSED_SENTINEL" Bundle.listD)
def rx_sup : List String := ["java/lang/RuntimeException", "java/lang/Exception"]
def rx_ic : Nat → Nat := fun k => match k with
  | 0 => 58
  | 1 => 69
  | _ => 225
def rx_okw (E : Nat) : Bool := (Bundle.ownAtoms "ScoreRoads" (rx_ic E) (rx_exn E) rx_sup).all (fun w => rx_hw w || (decide (w ∈ tables_1) && rx_gd w))
set_option maxRecDepth 100000 in
theorem rx_okw_0 : rx_okw 0 = true := by decide +kernel
set_option maxRecDepth 100000 in
theorem rx_okw_1 : rx_okw 1 = true := by decide +kernel
set_option maxRecDepth 100000 in
theorem rx_okw_2 : rx_okw 2 = true := by decide +kernel
theorem rx_ownw {V : rx_V} {E : Nat} {s : State} {args : Array Value} (hE : E < 3) (hts : ∀ w ∈ rx_tbl, w.before args s = true) (hx : rx_E V s) : ∀ w ∈ Bundle.ownAtoms "ScoreRoads" (rx_ic E) (rx_exn E) rx_sup, w.before args s = true := by
  intro w hw
  have hok : rx_okw E = true := by
    match E, hE with
    | 0, _ => exact rx_okw_0
    | 1, _ => exact rx_okw_1
    | 2, _ => exact rx_okw_2
  have h1 := List.all_eq_true.mp hok w hw
  simp only [Bool.or_eq_true, Bool.and_eq_true, decide_eq_true_eq] at h1
  obtain ⟨-, -, -, -, ⟨z1, l1⟩, ⟨z2, l2⟩, -⟩ := hx
  rcases h1 with h1 | ⟨h1, h2⟩
  · simp only [rx_hw, Bool.or_eq_true, decide_eq_true_eq] at h1
    rcases h1 with ((h1 | h1) | h1) | h1
    · rw [h1]; exact rx_isRefq z1
    · rw [h1]; exact rx_isRefq z2
    · rw [h1]; exact rx_Ls_word l1
    · rw [h1]; exact rx_Ls_word l2
  · exact hts _ (List.mem_filter.mpr ⟨List.mem_append_right _ h1, h2⟩)
theorem rx_fitx {E : Nat} (hE : E < 3) : Bundle.fit (rx_exn E) = true := by
  match E, hE with
  | 0, _ => decide +kernel
  | 1, _ => decide +kernel
  | 2, _ => decide +kernel
theorem rx_clx {E : Nat} (hE : E < 3) : rx_cl[9 + E]? = some (rx_exn E, F_none, 0) := by
  match E, hE with
  | 0, _ => rfl
  | 1, _ => rfl
  | 2, _ => rfl
theorem rx_inix {E : Nat} (hE : E < 3) : Cond.initialized (rx_exn E) ∈ rx_tbl := by
  match E, hE with
  | 0, _ => exact rx_in 13 (by decide +kernel) (by decide +kernel)
  | 1, _ => exact rx_in 15 (by decide +kernel) (by decide +kernel)
  | 2, _ => exact rx_in 19 (by decide +kernel) (by decide +kernel)
section RXT
variable {V : rx_V} {d kc ks : Nat} {M : rx_T} {pc : Nat} {L : rx_L} {S : List Value} {h : List va_E} {Q : rx_R → List va_E → Prop}
set_option maxHeartbeats 1000000 in
theorem rx_throw {E ik is : Nat} {text : String} (htr : V.1.stackTraces = false) (hM : M.1.cls = "ScoreRoads") (hh : M.2.2.2.2 = []) (hE : E < 3)
    (d0 : decode M.2.1 pc = .ok (.new ik, 3)) (d3 : decode M.2.1 (pc + 3) = .ok (.dup, 1)) (d4 : decode M.2.1 (pc + 4) = .ok (.ldc is, 2)) (d6 : decode M.2.1 (pc + 6) = .ok (.invokespecial (rx_ic E), 3)) (d9 : decode M.2.1 (pc + 9) = .ok (.athrow, 1))
    (w1 : Cond.classLink "ScoreRoads" ik (rx_exn E) ∈ rx_tbl) (hst : (is, text) ∈ rx_strs) (hw8 : (S.map fun v => v.category).sum ≤ 8)
    (hq : Q (.inr E) (h ++ [.inr (9 + E, [])])) : rx_W V (d + 6) (kc + 1) (ks + 6) M pc L S h Q := by
  intro p e R s m args below meth c H locs cells slots ls F G hl T hT X
  have hd1 := F.2.2.2.2.2.2.2.2.1
  have hd2 := F.2.2.2.2.2.2.2.2.2.1
  obtain ⟨g1, g2, g3, g4, g5, g6, g7, g8⟩ := id G
  have hne : c.exceptionTable.toList = [] := by
    have h9 := F.2.2.2.2.2.2.2.2.2.2
    rw [hh] at h9
    exact List.map_eq_nil_iff.mp h9
  have hout : ∀ x ∈ c.exceptionTable.toList, covers x (pc + 9) = false := by rw [hne]; intro x hx; cases hx
  have htr' : e.platform.stackTraces = false := (show e.platform.stackTraces = V.1.stackTraces by rw [X.admits.platform]).trans htr
  have Y := rx_rebase X (R' := { frames := R.frames, locals := R.locals, cells := 1, slots := 6 }) (Nat.le_refl _) (Nat.le_refl _) (show cells + 1 ≤ _ by omega) (show slots + 6 ≤ _ by omega)
  obtain ⟨s', hA⟩ : ∃ z, z = (T.setVm s.vm).setFrames (.invoking m args :: below) := ⟨_, rfl⟩
  rw [← hA] at Y
  have hvm : s'.vm = s.vm := by rw [hA]; rfl
  have hhp : s'.heap = H := by rw [hA]; exact hT
  have hW0 : s.WarmedH s'.vm := by rw [hvm]; exact State.WarmedH.refl s
  have hts' : ∀ w ∈ rx_tbl, w.before args s' = true := fun w hw => rx_at hW0 (rx_good hw) (F.2.2.2.2.2.2.1 w hw)
  have hx' : rx_E V s' := rx_E_moved hW0 (by rw [hhp, g1]; exact Nat.le_add_right _ _) (fun q hq => by rw [hhp]; exact g3.2.1 q (Nat.lt_of_lt_of_le hq g6) (fun z => Nat.not_le.mpr hq z)) g5
  have hat := rx_ownw hE hts' hx'
  have hown' : s'.vm.findClass "ScoreRoads" = some m.cls := by rw [hvm, ← hM]; exact F.2.2.2.2.2.1
  have hins : (Cond.instantiable (rx_exn E) 6).before args s' = true := hat _ (by simp [Bundle.ownAtoms])
  obtain ⟨vm₁, cX, kX, hfX, hkX, -, -, X₁, st1⟩ := Y.newCold F.1 (own := "ScoreRoads") (C := rx_exn E) (index := ik) (n := 6) hown' (hts' _ w1) hins (hts' _ (rx_inix hE))
    (g := F0 m pc ls S) rfl (by rw [F.2.1]; exact d0) (Nat.le_refl _) (Nat.le_refl _)
  generalize hT1 : (T.setVm vm₁).pushCell { cls := cX, slots := kX.instanceTypes.map defaultValue, vm := .none } = T1 at X₁ st1
  have hcat : (Value.ref T.heap.size).category = 1 := rfl
  have hcellA : T1.heap[T.heap.size]? = some (freshCell cX kX) := by rw [← hT1]; exact State.heap_pushCell_size _ _
  have d3' : decode c.code (pc + 3) = .ok (.dup, 1) := by rw [F.2.1]; exact d3
  have d4' : decode c.code (pc + 4) = .ok (.ldc is, 2) := by rw [F.2.1]; exact d4
  obtain ⟨sa, hstr⟩ := hx'.2.2.2.2.2.2.1 _ hst
  obtain ⟨U, hsteps, hrun, hend, hW, hsame, ce, hce, hO⟩ := X₁.ctorThrowS F.1 htr' (own := "ScoreRoads") (cls := rx_exn E) (names := rx_sup) (ic := rx_ic E) hown' (rx_fitx hE) (by decide +kernel) hat (fun x hx => nomatch hx) hfX hkX hcellA (by rw [hhp, hT]; exact Nat.le_refl _) (msg := .ref sa) rfl
    (g := { method := m, pc := pc + 6, locals := ls, stack := .ref sa :: .ref T.heap.size :: .ref T.heap.size :: S, locked := none }) rfl (by rw [F.2.2.1]; exact hl.1) rfl rfl (rest := S) rfl
    (by rw [F.2.1]; exact d6) (by rw [F.2.1]; exact d9) hout (by show 2 + 3 < R.frames; omega)
    (by
      have h9 := lv_room (m := m) (pc := pc + 6) (ls := ls) (rest := .ref sa :: .ref T.heap.size :: .ref T.heap.size :: S) (st := S) hw8
      show _ + _ + (13 * (2 + 1) + 42) ≤ R.locals
      simp only [List.map_cons, List.sum_cons, hcat]
      have h8 : 2 * ({ method := m, pc := pc + 6, locals := ls, stack := .ref sa :: .ref T.heap.size :: .ref T.heap.size :: S, locked := none } : JFrame).monitorRoom + (S.map fun v => v.category).sum ≤ 8 := h9
      omega) (hlocks := F.2.2.2.2.1)
  obtain ⟨e1, q2, q3, q4, q5, q6⟩ := id hsame
  have hz : H.size ≤ U.heap.size := by rw [← hhp]; exact q2
  have hz2 : U.heap.size ≤ H.size + 1 := by rw [← hhp]; exact q3
  have hz3 : T.heap.size < U.heap.size := (Array.getElem?_eq_some_iff.mp hce).1
  rw [hT] at hz3 hce
  have hold : ∀ q : Nat, q < H.size → U.heap[q]? = H[q]? := by
    intro q hq
    rw [← hhp] at hq ⊢
    obtain ⟨c9, f1, f2, f3, f4⟩ := q6 q _ (Array.getElem?_eq_getElem hq)
    have hs : c9.slots = (s'.heap[q]).slots := Array.ext_getElem? fun i => f4 i (fun z => nomatch z)
    have h9 : c9 = s'.heap[q] := by
      rw [hs] at f2
      exact f2
    have f5 : U.heap[q]? = some c9 := f1
    rw [f5, h9, Array.getElem?_eq_getElem hq]
  have hcl : s.vm.findClass (rx_exn E) = some ce.cls := by
    have h9 := hO.cls
    rw [hvm] at h9
    exact h9
  have hall : s.sameButNew ({ U with vm := s.vm } : State) locs (cells + (kc + 1)) (slots + (ks + 6)) := by
    subst hA
    obtain ⟨f1, f2⟩ := hsame
    rw [State.setFrames_setFrames] at f1
    have h2 : (T.setVm s.vm).sameButNew ({ U with vm := s.vm } : State) [] (0 + 1) (0 + 6) := ⟨f1, f2⟩
    have h3 := X.same.trans h2
    rw [List.append_nil] at h3
    exact h3.mono (by omega) (by omega)
  refine ⟨U, ?_, .threw T.heap.size, hrun, hend, ⟨.inr E, h ++ [.inr (9 + E, [])], hq, ?_, ?_, ?_, T.heap.size, ce, rfl, by rw [hT]; exact hce, hO.vm, hcl⟩, locs, State.WarmedH.trans hW0 hW, hall, g3.2.2⟩
  · refine st1 _ ?_
    show Steps p.tables e below (T1.setTop { method := m, pc := pc + 3, locals := ls, stack := .ref T.heap.size :: S, locked := none }) _
    jvm_step X₁.here [X₁.here.top, F.1, d3', Value.category]
    exact X₁.ldcString F.1 (own := "ScoreRoads") (text := text) (index := is) (a := sa) hown' hstr.1 hstr.2
      (g := { method := m, pc := pc + 4, locals := ls, stack := .ref T.heap.size :: .ref T.heap.size :: S, locked := none }) rfl d4' _ hsteps
  · rw [List.length_append]
    show _ = V.2.1 + (h.length + 1)
    omega
  · rw [← rx_ws_push]
    refine (g2.kept (fun k x hx => hold x.1 ((g2 k x hx).lt))).app (fun k x hx => ?_)
    have hz9 : k < 1 := (List.getElem?_eq_some_iff.mp hx).1
    rw [show k = 0 by omega] at hx
    cases hx
    refine ⟨_, rx_clx hE, ce, ?_, ?_, hO.vm, fun k hk => absurd hk (Nat.not_lt_zero _)⟩
    · rw [← g1]; exact hce
    · have h9 := (g4.1 (9 + E) _ (rx_clx hE)).2.1
      exact Option.some.inj (hcl.symm.trans h9)
  · refine ⟨Nat.le_trans g3.1 hz, fun q h1 h2 => (hold q (Nat.lt_of_lt_of_le h1 g3.1)).trans (g3.2.1 q h1 h2)⟩
end RXT
end
section
/-! an exception is caught by the method that it lies over: the catch types linked or not yet -/
theorem rx_goC {Q : Handler → Pre} {K : CtlPost} {e : Env} {d : Bool} {acts : List Action} {s : State} {f : JFrame} {a : Addr} {x : ExceptionTableEntry} {t : List ExceptionTableEntry} {c : ClassId} {cell : Cell} {b : Bool} (hx : covers x f.pc = true) (h0 : x.catchType ≠ 0)
    (hl : s.vm.ClassLinks e.platform f.method.cls x.catchType c) (hcell : s.heap[a]? = some cell) (hobj : ∀ k, cell.vm ≠ .statics k) (hk : ∃ k, s.vm.classes[cell.cls]? = some k) (hc : ∃ k, s.vm.classes[c]? = some k) (hb : s.vm.assignable cell.cls c = b) :
    wp (findHandler.go f a (x :: t)) Q K e d acts s ↔ (if b = true then Q (.found x.handlerPc) d acts (s.setVm (s.vm.noted f.method.cls x.catchType (.cls c))) else wp (findHandler.go f a t) Q K e d acts (s.setVm (s.vm.noted f.method.cls x.catchType (.cls c)))) := by
  simp only [covers] at hx
  obtain ⟨ha, ht⟩ := (resolveClass_links e.toSetting hl).op (op := VmOp.resolveClass f.method.cls x.catchType) rfl
  have hal : s.vm.Alike (s.vm.noted f.method.cls x.catchType (.cls c)) := (Vm.Alike.refl s.vm).noted _ _ _
  obtain ⟨k1, hk1⟩ := hk
  obtain ⟨k2, hk2⟩ := hc
  obtain ⟨k1', hk1', -⟩ := hal.2.2 _ _ hk1
  obtain ⟨k2', hk2', -⟩ := hal.2.2 _ _ hk2
  have hb' : (s.vm.noted f.method.cls x.catchType (.cls c)).assignable cell.cls c = b := by rw [hal.assignable]; exact hb
  cases b <;> simp [findHandler.go, hx, h0, ha, ht, hcell, hobj, hk1', hk2', hb', VmOp.dirties, VmOp.acts]
/-- a row that is passed, a row that catches -/
def rx_pas (pl : Platform) (s : State) (dc : ClassId) (pc : Nat) (th : ClassId) (y : ExceptionTableEntry) : Prop := covers y pc = false ∨ (y.catchType ≠ 0 ∧ ∃ c, s.vm.ClassLinks pl dc y.catchType c ∧ s.vm.assignable th c = false)
theorem rx_goT {e : Env} {s : State} {f : JFrame} {a : Addr} {cell : Cell} (hobj : ∀ k, cell.vm ≠ .statics k) (hk0 : ∃ k, s.vm.classes[cell.cls]? = some k) (x : ExceptionTableEntry) (rest : List ExceptionTableEntry) (hx : covers x f.pc = true) (h0 : x.catchType ≠ 0)
    {c : ClassId} (hl : s.vm.ClassLinks e.platform f.method.cls x.catchType c) (hfit : s.vm.assignable cell.cls c = true) :
    ∀ (pre : List ExceptionTableEntry) (T : State), s.WarmedH T.vm → T.heap[a]? = some cell → (∀ y ∈ pre, rx_pas e.platform s f.method.cls f.pc cell.cls y) →
      ∃ vm', s.WarmedH vm' ∧ ∀ (Q : Handler → Pre) (K : CtlPost) (d : Bool) (acts : List Action), wp (findHandler.go f a (pre ++ x :: rest)) Q K e d acts T ↔ Q (.found x.handlerPc) d acts (T.setVm vm') := by
  obtain ⟨k0, hk0⟩ := hk0
  intro pre
  induction pre with
  | nil =>
    intro T hW hcell _
    obtain ⟨k0', hk0', -⟩ := hW.alike.2.2 _ _ hk0
    obtain ⟨dk, _, _, kt, hd, _, _, _, _, hkt, _, hopen⟩ := hl.here
    obtain ⟨kt', hkt', -⟩ := hW.alike.2.2 _ _ hkt
    refine ⟨_, hW.noted hd hopen (State.rightAt_cls hl), fun Q K d acts => ?_⟩
    rw [List.nil_append, rx_goC (b := true) hx h0 (hW.classLinks hl) hcell hobj ⟨k0', hk0'⟩ ⟨kt', hkt'⟩ (by rw [hW.alike.assignable]; exact hfit), if_pos rfl]
  | cons y ys ih =>
    intro T hW hcell hpass
    obtain ⟨k0', hk0', -⟩ := hW.alike.2.2 _ _ hk0
    have hrest : ∀ z ∈ ys, rx_pas e.platform s f.method.cls f.pc cell.cls z := fun z hz => hpass z (List.mem_cons_of_mem _ hz)
    by_cases hcov : covers y f.pc = true
    · rcases hpass y List.mem_cons_self with h | ⟨hy0, cy, hly, hno⟩
      · rw [h] at hcov; cases hcov
      · obtain ⟨dk, _, _, kt, hd, _, _, _, _, hkt, _, hopen⟩ := hly.here
        obtain ⟨kt', hkt', -⟩ := hW.alike.2.2 _ _ hkt
        obtain ⟨vm', hW', hq⟩ := ih (T.setVm (T.vm.noted f.method.cls y.catchType (.cls cy))) (hW.noted hd hopen (State.rightAt_cls hly)) hcell hrest
        refine ⟨vm', hW', fun Q K d acts => ?_⟩
        rw [List.cons_append, rx_goC (b := false) hcov hy0 (hW.classLinks hly) hcell hobj ⟨k0', hk0'⟩ ⟨kt', hkt'⟩ (by rw [hW.alike.assignable]; exact hno), if_neg (by decide)]
        exact hq Q K d acts
    · obtain ⟨vm', hW', hq⟩ := ih T hW hcell hrest
      refine ⟨vm', hW', fun Q K d acts => ?_⟩
      rw [List.cons_append, W.findHandler_go_skip (by simpa using hcov)]
      exact hq Q K d acts
theorem rx_stepC {e : Env} {s : State} {a : Addr} {f : JFrame} {r : List Frame} {pc : Nat} {vm' : Vm} (hfind : ∀ (Q : Handler → Pre) (K : CtlPost) (d : Bool) (acts : List Action), wp (findHandler f a) Q K e d acts s ↔ Q (.found pc) d acts (s.setVm vm')) :
    (stepThrowing e s a (.java f :: r)).Is ((s.setVm vm').setFrames (.java { f with pc := pc, stack := [.ref a] } :: r)) [] := by
  simp only [stepThrowing, searchFrame, vmDo]
  generalize hr : Sem.go _ e false [] s = res
  obtain ⟨as, rfl, ha⟩ := Sem.eq_ok_of hr (a := Handler.found pc) (s' := s.setVm vm') (acts' := []) (by simp [hfind _ _ _ _])
  exact ⟨rfl, ha⟩
theorem rx_fvf (u : State) (vm' : Vm) (A B : List Frame) : ((u.setFrames A).setVm vm').setFrames B = (u.setVm vm').setFrames B := by
  have h1 : (u.setFrames A).setVm vm' = (u.setVm vm').setFrames A := rfl
  rw [h1, State.setFrames_setFrames]
theorem rx_caught {tb : Tables} {e : Env} {s target : State} {g : JFrame} {c : Code} {below : List Frame} {a : Addr} (h : At s g.method c below) {pc : Nat} {vm' : Vm}
    (hfind : ∀ (Q : Handler → Pre) (K : CtlPost) (d : Bool) (acts : List Action), wp (findHandler g a) Q K e d acts ((s.setTop g).pushFrame (.throwing a)) ↔ Q (.found pc) d acts (((s.setTop g).pushFrame (.throwing a)).setVm vm'))
    (hrest : Steps tb e below ((s.setVm vm').setTop { g with pc := pc, stack := [.ref a] }) target) : Steps tb e below ((s.setTop g).pushFrame (.throwing a)) target := by
  obtain ⟨hgo, hw⟩ := h.throwing a
  refine Steps.head hgo hw ?_
  rw [stepThread_throwing (frames_entered h.top _), (rx_stepC (s := (s.setTop g).pushFrame (.throwing a)) hfind).1]
  obtain ⟨g₀, hg⟩ := Option.isSome_iff_exists.mp h.top
  obtain ⟨r, hr⟩ := State.topJava?_eq_some.mp hg
  have hr' : (s.setVm vm').frames = .java g₀ :: r := hr
  rw [State.setTop_of_frames _ hr'] at hrest
  rw [hr, List.tail_cons, State.pushFrame, rx_fvf, State.setTop_of_frames _ hr, rx_fvf]
  exact hrest
theorem rx_casx {E : Nat} (hE : E < 3) : Cond.castable (rx_exn E) (rx_exn E) ∈ rx_tbl := by
  match E, hE with
  | 0, _ => exact rx_in 388 (by decide +kernel) (by decide +kernel)
  | 1, _ => exact rx_in 465 (by decide +kernel) (by decide +kernel)
  | 2, _ => exact rx_in 619 (by decide +kernel) (by decide +kernel)
/-- the exception E is caught by the row x of the method's table -/
theorem rx_catch {V : rx_V} {d kc ks : Nat} {M : rx_T} {pc : Nat} {L : rx_L} {h : List va_E} {Q : rx_R → List va_E → Prop} {E : Nat} (pre : List (Nat × Nat × Nat × Nat)) (x : Nat × Nat × Nat × Nat) (suf : List (Nat × Nat × Nat × Nat)) (hE : E < 3) (hsplit : M.2.2.2.2 = pre ++ x :: suf)
    (hpass : ∀ z ∈ pre, z.2.2.2 ≠ 0 ∧ ∃ E', E' < 3 ∧ E ≠ E' ∧ Cond.classLink M.1.cls z.2.2.2 (rx_exn E') ∈ rx_tbl) (hx1 : x.1 ≤ pc) (hx2 : pc < x.2.1) (h0 : x.2.2.2 ≠ 0) (hlink : Cond.classLink M.1.cls x.2.2.2 (rx_exn E) ∈ rx_tbl)
    (k : ∀ q, rx_W V d kc ks M x.2.2.1 L [.ref q] h Q) : rx_Y V d kc ks M pc L h Q E := by
  intro p e R s m args below meth c H locs cells slots ls rest q ce F G hl hce hcv hcl T hT X
  have hts := F.2.2.2.2.2.2.1
  have hown := F.2.2.2.2.2.1
  have hpl : e.platform.magicAccessors = ({} : Platform).magicAccessors := by rw [X.admits.platform]
  have htab := F.2.2.2.2.2.2.2.2.2.2
  rw [hsplit] at htab
  obtain ⟨P, Z, hPZ, hP, hZ⟩ := List.map_eq_append_iff.mp htab
  obtain ⟨x', S', rfl, hx', hS'⟩ := List.map_eq_cons_iff.mp hZ
  obtain ⟨c5, hc5, hcl5⟩ := Cond.classLink_spec hown (hts _ hlink) e.platform hpl
  obtain ⟨c3, c4, hc3, hc4, hasg⟩ := Cond.castable_spec (hts _ (rx_casx hE))
  cases Option.some.inj (hc3.symm.trans hcl)
  cases Option.some.inj (hc4.symm.trans hc5)
  subst hx'
  obtain ⟨vm', hW', hq⟩ := rx_goT (e := e) (s := s) (f := F0 m pc ls rest) (a := q) (cell := ce) (fun k h9 => by rw [hcv] at h9; cases h9) (by obtain ⟨k9, h9, -⟩ := Vm.findClass_spec hcl; exact ⟨k9, h9⟩) x' S'
    (by simp only [covers, Bool.and_eq_true, decide_eq_true_eq]; exact ⟨hx1, hx2⟩) h0 hcl5 hasg P ((T.setTop (F0 m pc ls rest)).pushFrame (.throwing q)) X.warmed (by show T.heap[q]? = _; rw [hT]; exact hce)
    (fun y hy => by
      have hy' : (y.startPc, y.endPc, y.handlerPc, y.catchType) ∈ pre := by rw [← hP]; exact List.mem_map.mpr ⟨y, hy, rfl⟩
      obtain ⟨hz0, E', hE', hne, hlk⟩ := hpass _ hy'
      obtain ⟨c6, hc6, hcl6⟩ := Cond.classLink_spec hown (hts _ hlk) e.platform hpl
      obtain ⟨a8, b8, h1, h2, h3⟩ := G.2.2.2.2.1.2.2.2.2.2.2.2 E E' hE hE' hne
      cases Option.some.inj (h1.symm.trans hcl)
      cases Option.some.inj (h2.symm.trans hc6)
      exact Or.inr ⟨hz0, _, hcl6, h3⟩)
  obtain ⟨t, a1, b1⟩ := k q p e R s m args below meth c H locs cells slots ls F G hl (T.setVm vm') hT (X.noted hW')
  refine ⟨t, rx_caught (g := F0 m pc ls rest) X.here (vm' := vm') (pc := x'.handlerPc) (fun Q9 K9 d9 acts9 => ?_) a1, b1⟩
  rw [W.findHandler_eq X.method' X.code, hPZ]
  exact hq Q9 K9 d9 acts9
end
