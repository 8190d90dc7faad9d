section
-- ===== PART A: goes FIRST, ahead of the names: the tables' words, and 'selects' of the private methods out of them =====
/-- a private method of a class that the tables say can be made, by its rows of tables_1 -/
def lw_okq (q : MethodName × Nat) : Prop := (q.1.cls ≠ "java/lang/invoke/MethodHandle" ∧ q.1.cls ≠ "java/lang/invoke/VarHandle") ∧ Cond.instantiable q.1.cls q.2 ∈ tables_1 ∧ Cond.privateMethod q.1 ∈ tables_1 ∧ Cond.instanceMethod q.1 ∈ tables_1
theorem lw_p0 : lw_okq (⟨"ScoreRoads", "knowRoad", "()V"⟩, 7) := ⟨⟨by decide +kernel, by decide +kernel⟩, List.mem_of_getElem? (i := 21) (by decide +kernel), List.mem_of_getElem? (i := 214) (by decide +kernel), List.mem_of_getElem? (i := 215) (by decide +kernel)⟩
theorem lw_p1 : lw_okq (⟨"ScoreRoads$Repeats", "gatherEnds", "(LScoreRoads$Page;)V"⟩, 4) := ⟨⟨by decide +kernel, by decide +kernel⟩, List.mem_of_getElem? (i := 72) (by decide +kernel), List.mem_of_getElem? (i := 222) (by decide +kernel), List.mem_of_getElem? (i := 223) (by decide +kernel)⟩
theorem lw_p2 : lw_okq (⟨"ScoreRoads$Repeats", "begin", "(LScoreRoads$Page;II)LScoreRoads$Repeat;"⟩, 4) := ⟨⟨by decide +kernel, by decide +kernel⟩, List.mem_of_getElem? (i := 72) (by decide +kernel), List.mem_of_getElem? (i := 231) (by decide +kernel), List.mem_of_getElem? (i := 232) (by decide +kernel)⟩
theorem lw_p3 : lw_okq (⟨"ScoreRoads$Repeats", "gatherEndings", "(LScoreRoads$Page;LScoreRoads$Repeat;)V"⟩, 4) := ⟨⟨by decide +kernel, by decide +kernel⟩, List.mem_of_getElem? (i := 72) (by decide +kernel), List.mem_of_getElem? (i := 249) (by decide +kernel), List.mem_of_getElem? (i := 250) (by decide +kernel)⟩
theorem lw_p4 : lw_okq (⟨"ScoreRoads$Repeats", "takeEnding", "(LScoreRoads$Page;LScoreRoads$Repeat;I)V"⟩, 4) := ⟨⟨by decide +kernel, by decide +kernel⟩, List.mem_of_getElem? (i := 72) (by decide +kernel), List.mem_of_getElem? (i := 253) (by decide +kernel), List.mem_of_getElem? (i := 254) (by decide +kernel)⟩
theorem lw_p5 : lw_okq (⟨"ScoreRoads$Road", "insteadOf", "(ILScoreRoads$Page;LScoreRoads$Repeats;)I"⟩, 6) := ⟨⟨by decide +kernel, by decide +kernel⟩, List.mem_of_getElem? (i := 132) (by decide +kernel), List.mem_of_getElem? (i := 332) (by decide +kernel), List.mem_of_getElem? (i := 333) (by decide +kernel)⟩
theorem lw_p6 : lw_okq (⟨"ScoreRoads$Road", "isToComeAgain", "(ILScoreRoads$Repeats;)Z"⟩, 6) := ⟨⟨by decide +kernel, by decide +kernel⟩, List.mem_of_getElem? (i := 132) (by decide +kernel), List.mem_of_getElem? (i := 338) (by decide +kernel), List.mem_of_getElem? (i := 339) (by decide +kernel)⟩
theorem lw_p7 : lw_okq (⟨"ScoreRoads$Road", "behind", "(IZLScoreRoads$Page;LScoreRoads$Repeats;)I"⟩, 6) := ⟨⟨by decide +kernel, by decide +kernel⟩, List.mem_of_getElem? (i := 132) (by decide +kernel), List.mem_of_getElem? (i := 346) (by decide +kernel), List.mem_of_getElem? (i := 347) (by decide +kernel)⟩
theorem lw_p8 : lw_okq (⟨"ScoreRoads$Road", "jumpFrom", "(ILScoreRoads$Page;LScoreRoads$Repeats;)I"⟩, 6) := ⟨⟨by decide +kernel, by decide +kernel⟩, List.mem_of_getElem? (i := 132) (by decide +kernel), List.mem_of_getElem? (i := 353) (by decide +kernel), List.mem_of_getElem? (i := 354) (by decide +kernel)⟩
theorem lw_p9 : lw_okq (⟨"java/lang/Throwable", "fillInStackTrace", "(I)Ljava/lang/Throwable;"⟩, 6) := ⟨⟨by decide +kernel, by decide +kernel⟩, List.mem_of_getElem? (i := 425) (by decide +kernel), List.mem_of_getElem? (i := 423) (by decide +kernel), List.mem_of_getElem? (i := 424) (by decide +kernel)⟩
theorem lw_p10 : lw_okq (⟨"ScoreRoads", "needRoad", "()V"⟩, 7) := ⟨⟨by decide +kernel, by decide +kernel⟩, List.mem_of_getElem? (i := 21) (by decide +kernel), List.mem_of_getElem? (i := 610) (by decide +kernel), List.mem_of_getElem? (i := 611) (by decide +kernel)⟩
theorem lw_p11 : lw_okq (⟨"ScoreRoads$Sounding", "gather", "(IILScoreRoads$Page;LScoreRoads$Notes;LScoreRoads$Road;)V"⟩, 4) := ⟨⟨by decide +kernel, by decide +kernel⟩, List.mem_of_getElem? (i := 159) (by decide +kernel), List.mem_of_getElem? (i := 703) (by decide +kernel), List.mem_of_getElem? (i := 704) (by decide +kernel)⟩
theorem lw_p12 : lw_okq (⟨"ScoreRoads$Sounding", "firstOf", "(I)LScoreRoads$Note;"⟩, 4) := ⟨⟨by decide +kernel, by decide +kernel⟩, List.mem_of_getElem? (i := 159) (by decide +kernel), List.mem_of_getElem? (i := 736) (by decide +kernel), List.mem_of_getElem? (i := 737) (by decide +kernel)⟩
theorem lw_p13 : lw_okq (⟨"ScoreRoads", "goesOnResting", "(II)Z"⟩, 7) := ⟨⟨by decide +kernel, by decide +kernel⟩, List.mem_of_getElem? (i := 21) (by decide +kernel), List.mem_of_getElem? (i := 768) (by decide +kernel), List.mem_of_getElem? (i := 769) (by decide +kernel)⟩
theorem lw_p14 : lw_okq (⟨"ScoreRoads$Page", "opensCut", "(I)Z"⟩, 4) := ⟨⟨by decide +kernel, by decide +kernel⟩, List.mem_of_getElem? (i := 29) (by decide +kernel), List.mem_of_getElem? (i := 776) (by decide +kernel), List.mem_of_getElem? (i := 777) (by decide +kernel)⟩
theorem lw_p15 : lw_okq (⟨"ScoreRoads$Page", "closesCut", "(I)Z"⟩, 4) := ⟨⟨by decide +kernel, by decide +kernel⟩, List.mem_of_getElem? (i := 29) (by decide +kernel), List.mem_of_getElem? (i := 781) (by decide +kernel), List.mem_of_getElem? (i := 782) (by decide +kernel)⟩
def lw_privs_1 : List (MethodName × Nat) := [(⟨"ScoreRoads", "knowRoad", "()V"⟩, 7), (⟨"ScoreRoads$Repeats", "gatherEnds", "(LScoreRoads$Page;)V"⟩, 4), (⟨"ScoreRoads$Repeats", "begin", "(LScoreRoads$Page;II)LScoreRoads$Repeat;"⟩, 4), (⟨"ScoreRoads$Repeats", "gatherEndings", "(LScoreRoads$Page;LScoreRoads$Repeat;)V"⟩, 4), (⟨"ScoreRoads$Repeats", "takeEnding", "(LScoreRoads$Page;LScoreRoads$Repeat;I)V"⟩, 4), (⟨"ScoreRoads$Road", "insteadOf", "(ILScoreRoads$Page;LScoreRoads$Repeats;)I"⟩, 6), (⟨"ScoreRoads$Road", "isToComeAgain", "(ILScoreRoads$Repeats;)Z"⟩, 6), (⟨"ScoreRoads$Road", "behind", "(IZLScoreRoads$Page;LScoreRoads$Repeats;)I"⟩, 6), (⟨"ScoreRoads$Road", "jumpFrom", "(ILScoreRoads$Page;LScoreRoads$Repeats;)I"⟩, 6), (⟨"java/lang/Throwable", "fillInStackTrace", "(I)Ljava/lang/Throwable;"⟩, 6), (⟨"ScoreRoads", "needRoad", "()V"⟩, 7), (⟨"ScoreRoads$Sounding", "gather", "(IILScoreRoads$Page;LScoreRoads$Notes;LScoreRoads$Road;)V"⟩, 4), (⟨"ScoreRoads$Sounding", "firstOf", "(I)LScoreRoads$Note;"⟩, 4), (⟨"ScoreRoads", "goesOnResting", "(II)Z"⟩, 7), (⟨"ScoreRoads$Page", "opensCut", "(I)Z"⟩, 4), (⟨"ScoreRoads$Page", "closesCut", "(I)Z"⟩, 4)]
theorem lw_r1 : ∀ q ∈ lw_privs_1, lw_okq q := List.forall_mem_cons.mpr ⟨lw_p0, List.forall_mem_cons.mpr ⟨lw_p1, List.forall_mem_cons.mpr ⟨lw_p2, List.forall_mem_cons.mpr ⟨lw_p3, List.forall_mem_cons.mpr ⟨lw_p4, List.forall_mem_cons.mpr ⟨lw_p5, List.forall_mem_cons.mpr ⟨lw_p6, List.forall_mem_cons.mpr ⟨lw_p7, List.forall_mem_cons.mpr ⟨lw_p8, List.forall_mem_cons.mpr ⟨lw_p9, List.forall_mem_cons.mpr ⟨lw_p10, List.forall_mem_cons.mpr ⟨lw_p11, List.forall_mem_cons.mpr ⟨lw_p12, List.forall_mem_cons.mpr ⟨lw_p13, List.forall_mem_cons.mpr ⟨lw_p14, List.forall_mem_cons.mpr ⟨lw_p15, fun _ h => absurd h List.not_mem_nil⟩⟩⟩⟩⟩⟩⟩⟩⟩⟩⟩⟩⟩⟩⟩⟩
theorem lw_p16 : lw_okq (⟨"ScoreRoads", "restBars", "(II)I"⟩, 7) := ⟨⟨by decide +kernel, by decide +kernel⟩, List.mem_of_getElem? (i := 21) (by decide +kernel), List.mem_of_getElem? (i := 786) (by decide +kernel), List.mem_of_getElem? (i := 787) (by decide +kernel)⟩
theorem lw_p17 : lw_okq (⟨"ScoreRoadsModel", "isBar", "(I)Z"⟩, 29) := ⟨⟨by decide +kernel, by decide +kernel⟩, List.mem_of_getElem? (i := 790) (by decide +kernel), List.mem_of_getElem? (i := 893) (by decide +kernel), List.mem_of_getElem? (i := 894) (by decide +kernel)⟩
theorem lw_p18 : lw_okq (⟨"ScoreRoadsModel", "refuse", "(I)I"⟩, 29) := ⟨⟨by decide +kernel, by decide +kernel⟩, List.mem_of_getElem? (i := 790) (by decide +kernel), List.mem_of_getElem? (i := 915) (by decide +kernel), List.mem_of_getElem? (i := 916) (by decide +kernel)⟩
theorem lw_p19 : lw_okq (⟨"ScoreRoadsModel", "findFault", "()I"⟩, 29) := ⟨⟨by decide +kernel, by decide +kernel⟩, List.mem_of_getElem? (i := 790) (by decide +kernel), List.mem_of_getElem? (i := 928) (by decide +kernel), List.mem_of_getElem? (i := 929) (by decide +kernel)⟩
theorem lw_p20 : lw_okq (⟨"ScoreRoadsModel", "findRepeats", "()V"⟩, 29) := ⟨⟨by decide +kernel, by decide +kernel⟩, List.mem_of_getElem? (i := 790) (by decide +kernel), List.mem_of_getElem? (i := 932) (by decide +kernel), List.mem_of_getElem? (i := 933) (by decide +kernel)⟩
theorem lw_p21 : lw_okq (⟨"ScoreRoadsModel", "has", "(II)Z"⟩, 29) := ⟨⟨by decide +kernel, by decide +kernel⟩, List.mem_of_getElem? (i := 790) (by decide +kernel), List.mem_of_getElem? (i := 936) (by decide +kernel), List.mem_of_getElem? (i := 937) (by decide +kernel)⟩
theorem lw_p22 : lw_okq (⟨"ScoreRoadsModel", "signOf", "(II)I"⟩, 29) := ⟨⟨by decide +kernel, by decide +kernel⟩, List.mem_of_getElem? (i := 790) (by decide +kernel), List.mem_of_getElem? (i := 940) (by decide +kernel), List.mem_of_getElem? (i := 941) (by decide +kernel)⟩
theorem lw_p23 : lw_okq (⟨"ScoreRoadsModel", "lastStart", "(II)I"⟩, 29) := ⟨⟨by decide +kernel, by decide +kernel⟩, List.mem_of_getElem? (i := 790) (by decide +kernel), List.mem_of_getElem? (i := 944) (by decide +kernel), List.mem_of_getElem? (i := 945) (by decide +kernel)⟩
theorem lw_p24 : lw_okq (⟨"ScoreRoadsModel", "lowest", "(I)I"⟩, 29) := ⟨⟨by decide +kernel, by decide +kernel⟩, List.mem_of_getElem? (i := 790) (by decide +kernel), List.mem_of_getElem? (i := 948) (by decide +kernel), List.mem_of_getElem? (i := 949) (by decide +kernel)⟩
theorem lw_p25 : lw_okq (⟨"ScoreRoadsModel", "withEnding", "(I)I"⟩, 29) := ⟨⟨by decide +kernel, by decide +kernel⟩, List.mem_of_getElem? (i := 790) (by decide +kernel), List.mem_of_getElem? (i := 955) (by decide +kernel), List.mem_of_getElem? (i := 956) (by decide +kernel)⟩
theorem lw_p26 : lw_okq (⟨"ScoreRoadsModel", "checkStart", "(I)V"⟩, 29) := ⟨⟨by decide +kernel, by decide +kernel⟩, List.mem_of_getElem? (i := 790) (by decide +kernel), List.mem_of_getElem? (i := 959) (by decide +kernel), List.mem_of_getElem? (i := 960) (by decide +kernel)⟩
theorem lw_p27 : lw_okq (⟨"ScoreRoadsModel", "wrong", "(ZII)V"⟩, 29) := ⟨⟨by decide +kernel, by decide +kernel⟩, List.mem_of_getElem? (i := 790) (by decide +kernel), List.mem_of_getElem? (i := 963) (by decide +kernel), List.mem_of_getElem? (i := 964) (by decide +kernel)⟩
theorem lw_p28 : lw_okq (⟨"ScoreRoadsModel", "checkEnding", "(I)V"⟩, 29) := ⟨⟨by decide +kernel, by decide +kernel⟩, List.mem_of_getElem? (i := 790) (by decide +kernel), List.mem_of_getElem? (i := 967) (by decide +kernel), List.mem_of_getElem? (i := 968) (by decide +kernel)⟩
theorem lw_p29 : lw_okq (⟨"ScoreRoadsModel", "isThere", "(III)Z"⟩, 29) := ⟨⟨by decide +kernel, by decide +kernel⟩, List.mem_of_getElem? (i := 790) (by decide +kernel), List.mem_of_getElem? (i := 971) (by decide +kernel), List.mem_of_getElem? (i := 972) (by decide +kernel)⟩
theorem lw_p30 : lw_okq (⟨"ScoreRoadsModel", "checkJump", "(I)V"⟩, 29) := ⟨⟨by decide +kernel, by decide +kernel⟩, List.mem_of_getElem? (i := 790) (by decide +kernel), List.mem_of_getElem? (i := 975) (by decide +kernel), List.mem_of_getElem? (i := 976) (by decide +kernel)⟩
theorem lw_p31 : lw_okq (⟨"ScoreRoadsModel", "firstOf", "(I)I"⟩, 29) := ⟨⟨by decide +kernel, by decide +kernel⟩, List.mem_of_getElem? (i := 790) (by decide +kernel), List.mem_of_getElem? (i := 979) (by decide +kernel), List.mem_of_getElem? (i := 980) (by decide +kernel)⟩
def lw_privs_2 : List (MethodName × Nat) := [(⟨"ScoreRoads", "restBars", "(II)I"⟩, 7), (⟨"ScoreRoadsModel", "isBar", "(I)Z"⟩, 29), (⟨"ScoreRoadsModel", "refuse", "(I)I"⟩, 29), (⟨"ScoreRoadsModel", "findFault", "()I"⟩, 29), (⟨"ScoreRoadsModel", "findRepeats", "()V"⟩, 29), (⟨"ScoreRoadsModel", "has", "(II)Z"⟩, 29), (⟨"ScoreRoadsModel", "signOf", "(II)I"⟩, 29), (⟨"ScoreRoadsModel", "lastStart", "(II)I"⟩, 29), (⟨"ScoreRoadsModel", "lowest", "(I)I"⟩, 29), (⟨"ScoreRoadsModel", "withEnding", "(I)I"⟩, 29), (⟨"ScoreRoadsModel", "checkStart", "(I)V"⟩, 29), (⟨"ScoreRoadsModel", "wrong", "(ZII)V"⟩, 29), (⟨"ScoreRoadsModel", "checkEnding", "(I)V"⟩, 29), (⟨"ScoreRoadsModel", "isThere", "(III)Z"⟩, 29), (⟨"ScoreRoadsModel", "checkJump", "(I)V"⟩, 29), (⟨"ScoreRoadsModel", "firstOf", "(I)I"⟩, 29)]
theorem lw_r2 : ∀ q ∈ lw_privs_2, lw_okq q := List.forall_mem_cons.mpr ⟨lw_p16, List.forall_mem_cons.mpr ⟨lw_p17, List.forall_mem_cons.mpr ⟨lw_p18, List.forall_mem_cons.mpr ⟨lw_p19, List.forall_mem_cons.mpr ⟨lw_p20, List.forall_mem_cons.mpr ⟨lw_p21, List.forall_mem_cons.mpr ⟨lw_p22, List.forall_mem_cons.mpr ⟨lw_p23, List.forall_mem_cons.mpr ⟨lw_p24, List.forall_mem_cons.mpr ⟨lw_p25, List.forall_mem_cons.mpr ⟨lw_p26, List.forall_mem_cons.mpr ⟨lw_p27, List.forall_mem_cons.mpr ⟨lw_p28, List.forall_mem_cons.mpr ⟨lw_p29, List.forall_mem_cons.mpr ⟨lw_p30, List.forall_mem_cons.mpr ⟨lw_p31, fun _ h => absurd h List.not_mem_nil⟩⟩⟩⟩⟩⟩⟩⟩⟩⟩⟩⟩⟩⟩⟩⟩
theorem lw_p32 : lw_okq (⟨"ScoreRoadsModel", "checkRepeat", "(I)V"⟩, 29) := ⟨⟨by decide +kernel, by decide +kernel⟩, List.mem_of_getElem? (i := 790) (by decide +kernel), List.mem_of_getElem? (i := 983) (by decide +kernel), List.mem_of_getElem? (i := 984) (by decide +kernel)⟩
theorem lw_p33 : lw_okq (⟨"ScoreRoadsModel", "highest", "(I)I"⟩, 29) := ⟨⟨by decide +kernel, by decide +kernel⟩, List.mem_of_getElem? (i := 790) (by decide +kernel), List.mem_of_getElem? (i := 987) (by decide +kernel), List.mem_of_getElem? (i := 988) (by decide +kernel)⟩
theorem lw_p34 : lw_okq (⟨"ScoreRoadsModel", "walk", "()Z"⟩, 29) := ⟨⟨by decide +kernel, by decide +kernel⟩, List.mem_of_getElem? (i := 790) (by decide +kernel), List.mem_of_getElem? (i := 995) (by decide +kernel), List.mem_of_getElem? (i := 996) (by decide +kernel)⟩
theorem lw_p35 : lw_okq (⟨"ScoreRoadsModel", "resetPasses", "()V"⟩, 29) := ⟨⟨by decide +kernel, by decide +kernel⟩, List.mem_of_getElem? (i := 790) (by decide +kernel), List.mem_of_getElem? (i := 999) (by decide +kernel), List.mem_of_getElem? (i := 1000) (by decide +kernel)⟩
theorem lw_p36 : lw_okq (⟨"ScoreRoadsModel", "come", "(I)V"⟩, 29) := ⟨⟨by decide +kernel, by decide +kernel⟩, List.mem_of_getElem? (i := 790) (by decide +kernel), List.mem_of_getElem? (i := 1003) (by decide +kernel), List.mem_of_getElem? (i := 1004) (by decide +kernel)⟩
theorem lw_p37 : lw_okq (⟨"ScoreRoadsModel", "takes", "()Z"⟩, 29) := ⟨⟨by decide +kernel, by decide +kernel⟩, List.mem_of_getElem? (i := 790) (by decide +kernel), List.mem_of_getElem? (i := 1007) (by decide +kernel), List.mem_of_getElem? (i := 1008) (by decide +kernel)⟩
theorem lw_p38 : lw_okq (⟨"ScoreRoadsModel", "goOn", "()Z"⟩, 29) := ⟨⟨by decide +kernel, by decide +kernel⟩, List.mem_of_getElem? (i := 790) (by decide +kernel), List.mem_of_getElem? (i := 1011) (by decide +kernel), List.mem_of_getElem? (i := 1012) (by decide +kernel)⟩
theorem lw_p39 : lw_okq (⟨"ScoreRoadsModel", "withEnd", "(I)I"⟩, 29) := ⟨⟨by decide +kernel, by decide +kernel⟩, List.mem_of_getElem? (i := 790) (by decide +kernel), List.mem_of_getElem? (i := 1015) (by decide +kernel), List.mem_of_getElem? (i := 1016) (by decide +kernel)⟩
theorem lw_p40 : lw_okq (⟨"ScoreRoadsModel", "how", "()I"⟩, 29) := ⟨⟨by decide +kernel, by decide +kernel⟩, List.mem_of_getElem? (i := 790) (by decide +kernel), List.mem_of_getElem? (i := 1019) (by decide +kernel), List.mem_of_getElem? (i := 1020) (by decide +kernel)⟩
theorem lw_p41 : lw_okq (⟨"ScoreRoadsModel", "resetJumped", "(I)V"⟩, 29) := ⟨⟨by decide +kernel, by decide +kernel⟩, List.mem_of_getElem? (i := 790) (by decide +kernel), List.mem_of_getElem? (i := 1023) (by decide +kernel), List.mem_of_getElem? (i := 1024) (by decide +kernel)⟩
theorem lw_p42 : lw_okq (⟨"ScoreRoadsModel", "wrongBar", "(II)I"⟩, 29) := ⟨⟨by decide +kernel, by decide +kernel⟩, List.mem_of_getElem? (i := 790) (by decide +kernel), List.mem_of_getElem? (i := 1031) (by decide +kernel), List.mem_of_getElem? (i := 1032) (by decide +kernel)⟩
theorem lw_p43 : lw_okq (⟨"ScoreRoadsModel", "ticksBefore", "(I)J"⟩, 29) := ⟨⟨by decide +kernel, by decide +kernel⟩, List.mem_of_getElem? (i := 790) (by decide +kernel), List.mem_of_getElem? (i := 1047) (by decide +kernel), List.mem_of_getElem? (i := 1048) (by decide +kernel)⟩
theorem lw_p44 : lw_okq (⟨"ScoreRoadsModel", "wrongPart", "(I)I"⟩, 29) := ⟨⟨by decide +kernel, by decide +kernel⟩, List.mem_of_getElem? (i := 790) (by decide +kernel), List.mem_of_getElem? (i := 1059) (by decide +kernel), List.mem_of_getElem? (i := 1060) (by decide +kernel)⟩
theorem lw_p45 : lw_okq (⟨"ScoreRoadsModel", "seek", "(II)I"⟩, 29) := ⟨⟨by decide +kernel, by decide +kernel⟩, List.mem_of_getElem? (i := 790) (by decide +kernel), List.mem_of_getElem? (i := 1063) (by decide +kernel), List.mem_of_getElem? (i := 1064) (by decide +kernel)⟩
theorem lw_p46 : lw_okq (⟨"ScoreRoadsModel", "nextNote", "(III)I"⟩, 29) := ⟨⟨by decide +kernel, by decide +kernel⟩, List.mem_of_getElem? (i := 790) (by decide +kernel), List.mem_of_getElem? (i := 1067) (by decide +kernel), List.mem_of_getElem? (i := 1068) (by decide +kernel)⟩
theorem lw_p47 : lw_okq (⟨"ScoreRoadsModel", "goesOn", "(II)Z"⟩, 29) := ⟨⟨by decide +kernel, by decide +kernel⟩, List.mem_of_getElem? (i := 790) (by decide +kernel), List.mem_of_getElem? (i := 1071) (by decide +kernel), List.mem_of_getElem? (i := 1072) (by decide +kernel)⟩
def lw_privs_3 : List (MethodName × Nat) := [(⟨"ScoreRoadsModel", "checkRepeat", "(I)V"⟩, 29), (⟨"ScoreRoadsModel", "highest", "(I)I"⟩, 29), (⟨"ScoreRoadsModel", "walk", "()Z"⟩, 29), (⟨"ScoreRoadsModel", "resetPasses", "()V"⟩, 29), (⟨"ScoreRoadsModel", "come", "(I)V"⟩, 29), (⟨"ScoreRoadsModel", "takes", "()Z"⟩, 29), (⟨"ScoreRoadsModel", "goOn", "()Z"⟩, 29), (⟨"ScoreRoadsModel", "withEnd", "(I)I"⟩, 29), (⟨"ScoreRoadsModel", "how", "()I"⟩, 29), (⟨"ScoreRoadsModel", "resetJumped", "(I)V"⟩, 29), (⟨"ScoreRoadsModel", "wrongBar", "(II)I"⟩, 29), (⟨"ScoreRoadsModel", "ticksBefore", "(I)J"⟩, 29), (⟨"ScoreRoadsModel", "wrongPart", "(I)I"⟩, 29), (⟨"ScoreRoadsModel", "seek", "(II)I"⟩, 29), (⟨"ScoreRoadsModel", "nextNote", "(III)I"⟩, 29), (⟨"ScoreRoadsModel", "goesOn", "(II)Z"⟩, 29)]
theorem lw_r3 : ∀ q ∈ lw_privs_3, lw_okq q := List.forall_mem_cons.mpr ⟨lw_p32, List.forall_mem_cons.mpr ⟨lw_p33, List.forall_mem_cons.mpr ⟨lw_p34, List.forall_mem_cons.mpr ⟨lw_p35, List.forall_mem_cons.mpr ⟨lw_p36, List.forall_mem_cons.mpr ⟨lw_p37, List.forall_mem_cons.mpr ⟨lw_p38, List.forall_mem_cons.mpr ⟨lw_p39, List.forall_mem_cons.mpr ⟨lw_p40, List.forall_mem_cons.mpr ⟨lw_p41, List.forall_mem_cons.mpr ⟨lw_p42, List.forall_mem_cons.mpr ⟨lw_p43, List.forall_mem_cons.mpr ⟨lw_p44, List.forall_mem_cons.mpr ⟨lw_p45, List.forall_mem_cons.mpr ⟨lw_p46, List.forall_mem_cons.mpr ⟨lw_p47, fun _ h => absurd h List.not_mem_nil⟩⟩⟩⟩⟩⟩⟩⟩⟩⟩⟩⟩⟩⟩⟩⟩
theorem lw_p48 : lw_okq (⟨"ScoreRoadsModel", "reaches", "(I)Z"⟩, 29) := ⟨⟨by decide +kernel, by decide +kernel⟩, List.mem_of_getElem? (i := 790) (by decide +kernel), List.mem_of_getElem? (i := 1075) (by decide +kernel), List.mem_of_getElem? (i := 1076) (by decide +kernel)⟩
theorem lw_p49 : lw_okq (⟨"ScoreRoadsModel", "follow", "(II)V"⟩, 29) := ⟨⟨by decide +kernel, by decide +kernel⟩, List.mem_of_getElem? (i := 790) (by decide +kernel), List.mem_of_getElem? (i := 1079) (by decide +kernel), List.mem_of_getElem? (i := 1080) (by decide +kernel)⟩
theorem lw_p50 : lw_okq (⟨"ScoreRoadsModel", "opening", "(III)I"⟩, 29) := ⟨⟨by decide +kernel, by decide +kernel⟩, List.mem_of_getElem? (i := 790) (by decide +kernel), List.mem_of_getElem? (i := 1083) (by decide +kernel), List.mem_of_getElem? (i := 1084) (by decide +kernel)⟩
theorem lw_p51 : lw_okq (⟨"ScoreRoadsModel", "isRest", "(II)Z"⟩, 29) := ⟨⟨by decide +kernel, by decide +kernel⟩, List.mem_of_getElem? (i := 790) (by decide +kernel), List.mem_of_getElem? (i := 1096) (by decide +kernel), List.mem_of_getElem? (i := 1097) (by decide +kernel)⟩
theorem lw_p52 : lw_okq (⟨"ScoreRoadsModel", "joins", "(II)Z"⟩, 29) := ⟨⟨by decide +kernel, by decide +kernel⟩, List.mem_of_getElem? (i := 790) (by decide +kernel), List.mem_of_getElem? (i := 1100) (by decide +kernel), List.mem_of_getElem? (i := 1101) (by decide +kernel)⟩
def lw_privs_4 : List (MethodName × Nat) := [(⟨"ScoreRoadsModel", "reaches", "(I)Z"⟩, 29), (⟨"ScoreRoadsModel", "follow", "(II)V"⟩, 29), (⟨"ScoreRoadsModel", "opening", "(III)I"⟩, 29), (⟨"ScoreRoadsModel", "isRest", "(II)Z"⟩, 29), (⟨"ScoreRoadsModel", "joins", "(II)Z"⟩, 29)]
theorem lw_r4 : ∀ q ∈ lw_privs_4, lw_okq q := List.forall_mem_cons.mpr ⟨lw_p48, List.forall_mem_cons.mpr ⟨lw_p49, List.forall_mem_cons.mpr ⟨lw_p50, List.forall_mem_cons.mpr ⟨lw_p51, List.forall_mem_cons.mpr ⟨lw_p52, fun _ h => absurd h List.not_mem_nil⟩⟩⟩⟩⟩
def lw_privs : List (MethodName × Nat) := lw_privs_1 ++ (lw_privs_2 ++ (lw_privs_3 ++ (lw_privs_4)))
def lw_tbl : List Cond := k2_sels lw_privs ++ tables_1
theorem lw_privs_ok : ∀ q ∈ lw_privs, lw_okq q := by
  show ∀ q ∈ lw_privs_1 ++ (lw_privs_2 ++ (lw_privs_3 ++ (lw_privs_4))), lw_okq q
  exact List.forall_mem_append.mpr ⟨lw_r1, List.forall_mem_append.mpr ⟨lw_r2, List.forall_mem_append.mpr ⟨lw_r3, lw_r4⟩⟩⟩
end
section
/-! the words, the classes, the methods: by program (wip/gen.py) -/
/-- a method: name, bytes, locals, answer, handlers -/
abbrev rx_T : Type := MethodName × ByteArray × Nat × Option FieldType × List (Nat × Nat × Nat × Nat)
def rx_gd : Cond → Bool
  | .arrayClass _ => true
  | .methodLinkNest .. => true
  | w => w.onTables && w.keepsFace
theorem rx_at {args a' : Array Value} {s U : State} {w : Cond} (hW : s.WarmedH U.vm) (hg : rx_gd w = true) (h : w.before args s = true) : w.before a' U = true := by
  unfold rx_gd at hg
  split at hg
  · exact word_at hW (Or.inr ⟨_, rfl⟩) h
  · exact va_Nw.use rfl (va_Nw.warmM hW (va_Nw.of rfl h))
  · simp only [Bool.and_eq_true] at hg
    exact va_tabs hg.1 (u := s.setVm U.vm) (U := U) rfl (Cond.before_shiftedFace (State.Shifted.of_warmed hW) _ hg.2 h)
def rx_tbl : List Cond := lw_tbl.filter rx_gd
theorem rx_good {w : Cond} (h : w ∈ rx_tbl) : rx_gd w = true := (List.mem_filter.mp h).2
theorem rx_in {w : Cond} (i : Nat) (h : tables_1[i]? = some w) (g : rx_gd w = true) : w ∈ rx_tbl := List.mem_filter.mpr ⟨List.mem_append_right _ (List.mem_of_getElem? h), g⟩
theorem rx_ip {w : Cond} (i : Nat) (h : (k2_sels lw_privs)[i]? = some w) (g : rx_gd w = true) : w ∈ rx_tbl := List.mem_filter.mpr ⟨List.mem_append_left _ (List.mem_of_getElem? h), g⟩
def F_SR : u_T := fun k => match k with
  | 0 => ("ScoreRoads", "page", "LScoreRoads$Page;", true)
  | 1 => ("ScoreRoads", "notes", "LScoreRoads$Notes;", true)
  | 2 => ("ScoreRoads", "repeats", "LScoreRoads$Repeats;", true)
  | 3 => ("ScoreRoads", "road", "LScoreRoads$Road;", true)
  | 4 => ("ScoreRoads", "sounding", "LScoreRoads$Sounding;", true)
  | 5 => ("ScoreRoads", "roadKnown", "Z", false)
  | _ => ("ScoreRoads", "fault", "I", false)
def t_SR : Nat → FieldType := fun k => match k with
  | 0 => .object "ScoreRoads$Page"
  | 1 => .object "ScoreRoads$Notes"
  | 2 => .object "ScoreRoads$Repeats"
  | 3 => .object "ScoreRoads$Road"
  | 4 => .object "ScoreRoads$Sounding"
  | 5 => .boolean
  | _ => .int
theorem n_SR : ∀ a, a < 7 → ∀ b, b < 7 → a ≠ b → (F_SR a).2.1 ≠ (F_SR b).2.1 := by decide +kernel
theorem t_SR_ok : ∀ k, k < 7 → parseFieldDescriptor (F_SR k).2.2.1 = some (t_SR k) := by decide +kernel
def F_Page : u_T := fun k => match k with
  | 0 => ("ScoreRoads$Page", "bars", "I", true)
  | 1 => ("ScoreRoads$Page", "lengths", "[I", true)
  | 2 => ("ScoreRoads$Page", "tempos", "[I", true)
  | _ => ("ScoreRoads$Page", "values", "[I", true)
def t_Page : Nat → FieldType := fun k => match k with
  | 0 => .int
  | 1 => (.array .int)
  | 2 => (.array .int)
  | _ => (.array .int)
theorem n_Page : ∀ a, a < 4 → ∀ b, b < 4 → a ≠ b → (F_Page a).2.1 ≠ (F_Page b).2.1 := by decide +kernel
theorem t_Page_ok : ∀ k, k < 4 → parseFieldDescriptor (F_Page k).2.2.1 = some (t_Page k) := by decide +kernel
def F_Notes : u_T := fun k => match k with
  | 0 => ("ScoreRoads$Notes", "row", "[LScoreRoads$Note;", true)
  | _ => ("ScoreRoads$Notes", "number", "I", false)
def t_Notes : Nat → FieldType := fun k => match k with
  | 0 => (.array (.object "ScoreRoads$Note"))
  | _ => .int
theorem n_Notes : ∀ a, a < 2 → ∀ b, b < 2 → a ≠ b → (F_Notes a).2.1 ≠ (F_Notes b).2.1 := by decide +kernel
theorem t_Notes_ok : ∀ k, k < 2 → parseFieldDescriptor (F_Notes k).2.2.1 = some (t_Notes k) := by decide +kernel
def F_Repeats : u_T := fun k => match k with
  | 0 => ("ScoreRoads$Repeats", "all", "[LScoreRoads$Repeat;", true)
  | 1 => ("ScoreRoads$Repeats", "byEnd", "[LScoreRoads$Repeat;", true)
  | 2 => ("ScoreRoads$Repeats", "byEnding", "[LScoreRoads$Repeat;", true)
  | _ => ("ScoreRoads$Repeats", "number", "I", false)
def t_Repeats : Nat → FieldType := fun k => match k with
  | 0 => (.array (.object "ScoreRoads$Repeat"))
  | 1 => (.array (.object "ScoreRoads$Repeat"))
  | 2 => (.array (.object "ScoreRoads$Repeat"))
  | _ => .int
theorem n_Repeats : ∀ a, a < 4 → ∀ b, b < 4 → a ≠ b → (F_Repeats a).2.1 ≠ (F_Repeats b).2.1 := by decide +kernel
theorem t_Repeats_ok : ∀ k, k < 4 → parseFieldDescriptor (F_Repeats k).2.2.1 = some (t_Repeats k) := by decide +kernel
def F_Repeat : u_T := fun k => match k with
  | 0 => ("ScoreRoads$Repeat", "first", "I", false)
  | 1 => ("ScoreRoads$Repeat", "firstEnd", "I", false)
  | 2 => ("ScoreRoads$Repeat", "lastEnd", "I", false)
  | 3 => ("ScoreRoads$Repeat", "firstEnding", "I", false)
  | 4 => ("ScoreRoads$Repeat", "lastEnding", "I", false)
  | 5 => ("ScoreRoads$Repeat", "count", "I", false)
  | _ => ("ScoreRoads$Repeat", "pass", "I", false)
def t_Repeat : Nat → FieldType := fun k => match k with
  | 0 => .int
  | 1 => .int
  | 2 => .int
  | 3 => .int
  | 4 => .int
  | 5 => .int
  | _ => .int
theorem n_Repeat : ∀ a, a < 7 → ∀ b, b < 7 → a ≠ b → (F_Repeat a).2.1 ≠ (F_Repeat b).2.1 := by decide +kernel
theorem t_Repeat_ok : ∀ k, k < 7 → parseFieldDescriptor (F_Repeat k).2.2.1 = some (t_Repeat k) := by decide +kernel
def F_Road : u_T := fun k => match k with
  | 0 => ("ScoreRoads$Road", "order", "[I", true)
  | 1 => ("ScoreRoads$Road", "number", "I", false)
  | 2 => ("ScoreRoads$Road", "jumped", "Z", false)
  | 3 => ("ScoreRoads$Road", "wentOver", "Z", false)
  | 4 => ("ScoreRoads$Road", "way", "I", false)
  | _ => ("ScoreRoads$Road", "taken", "Z", false)
def t_Road : Nat → FieldType := fun k => match k with
  | 0 => (.array .int)
  | 1 => .int
  | 2 => .boolean
  | 3 => .boolean
  | 4 => .int
  | _ => .boolean
theorem n_Road : ∀ a, a < 6 → ∀ b, b < 6 → a ≠ b → (F_Road a).2.1 ≠ (F_Road b).2.1 := by decide +kernel
theorem t_Road_ok : ∀ k, k < 6 → parseFieldDescriptor (F_Road k).2.2.1 = some (t_Road k) := by decide +kernel
def F_Sounding : u_T := fun k => match k with
  | 0 => ("ScoreRoads$Sounding", "firsts", "[LScoreRoads$Note;", true)
  | 1 => ("ScoreRoads$Sounding", "indexes", "[I", true)
  | 2 => ("ScoreRoads$Sounding", "number", "I", false)
  | _ => ("ScoreRoads$Sounding", "knownPart", "I", false)
def t_Sounding : Nat → FieldType := fun k => match k with
  | 0 => (.array (.object "ScoreRoads$Note"))
  | 1 => (.array .int)
  | 2 => .int
  | _ => .int
theorem n_Sounding : ∀ a, a < 4 → ∀ b, b < 4 → a ≠ b → (F_Sounding a).2.1 ≠ (F_Sounding b).2.1 := by decide +kernel
theorem t_Sounding_ok : ∀ k, k < 4 → parseFieldDescriptor (F_Sounding k).2.2.1 = some (t_Sounding k) := by decide +kernel
def F_Note : u_T := fun k => match k with
  | 0 => ("ScoreRoads$Note", "part", "I", true)
  | 1 => ("ScoreRoads$Note", "bar", "I", true)
  | 2 => ("ScoreRoads$Note", "start", "I", true)
  | 3 => ("ScoreRoads$Note", "length", "I", true)
  | 4 => ("ScoreRoads$Note", "pitch", "I", false)
  | _ => ("ScoreRoads$Note", "tie", "Z", true)
def t_Note : Nat → FieldType := fun k => match k with
  | 0 => .int
  | 1 => .int
  | 2 => .int
  | 3 => .int
  | 4 => .int
  | _ => .boolean
theorem n_Note : ∀ a, a < 6 → ∀ b, b < 6 → a ≠ b → (F_Note a).2.1 ≠ (F_Note b).2.1 := by decide +kernel
theorem t_Note_ok : ∀ k, k < 6 → parseFieldDescriptor (F_Note k).2.2.1 = some (t_Note k) := by decide +kernel
def F_Mo : u_T := fun k => match k with
  | 0 => ("ScoreRoadsModel", "mostOf", "[I", true)
  | 1 => ("ScoreRoadsModel", "thrown", "I", false)
  | 2 => ("ScoreRoadsModel", "bars", "I", true)
  | 3 => ("ScoreRoadsModel", "lengths", "[I", true)
  | 4 => ("ScoreRoadsModel", "tempos", "[I", true)
  | 5 => ("ScoreRoadsModel", "signs", "[I", true)
  | 6 => ("ScoreRoadsModel", "notes", "I", false)
  | 7 => ("ScoreRoadsModel", "part", "[I", true)
  | 8 => ("ScoreRoadsModel", "place", "[I", true)
  | 9 => ("ScoreRoadsModel", "start", "[I", true)
  | 10 => ("ScoreRoadsModel", "length", "[I", true)
  | 11 => ("ScoreRoadsModel", "pitch", "[I", true)
  | 12 => ("ScoreRoadsModel", "tied", "[Z", true)
  | 13 => ("ScoreRoadsModel", "repeats", "I", false)
  | 14 => ("ScoreRoadsModel", "first", "[I", true)
  | 15 => ("ScoreRoadsModel", "ends", "[I", true)
  | 16 => ("ScoreRoadsModel", "endings", "[I", true)
  | 17 => ("ScoreRoadsModel", "count", "[I", true)
  | 18 => ("ScoreRoadsModel", "pass", "[I", true)
  | 19 => ("ScoreRoadsModel", "fault", "I", false)
  | 20 => ("ScoreRoadsModel", "here", "I", false)
  | 21 => ("ScoreRoadsModel", "again", "Z", false)
  | 22 => ("ScoreRoadsModel", "jumped", "I", false)
  | 23 => ("ScoreRoadsModel", "went", "Z", false)
  | 24 => ("ScoreRoadsModel", "plays", "I", false)
  | 25 => ("ScoreRoadsModel", "played", "[I", true)
  | 26 => ("ScoreRoadsModel", "soundTick", "J", false)
  | 27 => ("ScoreRoadsModel", "soundLength", "J", false)
  | _ => ("ScoreRoadsModel", "soundTicks", "J", false)
def t_Mo : Nat → FieldType := fun k => match k with
  | 0 => (.array .int)
  | 1 => .int
  | 2 => .int
  | 3 => (.array .int)
  | 4 => (.array .int)
  | 5 => (.array .int)
  | 6 => .int
  | 7 => (.array .int)
  | 8 => (.array .int)
  | 9 => (.array .int)
  | 10 => (.array .int)
  | 11 => (.array .int)
  | 12 => (.array .boolean)
  | 13 => .int
  | 14 => (.array .int)
  | 15 => (.array .int)
  | 16 => (.array .int)
  | 17 => (.array .int)
  | 18 => (.array .int)
  | 19 => .int
  | 20 => .int
  | 21 => .boolean
  | 22 => .int
  | 23 => .boolean
  | 24 => .int
  | 25 => (.array .int)
  | 26 => .long
  | 27 => .long
  | _ => .long
theorem n_Mo : ∀ a, a < 29 → ∀ b, b < 29 → a ≠ b → (F_Mo a).2.1 ≠ (F_Mo b).2.1 := by decide +kernel
theorem t_Mo_ok : ∀ k, k < 29 → parseFieldDescriptor (F_Mo k).2.2.1 = some (t_Mo k) := by decide +kernel
def F_none : u_T := fun _ => ("", "", "", false)
def rx_cl : List vw_C := [("ScoreRoads", F_SR, 7), ("ScoreRoads$Page", F_Page, 4), ("ScoreRoads$Notes", F_Notes, 2), ("ScoreRoads$Repeats", F_Repeats, 4), ("ScoreRoads$Repeat", F_Repeat, 7), ("ScoreRoads$Road", F_Road, 6), ("ScoreRoads$Sounding", F_Sounding, 4), ("ScoreRoads$Note", F_Note, 6), ("ScoreRoadsModel", F_Mo, 29), ("java/lang/IllegalArgumentException", F_none, 0), ("java/lang/IllegalStateException", F_none, 0), ("java/lang/IndexOutOfBoundsException", F_none, 0)]
def rx_ats : List FieldType := [.int, .long, .boolean, .object "ScoreRoads$Repeat", .object "ScoreRoads$Note"]
def rx_exn : Nat → String := fun k => match k with
  | 0 => "java/lang/IllegalArgumentException"
  | 1 => "java/lang/IllegalStateException"
  | _ => "java/lang/IndexOutOfBoundsException"
theorem w_SR : ∀ w ∈ u_ws "ScoreRoads" F_SR 7, w ∈ rx_tbl := by
  intro w hw
  obtain ⟨k, hk, rfl⟩ := List.mem_map.mp hw
  have hk := List.mem_range.mp hk
  match k, hk with
  | 0, _ => exact rx_in 186 (by decide +kernel) (by decide +kernel)
  | 1, _ => exact rx_in 188 (by decide +kernel) (by decide +kernel)
  | 2, _ => exact rx_in 190 (by decide +kernel) (by decide +kernel)
  | 3, _ => exact rx_in 192 (by decide +kernel) (by decide +kernel)
  | 4, _ => exact rx_in 194 (by decide +kernel) (by decide +kernel)
  | 5, _ => exact rx_in 196 (by decide +kernel) (by decide +kernel)
  | 6, _ => exact rx_in 198 (by decide +kernel) (by decide +kernel)
  | k + 7, h => exact absurd h (by omega)
theorem w_Page : ∀ w ∈ u_ws "ScoreRoads$Page" F_Page 4, w ∈ rx_tbl := by
  intro w hw
  obtain ⟨k, hk, rfl⟩ := List.mem_map.mp hw
  have hk := List.mem_range.mp hk
  match k, hk with
  | 0, _ => exact rx_in 44 (by decide +kernel) (by decide +kernel)
  | 1, _ => exact rx_in 46 (by decide +kernel) (by decide +kernel)
  | 2, _ => exact rx_in 48 (by decide +kernel) (by decide +kernel)
  | 3, _ => exact rx_in 50 (by decide +kernel) (by decide +kernel)
  | k + 4, h => exact absurd h (by omega)
theorem w_Notes : ∀ w ∈ u_ws "ScoreRoads$Notes" F_Notes 2, w ∈ rx_tbl := by
  intro w hw
  obtain ⟨k, hk, rfl⟩ := List.mem_map.mp hw
  have hk := List.mem_range.mp hk
  match k, hk with
  | 0, _ => exact rx_in 66 (by decide +kernel) (by decide +kernel)
  | 1, _ => exact rx_in 68 (by decide +kernel) (by decide +kernel)
  | k + 2, h => exact absurd h (by omega)
theorem w_Repeats : ∀ w ∈ u_ws "ScoreRoads$Repeats" F_Repeats 4, w ∈ rx_tbl := by
  intro w hw
  obtain ⟨k, hk, rfl⟩ := List.mem_map.mp hw
  have hk := List.mem_range.mp hk
  match k, hk with
  | 0, _ => exact rx_in 122 (by decide +kernel) (by decide +kernel)
  | 1, _ => exact rx_in 124 (by decide +kernel) (by decide +kernel)
  | 2, _ => exact rx_in 126 (by decide +kernel) (by decide +kernel)
  | 3, _ => exact rx_in 128 (by decide +kernel) (by decide +kernel)
  | k + 4, h => exact absurd h (by omega)
theorem w_Repeat : ∀ w ∈ u_ws "ScoreRoads$Repeat" F_Repeat 7, w ∈ rx_tbl := by
  intro w hw
  obtain ⟨k, hk, rfl⟩ := List.mem_map.mp hw
  have hk := List.mem_range.mp hk
  match k, hk with
  | 0, _ => exact rx_in 103 (by decide +kernel) (by decide +kernel)
  | 1, _ => exact rx_in 105 (by decide +kernel) (by decide +kernel)
  | 2, _ => exact rx_in 107 (by decide +kernel) (by decide +kernel)
  | 3, _ => exact rx_in 109 (by decide +kernel) (by decide +kernel)
  | 4, _ => exact rx_in 111 (by decide +kernel) (by decide +kernel)
  | 5, _ => exact rx_in 113 (by decide +kernel) (by decide +kernel)
  | 6, _ => exact rx_in 115 (by decide +kernel) (by decide +kernel)
  | k + 7, h => exact absurd h (by omega)
theorem w_Road : ∀ w ∈ u_ws "ScoreRoads$Road" F_Road 6, w ∈ rx_tbl := by
  intro w hw
  obtain ⟨k, hk, rfl⟩ := List.mem_map.mp hw
  have hk := List.mem_range.mp hk
  match k, hk with
  | 0, _ => exact rx_in 145 (by decide +kernel) (by decide +kernel)
  | 1, _ => exact rx_in 147 (by decide +kernel) (by decide +kernel)
  | 2, _ => exact rx_in 149 (by decide +kernel) (by decide +kernel)
  | 3, _ => exact rx_in 151 (by decide +kernel) (by decide +kernel)
  | 4, _ => exact rx_in 153 (by decide +kernel) (by decide +kernel)
  | 5, _ => exact rx_in 155 (by decide +kernel) (by decide +kernel)
  | k + 6, h => exact absurd h (by omega)
theorem w_Sounding : ∀ w ∈ u_ws "ScoreRoads$Sounding" F_Sounding 4, w ∈ rx_tbl := by
  intro w hw
  obtain ⟨k, hk, rfl⟩ := List.mem_map.mp hw
  have hk := List.mem_range.mp hk
  match k, hk with
  | 0, _ => exact rx_in 170 (by decide +kernel) (by decide +kernel)
  | 1, _ => exact rx_in 172 (by decide +kernel) (by decide +kernel)
  | 2, _ => exact rx_in 174 (by decide +kernel) (by decide +kernel)
  | 3, _ => exact rx_in 176 (by decide +kernel) (by decide +kernel)
  | k + 4, h => exact absurd h (by omega)
theorem w_Note : ∀ w ∈ u_ws "ScoreRoads$Note" F_Note 6, w ∈ rx_tbl := by
  intro w hw
  obtain ⟨k, hk, rfl⟩ := List.mem_map.mp hw
  have hk := List.mem_range.mp hk
  match k, hk with
  | 0, _ => exact rx_in 562 (by decide +kernel) (by decide +kernel)
  | 1, _ => exact rx_in 564 (by decide +kernel) (by decide +kernel)
  | 2, _ => exact rx_in 566 (by decide +kernel) (by decide +kernel)
  | 3, _ => exact rx_in 568 (by decide +kernel) (by decide +kernel)
  | 4, _ => exact rx_in 570 (by decide +kernel) (by decide +kernel)
  | 5, _ => exact rx_in 572 (by decide +kernel) (by decide +kernel)
  | k + 6, h => exact absurd h (by omega)
theorem w_Mo : ∀ w ∈ u_ws "ScoreRoadsModel" F_Mo 29, w ∈ rx_tbl := by
  intro w hw
  obtain ⟨k, hk, rfl⟩ := List.mem_map.mp hw
  have hk := List.mem_range.mp hk
  match k, hk with
  | 0, _ => exact rx_in 824 (by decide +kernel) (by decide +kernel)
  | 1, _ => exact rx_in 826 (by decide +kernel) (by decide +kernel)
  | 2, _ => exact rx_in 828 (by decide +kernel) (by decide +kernel)
  | 3, _ => exact rx_in 830 (by decide +kernel) (by decide +kernel)
  | 4, _ => exact rx_in 832 (by decide +kernel) (by decide +kernel)
  | 5, _ => exact rx_in 834 (by decide +kernel) (by decide +kernel)
  | 6, _ => exact rx_in 836 (by decide +kernel) (by decide +kernel)
  | 7, _ => exact rx_in 838 (by decide +kernel) (by decide +kernel)
  | 8, _ => exact rx_in 840 (by decide +kernel) (by decide +kernel)
  | 9, _ => exact rx_in 842 (by decide +kernel) (by decide +kernel)
  | 10, _ => exact rx_in 844 (by decide +kernel) (by decide +kernel)
  | 11, _ => exact rx_in 846 (by decide +kernel) (by decide +kernel)
  | 12, _ => exact rx_in 848 (by decide +kernel) (by decide +kernel)
  | 13, _ => exact rx_in 850 (by decide +kernel) (by decide +kernel)
  | 14, _ => exact rx_in 852 (by decide +kernel) (by decide +kernel)
  | 15, _ => exact rx_in 854 (by decide +kernel) (by decide +kernel)
  | 16, _ => exact rx_in 856 (by decide +kernel) (by decide +kernel)
  | 17, _ => exact rx_in 858 (by decide +kernel) (by decide +kernel)
  | 18, _ => exact rx_in 860 (by decide +kernel) (by decide +kernel)
  | 19, _ => exact rx_in 862 (by decide +kernel) (by decide +kernel)
  | 20, _ => exact rx_in 864 (by decide +kernel) (by decide +kernel)
  | 21, _ => exact rx_in 866 (by decide +kernel) (by decide +kernel)
  | 22, _ => exact rx_in 868 (by decide +kernel) (by decide +kernel)
  | 23, _ => exact rx_in 870 (by decide +kernel) (by decide +kernel)
  | 24, _ => exact rx_in 872 (by decide +kernel) (by decide +kernel)
  | 25, _ => exact rx_in 874 (by decide +kernel) (by decide +kernel)
  | 26, _ => exact rx_in 876 (by decide +kernel) (by decide +kernel)
  | 27, _ => exact rx_in 878 (by decide +kernel) (by decide +kernel)
  | 28, _ => exact rx_in 880 (by decide +kernel) (by decide +kernel)
  | k + 29, h => exact absurd h (by omega)
def rx_strs : List (Nat × String) := [(56, "no such bar, length or tempo"), (67, "a note would go over the bar's end"), (84, "no such bar, kind or value"), (90, "there is such a sign with another value"), (219, "no such part"), (102, "no such bar or pitch"), (107, "the note does not lie in the bar"), (117, "there are too many notes, or there is this one"), (135, "a pitch would be out of its bounds"), (217, "the map has a fault"), (223, "not so many bars are played")]
def m_SR_init : rx_T := (⟨"ScoreRoads", "<init>", "(I)V"⟩, prog_1_method_1_code, 3, none, [])
def m_Page_init : rx_T := (⟨"ScoreRoads$Page", "<init>", "(I)V"⟩, prog_6_method_1_code, 2, none, [])
def m_JA_fill : rx_T := (⟨"java/util/Arrays", "fill", "([II)V"⟩, prog_21_method_103_code, 4, none, [])
def m_Notes_init : rx_T := (⟨"ScoreRoads$Notes", "<init>", "()V"⟩, prog_5_method_1_code, 1, none, [])
def m_Repeats_init : rx_T := (⟨"ScoreRoads$Repeats", "<init>", "(I)V"⟩, prog_8_method_1_code, 3, none, [])
def m_Repeat_init : rx_T := (⟨"ScoreRoads$Repeat", "<init>", "()V"⟩, prog_7_method_1_code, 1, none, [])
def m_Road_init : rx_T := (⟨"ScoreRoads$Road", "<init>", "(I)V"⟩, prog_9_method_1_code, 2, none, [])
def m_Sounding_init : rx_T := (⟨"ScoreRoads$Sounding", "<init>", "()V"⟩, prog_10_method_1_code, 1, none, [])
def m_SR_signAt : rx_T := (⟨"ScoreRoads", "signAt", "(II)I"⟩, prog_1_method_4_code, 3, (some .int), [])
def m_Page_value : rx_T := (⟨"ScoreRoads$Page", "value", "(II)I"⟩, prog_6_method_7_code, 4, (some .int), [])
def m_SR_check : rx_T := (⟨"ScoreRoads", "check", "()I"⟩, prog_1_method_7_code, 1, (some .int), [])
def m_SR_knowRoad : rx_T := (⟨"ScoreRoads", "knowRoad", "()V"⟩, prog_1_method_19_code, 1, none, [])
def m_Repeats_gather : rx_T := (⟨"ScoreRoads$Repeats", "gather", "(LScoreRoads$Page;)V"⟩, prog_8_method_2_code, 3, none, [])
def m_Repeats_gatherEnds : rx_T := (⟨"ScoreRoads$Repeats", "gatherEnds", "(LScoreRoads$Page;)V"⟩, prog_8_method_3_code, 4, none, [])
def m_Page_has : rx_T := (⟨"ScoreRoads$Page", "has", "(II)Z"⟩, prog_6_method_8_code, 3, (some .boolean), [])
def m_Repeats_begin : rx_T := (⟨"ScoreRoads$Repeats", "begin", "(LScoreRoads$Page;II)LScoreRoads$Repeat;"⟩, prog_8_method_5_code, 6, (some (.object "ScoreRoads$Repeat")), [])
def m_Page_lastWith : rx_T := (⟨"ScoreRoads$Page", "lastWith", "(III)I"⟩, prog_6_method_11_code, 5, (some .int), [])
def m_JM_min : rx_T := (⟨"java/lang/Math", "min", "(II)I"⟩, prog_17_method_69_code, 2, (some .int), [])
def m_JM_max : rx_T := (⟨"java/lang/Math", "max", "(II)I"⟩, prog_17_method_65_code, 2, (some .int), [])
def m_Repeats_goesOn : rx_T := (⟨"ScoreRoads$Repeats", "goesOn", "(LScoreRoads$Page;II)Z"⟩, prog_8_method_4_code, 3, (some .boolean), [])
def m_Repeats_gatherEndings : rx_T := (⟨"ScoreRoads$Repeats", "gatherEndings", "(LScoreRoads$Page;LScoreRoads$Repeat;)V"⟩, prog_8_method_6_code, 4, none, [])
def m_Repeats_takeEnding : rx_T := (⟨"ScoreRoads$Repeats", "takeEnding", "(LScoreRoads$Page;LScoreRoads$Repeat;I)V"⟩, prog_8_method_7_code, 4, none, [])
def m_Repeat_hasEndings : rx_T := (⟨"ScoreRoads$Repeat", "hasEndings", "()Z"⟩, prog_7_method_2_code, 1, (some .boolean), [])
def m_Repeats_ofEnd : rx_T := (⟨"ScoreRoads$Repeats", "ofEnd", "(I)LScoreRoads$Repeat;"⟩, prog_8_method_8_code, 2, (some (.object "ScoreRoads$Repeat")), [])
def m_Faults_least : rx_T := (⟨"ScoreRoads$Faults", "least", "(LScoreRoads$Page;LScoreRoads$Repeats;)I"⟩, prog_2_method_2_code, 4, (some .int), [])
def m_Faults_isThere : rx_T := (⟨"ScoreRoads$Faults", "isThere", "(ILScoreRoads$Page;LScoreRoads$Repeats;I)Z"⟩, prog_2_method_3_code, 4, (some .boolean), [])
def m_Faults_isNeverEnded : rx_T := (⟨"ScoreRoads$Faults", "isNeverEnded", "(LScoreRoads$Page;I)Z"⟩, prog_2_method_4_code, 3, (some .boolean), [])
def m_Faults_isStrayEnding : rx_T := (⟨"ScoreRoads$Faults", "isStrayEnding", "(LScoreRoads$Repeats;I)Z"⟩, prog_2_method_5_code, 3, (some .boolean), [])
def m_Repeats_ofEnding : rx_T := (⟨"ScoreRoads$Repeats", "ofEnding", "(I)LScoreRoads$Repeat;"⟩, prog_8_method_9_code, 2, (some (.object "ScoreRoads$Repeat")), [])
def m_Faults_isUnlikeItsRepeat : rx_T := (⟨"ScoreRoads$Faults", "isUnlikeItsRepeat", "(LScoreRoads$Page;LScoreRoads$Repeats;I)Z"⟩, prog_2_method_6_code, 4, (some .boolean), [])
def m_Faults_isFirstOfWrongPasses : rx_T := (⟨"ScoreRoads$Faults", "isFirstOfWrongPasses", "(LScoreRoads$Page;LScoreRoads$Repeats;I)Z"⟩, prog_2_method_7_code, 7, (some .boolean), [])
def m_Repeats_around : rx_T := (⟨"ScoreRoads$Repeats", "around", "(I)LScoreRoads$Repeat;"⟩, prog_8_method_10_code, 3, (some (.object "ScoreRoads$Repeat")), [])
def m_Repeat_spans : rx_T := (⟨"ScoreRoads$Repeat", "spans", "(I)Z"⟩, prog_7_method_3_code, 2, (some .boolean), [])
def m_Page_hasPass : rx_T := (⟨"ScoreRoads$Page", "hasPass", "(II)Z"⟩, prog_6_method_9_code, 3, (some .boolean), [])
def m_Page_passBit : rx_T := (⟨"ScoreRoads$Page", "passBit", "(I)I"⟩, prog_6_method_10_code, 1, (some .int), [])
def m_Faults_isSecond : rx_T := (⟨"ScoreRoads$Faults", "isSecond", "(LScoreRoads$Page;II)Z"⟩, prog_2_method_8_code, 3, (some .boolean), [])
def m_Jump_target : rx_T := (⟨"ScoreRoads$Jump", "target", "(LScoreRoads$Page;I)I"⟩, prog_3_method_5_code, 2, (some .int), [])
def m_Jump_isToSegno : rx_T := (⟨"ScoreRoads$Jump", "isToSegno", "(I)Z"⟩, prog_3_method_2_code, 1, (some .boolean), [])
def m_Faults_lacksItsWay : rx_T := (⟨"ScoreRoads$Faults", "lacksItsWay", "(LScoreRoads$Page;I)Z"⟩, prog_2_method_9_code, 4, (some .boolean), [])
def m_Jump_way : rx_T := (⟨"ScoreRoads$Jump", "way", "(I)I"⟩, prog_3_method_3_code, 1, (some .int), [])
def m_Road_walk : rx_T := (⟨"ScoreRoads$Road", "walk", "(LScoreRoads$Page;LScoreRoads$Repeats;)V"⟩, prog_9_method_2_code, 6, none, [])
def m_Repeats_resetPasses : rx_T := (⟨"ScoreRoads$Repeats", "resetPasses", "()V"⟩, prog_8_method_11_code, 2, none, [])
def m_Road_insteadOf : rx_T := (⟨"ScoreRoads$Road", "insteadOf", "(ILScoreRoads$Page;LScoreRoads$Repeats;)I"⟩, prog_9_method_3_code, 8, (some .int), [])
def m_Road_isToComeAgain : rx_T := (⟨"ScoreRoads$Road", "isToComeAgain", "(ILScoreRoads$Repeats;)Z"⟩, prog_9_method_4_code, 4, (some .boolean), [])
def m_Road_leaveRepeatAtLastPass : rx_T := (⟨"ScoreRoads$Road", "leaveRepeatAtLastPass", "(ILScoreRoads$Page;LScoreRoads$Repeats;)V"⟩, prog_9_method_5_code, 4, none, [])
def m_Road_behind : rx_T := (⟨"ScoreRoads$Road", "behind", "(IZLScoreRoads$Page;LScoreRoads$Repeats;)I"⟩, prog_9_method_6_code, 6, (some .int), [])
def m_Road_jumpFrom : rx_T := (⟨"ScoreRoads$Road", "jumpFrom", "(ILScoreRoads$Page;LScoreRoads$Repeats;)I"⟩, prog_9_method_7_code, 5, (some .int), [])
def m_Jump_hasRepeats : rx_T := (⟨"ScoreRoads$Jump", "hasRepeats", "(I)Z"⟩, prog_3_method_4_code, 1, (some .boolean), [])
def m_Page_hasBar : rx_T := (⟨"ScoreRoads$Page", "hasBar", "(I)Z"⟩, prog_6_method_2_code, 2, (some .boolean), [])
def m_SR_plays : rx_T := (⟨"ScoreRoads", "plays", "()I"⟩, prog_1_method_8_code, 1, (some .int), [])
def m_La_cell : rx_T := (⟨"ScoreRoadsLaw", "cell", "([II)I"⟩, method_2_code, 2, (some .int), [])
def m_La_bar : rx_T := (⟨"ScoreRoadsLaw", "bar", "(LScoreRoads;III)I"⟩, method_3_code, 5, (some .int), [((0 : Nat), (7 : Nat), (10 : Nat), (13 : Nat)), ((0 : Nat), (7 : Nat), (14 : Nat), (15 : Nat))])
def m_SR_bar : rx_T := (⟨"ScoreRoads", "bar", "(III)V"⟩, prog_1_method_2_code, 4, none, [])
def m_SR_isWithin : rx_T := (⟨"ScoreRoads", "isWithin", "(III)Z"⟩, prog_1_method_25_code, 3, (some .boolean), [])
def m_Notes_endIn : rx_T := (⟨"ScoreRoads$Notes", "endIn", "(I)I"⟩, prog_5_method_7_code, 4, (some .int), [])
def m_Note_end : rx_T := (⟨"ScoreRoads$Note", "end", "()I"⟩, prog_4_method_2_code, 1, (some .int), [])
def m_Page_shape : rx_T := (⟨"ScoreRoads$Page", "shape", "(III)V"⟩, prog_6_method_3_code, 4, none, [])
def m_Sounding_forget : rx_T := (⟨"ScoreRoads$Sounding", "forget", "()V"⟩, prog_10_method_2_code, 1, none, [])
def m_La_sign : rx_T := (⟨"ScoreRoadsLaw", "sign", "(LScoreRoads;III[J)I"⟩, method_4_code, 6, (some .int), [((0 : Nat), (19 : Nat), (22 : Nat), (13 : Nat)), ((0 : Nat), (19 : Nat), (26 : Nat), (15 : Nat))])
def m_SR_sign : rx_T := (⟨"ScoreRoads", "sign", "(III)Z"⟩, prog_1_method_3_code, 5, (some .boolean), [])
def m_SR_isKind : rx_T := (⟨"ScoreRoads", "isKind", "(I)Z"⟩, prog_1_method_23_code, 1, (some .boolean), [])
def m_SR_isValue : rx_T := (⟨"ScoreRoads", "isValue", "(II)Z"⟩, prog_1_method_24_code, 2, (some .boolean), [])
def m_Page_put : rx_T := (⟨"ScoreRoads$Page", "put", "(III)V"⟩, prog_6_method_6_code, 4, none, [])
def m_La_note : rx_T := (⟨"ScoreRoadsLaw", "note", "(LScoreRoads;IIIIIZ[J)I"⟩, method_5_code, 9, (some .int), [((0 : Nat), (18 : Nat), (21 : Nat), (13 : Nat)), ((0 : Nat), (18 : Nat), (25 : Nat), (15 : Nat))])
def m_SR_note : rx_T := (⟨"ScoreRoads", "note", "(IIIIIZ)I"⟩, prog_1_method_5_code, 7, (some .int), [])
def m_SR_needPart : rx_T := (⟨"ScoreRoads", "needPart", "(I)V"⟩, prog_1_method_21_code, 1, none, [])
def m_Page_lengthOf : rx_T := (⟨"ScoreRoads$Page", "lengthOf", "(I)I"⟩, prog_6_method_4_code, 2, (some .int), [])
def m_Notes_isFull : rx_T := (⟨"ScoreRoads$Notes", "isFull", "()Z"⟩, prog_5_method_2_code, 1, (some .boolean), [])
def m_Notes_seek : rx_T := (⟨"ScoreRoads$Notes", "seek", "(IIII)LScoreRoads$Note;"⟩, prog_5_method_5_code, 7, (some (.object "ScoreRoads$Note")), [])
def m_Note_isIn : rx_T := (⟨"ScoreRoads$Note", "isIn", "(II)Z"⟩, prog_4_method_3_code, 3, (some .boolean), [])
def m_Note_init : rx_T := (⟨"ScoreRoads$Note", "<init>", "(IIIIIZ)V"⟩, prog_4_method_1_code, 7, none, [])
def m_Notes_add : rx_T := (⟨"ScoreRoads$Notes", "add", "(LScoreRoads$Note;)V"⟩, prog_5_method_3_code, 3, none, [])
def m_Note_isBehind : rx_T := (⟨"ScoreRoads$Note", "isBehind", "(LScoreRoads$Note;)Z"⟩, prog_4_method_5_code, 2, (some .boolean), [])
def m_La_transpose : rx_T := (⟨"ScoreRoadsLaw", "transpose", "(LScoreRoads;II[J)I"⟩, method_6_code, 5, (some .int), [((0 : Nat), (10 : Nat), (13 : Nat), (13 : Nat))])
def m_SR_transpose : rx_T := (⟨"ScoreRoads", "transpose", "(II)I"⟩, prog_1_method_6_code, 3, (some .int), [])
def m_Notes_canShift : rx_T := (⟨"ScoreRoads$Notes", "canShift", "(II)Z"⟩, prog_5_method_8_code, 6, (some .boolean), [])
def m_Notes_shift : rx_T := (⟨"ScoreRoads$Notes", "shift", "(II)I"⟩, prog_5_method_9_code, 5, (some .int), [])
def m_La_played : rx_T := (⟨"ScoreRoadsLaw", "played", "(LScoreRoads;I[J)I"⟩, method_7_code, 4, (some .int), [((0 : Nat), (9 : Nat), (12 : Nat), (15 : Nat)), ((0 : Nat), (9 : Nat), (15 : Nat), (33 : Nat))])
def m_SR_played : rx_T := (⟨"ScoreRoads", "played", "(I)I"⟩, prog_1_method_9_code, 2, (some .int), [])
def m_SR_needRoad : rx_T := (⟨"ScoreRoads", "needRoad", "()V"⟩, prog_1_method_20_code, 1, none, [])
def m_SR_needPlayed : rx_T := (⟨"ScoreRoads", "needPlayed", "(II)V"⟩, prog_1_method_22_code, 2, none, [])
def m_Road_barOf : rx_T := (⟨"ScoreRoads$Road", "barOf", "(I)I"⟩, prog_9_method_8_code, 2, (some .int), [])
def m_La_time : rx_T := (⟨"ScoreRoadsLaw", "time", "(LScoreRoads;I[J)I"⟩, method_8_code, 4, (some .int), [((0 : Nat), (9 : Nat), (12 : Nat), (15 : Nat)), ((0 : Nat), (9 : Nat), (15 : Nat), (33 : Nat))])
def m_SR_time : rx_T := (⟨"ScoreRoads", "time", "(I)I"⟩, prog_1_method_10_code, 2, (some .int), [])
def m_Road_timesUpTo : rx_T := (⟨"ScoreRoads$Road", "timesUpTo", "(I)I"⟩, prog_9_method_9_code, 4, (some .int), [])
def m_La_find : rx_T := (⟨"ScoreRoadsLaw", "find", "(LScoreRoads;II[J)I"⟩, method_9_code, 5, (some .int), [((0 : Nat), (10 : Nat), (13 : Nat), (15 : Nat))])
def m_SR_find : rx_T := (⟨"ScoreRoads", "find", "(II)I"⟩, prog_1_method_11_code, 3, (some .int), [])
def m_Road_indexOf : rx_T := (⟨"ScoreRoads$Road", "indexOf", "(II)I"⟩, prog_9_method_10_code, 5, (some .int), [])
def m_La_tick : rx_T := (⟨"ScoreRoadsLaw", "tick", "(LScoreRoads;I[J)I"⟩, method_10_code, 4, (some .int), [((0 : Nat), (8 : Nat), (11 : Nat), (15 : Nat)), ((0 : Nat), (8 : Nat), (14 : Nat), (33 : Nat))])
def m_SR_tick : rx_T := (⟨"ScoreRoads", "tick", "(I)J"⟩, prog_1_method_12_code, 2, (some .long), [])
def m_Road_ticksTo : rx_T := (⟨"ScoreRoads$Road", "ticksTo", "(LScoreRoads$Page;I)J"⟩, prog_9_method_11_code, 6, (some .long), [])
def m_Road_ticksOf : rx_T := (⟨"ScoreRoads$Road", "ticksOf", "(LScoreRoads$Page;I)J"⟩, prog_9_method_13_code, 2, (some .long), [])
def m_Page_tempoOf : rx_T := (⟨"ScoreRoads$Page", "tempoOf", "(I)I"⟩, prog_6_method_5_code, 2, (some .int), [])
def m_La_at : rx_T := (⟨"ScoreRoadsLaw", "at", "(LScoreRoads;J[J)I"⟩, method_11_code, 5, (some .int), [((0 : Nat), (9 : Nat), (12 : Nat), (15 : Nat))])
def m_SR_at : rx_T := (⟨"ScoreRoads", "at", "(J)I"⟩, prog_1_method_13_code, 3, (some .int), [])
def m_Road_indexAt : rx_T := (⟨"ScoreRoads$Road", "indexAt", "(LScoreRoads$Page;J)I"⟩, prog_9_method_12_code, 7, (some .int), [])
def m_La_sounds : rx_T := (⟨"ScoreRoadsLaw", "sounds", "(LScoreRoads;I[J)I"⟩, method_12_code, 4, (some .int), [((0 : Nat), (9 : Nat), (12 : Nat), (13 : Nat)), ((0 : Nat), (9 : Nat), (15 : Nat), (15 : Nat))])
def m_SR_sounds : rx_T := (⟨"ScoreRoads", "sounds", "(I)I"⟩, prog_1_method_14_code, 2, (some .int), [])
def m_Sounding_know : rx_T := (⟨"ScoreRoads$Sounding", "know", "(ILScoreRoads$Page;LScoreRoads$Notes;LScoreRoads$Road;)V"⟩, prog_10_method_3_code, 6, none, [])
def m_Sounding_gather : rx_T := (⟨"ScoreRoads$Sounding", "gather", "(IILScoreRoads$Page;LScoreRoads$Notes;LScoreRoads$Road;)V"⟩, prog_10_method_4_code, 8, none, [])
def m_Notes_get : rx_T := (⟨"ScoreRoads$Notes", "get", "(I)LScoreRoads$Note;"⟩, prog_5_method_4_code, 2, (some (.object "ScoreRoads$Note")), [])
def m_Notes_isGoingOn : rx_T := (⟨"ScoreRoads$Notes", "isGoingOn", "(LScoreRoads$Note;LScoreRoads$Page;I)Z"⟩, prog_5_method_11_code, 6, (some .boolean), [])
def m_Note_reachesOver : rx_T := (⟨"ScoreRoads$Note", "reachesOver", "(LScoreRoads$Page;)Z"⟩, prog_4_method_4_code, 2, (some .boolean), [])
def m_La_sound : rx_T := (⟨"ScoreRoadsLaw", "sound", "(LScoreRoads;III[J)I"⟩, method_13_code, 6, (some .int), [((0 : Nat), (11 : Nat), (14 : Nat), (13 : Nat)), ((0 : Nat), (11 : Nat), (18 : Nat), (15 : Nat))])
def m_SR_sound : rx_T := (⟨"ScoreRoads", "sound", "(III)J"⟩, prog_1_method_15_code, 4, (some .long), [])
def m_Sounding_beginOf : rx_T := (⟨"ScoreRoads$Sounding", "beginOf", "(ILScoreRoads$Page;LScoreRoads$Road;)J"⟩, prog_10_method_6_code, 5, (some .long), [])
def m_Sounding_firstOf : rx_T := (⟨"ScoreRoads$Sounding", "firstOf", "(I)LScoreRoads$Note;"⟩, prog_10_method_5_code, 2, (some (.object "ScoreRoads$Note")), [])
def m_Sounding_pitchOf : rx_T := (⟨"ScoreRoads$Sounding", "pitchOf", "(I)I"⟩, prog_10_method_7_code, 3, (some .int), [])
def m_Sounding_lengthOf : rx_T := (⟨"ScoreRoads$Sounding", "lengthOf", "(IZLScoreRoads$Page;LScoreRoads$Notes;LScoreRoads$Road;)J"⟩, prog_10_method_8_code, 10, (some .long), [])
def m_Notes_goingOn : rx_T := (⟨"ScoreRoads$Notes", "goingOn", "(LScoreRoads$Note;LScoreRoads$Page;I)LScoreRoads$Note;"⟩, prog_5_method_10_code, 4, (some (.object "ScoreRoads$Note")), [])
def m_La_rest : rx_T := (⟨"ScoreRoadsLaw", "rest", "(LScoreRoads;II[J)I"⟩, method_14_code, 5, (some .int), [((0 : Nat), (10 : Nat), (13 : Nat), (13 : Nat))])
def m_SR_rest : rx_T := (⟨"ScoreRoads", "rest", "(II)I"⟩, prog_1_method_16_code, 5, (some .int), [])
def m_Notes_isRest : rx_T := (⟨"ScoreRoads$Notes", "isRest", "(II)Z"⟩, prog_5_method_6_code, 4, (some .boolean), [])
def m_SR_goesOnResting : rx_T := (⟨"ScoreRoads", "goesOnResting", "(II)Z"⟩, prog_1_method_18_code, 3, (some .boolean), [])
def m_Page_isCutBefore : rx_T := (⟨"ScoreRoads$Page", "isCutBefore", "(I)Z"⟩, prog_6_method_12_code, 2, (some .boolean), [])
def m_Page_opensCut : rx_T := (⟨"ScoreRoads$Page", "opensCut", "(I)Z"⟩, prog_6_method_13_code, 2, (some .boolean), [])
def m_Page_closesCut : rx_T := (⟨"ScoreRoads$Page", "closesCut", "(I)Z"⟩, prog_6_method_14_code, 2, (some .boolean), [])
def m_SR_restBars : rx_T := (⟨"ScoreRoads", "restBars", "(II)I"⟩, prog_1_method_17_code, 4, (some .int), [])
def m_Mo_init : rx_T := (⟨"ScoreRoadsModel", "<init>", "(I)V"⟩, prog_12_method_1_code, 3, none, [])
def m_Mo_thrown : rx_T := (⟨"ScoreRoadsModel", "thrown", "()I"⟩, prog_12_method_2_code, 1, (some .int), [])
def m_Mo_bar : rx_T := (⟨"ScoreRoadsModel", "bar", "(III)V"⟩, prog_12_method_10_code, 5, none, [])
def m_Mo_isBar : rx_T := (⟨"ScoreRoadsModel", "isBar", "(I)Z"⟩, prog_12_method_5_code, 2, (some .boolean), [])
def m_Mo_within : rx_T := (⟨"ScoreRoadsModel", "within", "(III)Z"⟩, prog_12_method_4_code, 3, (some .boolean), [])
def m_Mo_sign : rx_T := (⟨"ScoreRoadsModel", "sign", "(III)Z"⟩, prog_12_method_11_code, 6, (some .boolean), [])
def m_Mo_signAt : rx_T := (⟨"ScoreRoadsModel", "signAt", "(II)I"⟩, prog_12_method_12_code, 3, (some .int), [])
def m_Mo_note : rx_T := (⟨"ScoreRoadsModel", "note", "(IIIIIZ)I"⟩, prog_12_method_13_code, 10, (some .int), [])
def m_Mo_isPart : rx_T := (⟨"ScoreRoadsModel", "isPart", "(I)Z"⟩, prog_12_method_6_code, 1, (some .boolean), [])
def m_Mo_refuse : rx_T := (⟨"ScoreRoadsModel", "refuse", "(I)I"⟩, prog_12_method_3_code, 2, (some .int), [])
def m_Mo_transpose : rx_T := (⟨"ScoreRoadsModel", "transpose", "(II)I"⟩, prog_12_method_14_code, 7, (some .int), [])
def m_Mo_check : rx_T := (⟨"ScoreRoadsModel", "check", "()I"⟩, prog_12_method_29_code, 1, (some .int), [])
def m_Mo_findFault : rx_T := (⟨"ScoreRoadsModel", "findFault", "()I"⟩, prog_12_method_28_code, 4, (some .int), [])
def m_Mo_findRepeats : rx_T := (⟨"ScoreRoadsModel", "findRepeats", "()V"⟩, prog_12_method_20_code, 6, none, [])
def m_Mo_has : rx_T := (⟨"ScoreRoadsModel", "has", "(II)Z"⟩, prog_12_method_8_code, 3, (some .boolean), [])
def m_Mo_signOf : rx_T := (⟨"ScoreRoadsModel", "signOf", "(II)I"⟩, prog_12_method_7_code, 3, (some .int), [])
def m_Mo_lastStart : rx_T := (⟨"ScoreRoadsModel", "lastStart", "(II)I"⟩, prog_12_method_15_code, 5, (some .int), [])
def m_Mo_lowest : rx_T := (⟨"ScoreRoadsModel", "lowest", "(I)I"⟩, prog_12_method_16_code, 3, (some .int), [])
def m_Mo_in : rx_T := (⟨"ScoreRoadsModel", "in", "(II)Z"⟩, prog_12_method_9_code, 2, (some .boolean), [])
def m_Mo_withEnding : rx_T := (⟨"ScoreRoadsModel", "withEnding", "(I)I"⟩, prog_12_method_18_code, 3, (some .int), [])
def m_Mo_checkStart : rx_T := (⟨"ScoreRoadsModel", "checkStart", "(I)V"⟩, prog_12_method_22_code, 5, none, [])
def m_Mo_wrong : rx_T := (⟨"ScoreRoadsModel", "wrong", "(ZII)V"⟩, prog_12_method_21_code, 5, none, [])
def m_Mo_checkEnding : rx_T := (⟨"ScoreRoadsModel", "checkEnding", "(I)V"⟩, prog_12_method_23_code, 3, none, [])
def m_Mo_isThere : rx_T := (⟨"ScoreRoadsModel", "isThere", "(III)Z"⟩, prog_12_method_25_code, 6, (some .boolean), [])
def m_Mo_checkJump : rx_T := (⟨"ScoreRoadsModel", "checkJump", "(I)V"⟩, prog_12_method_27_code, 6, none, [])
def m_Mo_firstOf : rx_T := (⟨"ScoreRoadsModel", "firstOf", "(I)I"⟩, prog_12_method_26_code, 3, (some .int), [])
def m_Mo_checkRepeat : rx_T := (⟨"ScoreRoadsModel", "checkRepeat", "(I)V"⟩, prog_12_method_24_code, 5, none, [])
def m_Mo_highest : rx_T := (⟨"ScoreRoadsModel", "highest", "(I)I"⟩, prog_12_method_17_code, 3, (some .int), [])
def m_Mo_plays : rx_T := (⟨"ScoreRoadsModel", "plays", "()I"⟩, prog_12_method_37_code, 1, (some .int), [])
def m_Mo_walk : rx_T := (⟨"ScoreRoadsModel", "walk", "()Z"⟩, prog_12_method_36_code, 2, (some .boolean), [])
def m_Mo_resetPasses : rx_T := (⟨"ScoreRoadsModel", "resetPasses", "()V"⟩, prog_12_method_32_code, 2, none, [])
def m_Mo_come : rx_T := (⟨"ScoreRoadsModel", "come", "(I)V"⟩, prog_12_method_33_code, 5, none, [])
def m_Mo_takes : rx_T := (⟨"ScoreRoadsModel", "takes", "()Z"⟩, prog_12_method_30_code, 1, (some .boolean), [])
def m_Mo_goOn : rx_T := (⟨"ScoreRoadsModel", "goOn", "()Z"⟩, prog_12_method_35_code, 2, (some .boolean), [])
def m_Mo_withEnd : rx_T := (⟨"ScoreRoadsModel", "withEnd", "(I)I"⟩, prog_12_method_19_code, 3, (some .int), [])
def m_Mo_how : rx_T := (⟨"ScoreRoadsModel", "how", "()I"⟩, prog_12_method_31_code, 1, (some .int), [])
def m_Mo_resetJumped : rx_T := (⟨"ScoreRoadsModel", "resetJumped", "(I)V"⟩, prog_12_method_34_code, 2, none, [])
def m_Mo_played : rx_T := (⟨"ScoreRoadsModel", "played", "(I)I"⟩, prog_12_method_39_code, 2, (some .int), [])
def m_Mo_wrongBar : rx_T := (⟨"ScoreRoadsModel", "wrongBar", "(II)I"⟩, prog_12_method_38_code, 3, (some .int), [])
def m_Mo_time : rx_T := (⟨"ScoreRoadsModel", "time", "(I)I"⟩, prog_12_method_40_code, 4, (some .int), [])
def m_Mo_find : rx_T := (⟨"ScoreRoadsModel", "find", "(II)I"⟩, prog_12_method_41_code, 5, (some .int), [])
def m_Mo_tick : rx_T := (⟨"ScoreRoadsModel", "tick", "(I)J"⟩, prog_12_method_43_code, 2, (some .long), [])
def m_Mo_ticksBefore : rx_T := (⟨"ScoreRoadsModel", "ticksBefore", "(I)J"⟩, prog_12_method_42_code, 5, (some .long), [])
def m_Mo_at : rx_T := (⟨"ScoreRoadsModel", "at", "(J)I"⟩, prog_12_method_44_code, 5, (some .int), [])
def m_Mo_sounds : rx_T := (⟨"ScoreRoadsModel", "sounds", "(I)I"⟩, prog_12_method_52_code, 3, (some .int), [])
def m_Mo_wrongPart : rx_T := (⟨"ScoreRoadsModel", "wrongPart", "(I)I"⟩, prog_12_method_51_code, 2, (some .int), [])
def m_Mo_seek : rx_T := (⟨"ScoreRoadsModel", "seek", "(II)I"⟩, prog_12_method_50_code, 6, (some .int), [])
def m_Mo_nextNote : rx_T := (⟨"ScoreRoadsModel", "nextNote", "(III)I"⟩, prog_12_method_49_code, 8, (some .int), [])
def m_Mo_goesOn : rx_T := (⟨"ScoreRoadsModel", "goesOn", "(II)Z"⟩, prog_12_method_47_code, 5, (some .boolean), [])
def m_Mo_reaches : rx_T := (⟨"ScoreRoadsModel", "reaches", "(I)Z"⟩, prog_12_method_45_code, 2, (some .boolean), [])
def m_Mo_follow : rx_T := (⟨"ScoreRoadsModel", "follow", "(II)V"⟩, prog_12_method_48_code, 5, none, [])
def m_Mo_opening : rx_T := (⟨"ScoreRoadsModel", "opening", "(III)I"⟩, prog_12_method_46_code, 6, (some .int), [])
def m_Mo_sound : rx_T := (⟨"ScoreRoadsModel", "sound", "(III)J"⟩, prog_12_method_53_code, 5, (some .long), [])
def m_Mo_rest : rx_T := (⟨"ScoreRoadsModel", "rest", "(II)I"⟩, prog_12_method_56_code, 7, (some .int), [])
def m_Mo_isRest : rx_T := (⟨"ScoreRoadsModel", "isRest", "(II)Z"⟩, prog_12_method_54_code, 5, (some .boolean), [])
def m_Mo_joins : rx_T := (⟨"ScoreRoadsModel", "joins", "(II)Z"⟩, prog_12_method_55_code, 5, (some .boolean), [])
end
section
/-! rx: one judgement for a frame of any method of the program, over the whole world: the cells from the address z on, as one list -/
abbrev rx_R : Type := Option Value ⊕ Nat
abbrev rx_L : Type := List (Option Value)
/-- launch, the first address, the classes' numbers and slots, the array classes, the int arrays that lie outside -/
abbrev rx_V : Type := Launch × Nat × va_G × (Nat → ClassId) × List (Nat × Nat × (Nat → Int32))
def rx_ws (z : Nat) (h : List va_E) : va_W := h.mapIdx (fun i e => (z + i, e))
theorem rx_ws_at (z : Nat) (h : List va_E) (i : Nat) : (rx_ws z h)[i]? = (h[i]?).map (fun e => (z + i, e)) := by
  unfold rx_ws
  rw [List.getElem?_mapIdx]
theorem rx_ws_of {z : Nat} {h : List va_E} {i : Nat} {e : va_E} (he : h[i]? = some e) : (rx_ws z h)[i]? = some (z + i, e) := by
  rw [rx_ws_at, he]; rfl
theorem rx_ws_set (z : Nat) (h : List va_E) (k : Nat) (e : va_E) : (rx_ws z h).set k (z + k, e) = rx_ws z (h.set k e) := by
  apply List.ext_getElem?
  intro i
  rw [rx_ws_at, List.getElem?_set, List.getElem?_set]
  have hl : (rx_ws z h).length = h.length := by unfold rx_ws; exact List.length_mapIdx
  by_cases hk : k = i
  · subst hk
    rw [if_pos rfl, if_pos rfl, hl]
    by_cases hlt : k < h.length
    · rw [if_pos hlt, if_pos hlt]; rfl
    · rw [if_neg hlt, if_neg hlt]; rfl
  · rw [if_neg hk, if_neg hk, rx_ws_at]
theorem rx_ws_push (z : Nat) (h : List va_E) (e : va_E) : rx_ws z h ++ [(z + h.length, e)] = rx_ws z (h ++ [e]) := by
  unfold rx_ws
  rw [List.mapIdx_append]
  simp
theorem rx_ws_D (z : Nat) (h : List va_E) : va_D (fun q => z ≤ q) (rx_ws z h) := by
  refine ⟨fun i j p q hp hq e => ?_, fun k q hk => ?_⟩
  · rw [rx_ws_at] at hp hq
    cases h1 : h[i]? with
    | none => rw [h1] at hp; cases hp
    | some a =>
      cases h2 : h[j]? with
      | none => rw [h2] at hq; cases hq
      | some b =>
        rw [h1] at hp; rw [h2] at hq
        cases hp; cases hq
        have e' : z + i = z + j := e
        omega
  · rw [rx_ws_at] at hk
    cases h1 : h[k]? with
    | none => rw [h1] at hk; cases hk
    | some a =>
      rw [h1] at hk
      cases hk
      exact Nat.le_add_right _ _
/-- reading and writing by an address -/
def rx_rd (V : rx_V) (h : List va_E) (a : Nat) : Option va_E := if V.2.1 ≤ a then h[a - V.2.1]? else none
def rx_wr (V : rx_V) (h : List va_E) (a : Nat) (e : va_E) : List va_E := h.set (a - V.2.1) e
theorem rx_rd_at {V : rx_V} {h : List va_E} {a : Nat} {e : va_E} (he : rx_rd V h a = some e) : ∃ q, a = V.2.1 + q ∧ h[q]? = some e ∧ a - V.2.1 = q := by
  unfold rx_rd at he
  by_cases hz : V.2.1 ≤ a
  · rw [if_pos hz] at he
    exact ⟨a - V.2.1, by omega, he, rfl⟩
  · rw [if_neg hz] at he; cases he
theorem rx_rd_in {V : rx_V} {h : List va_E} {k : Nat} : rx_rd V h (V.2.1 + k) = h[k]? := by
  unfold rx_rd
  rw [if_pos (Nat.le_add_right _ _), Nat.add_sub_cancel_left]
theorem rx_wr_in {V : rx_V} {h : List va_E} {k : Nat} {e : va_E} : rx_wr V h (V.2.1 + k) e = h.set k e := by
  unfold rx_wr
  rw [Nat.add_sub_cancel_left]
/-! locals -/
def rx_clr (L : rx_L) : Nat → rx_L
  | 0 => L
  | j + 1 => match L[j]? with
    | some (some v) => if v.category = 2 then L.set j none else L
    | _ => L
def rx_st1 (L : rx_L) (i : Nat) (v : Value) : rx_L := (rx_clr L i).set i (some v)
def rx_st2 (L : rx_L) (i : Nat) (v : Value) : rx_L := ((rx_clr L i).set i (some v)).set (i + 1) none
theorem rx_clr_len (L : rx_L) (i : Nat) : (rx_clr L i).length = L.length := by
  cases i with
  | zero => rfl
  | succ k =>
    unfold rx_clr
    dsimp only
    split
    · split
      · exact List.length_set
      · rfl
    · rfl
theorem rx_clr_at {L : rx_L} {i j : Nat} {w : Value} (h : (rx_clr L i)[j]? = some (some w)) : L[j]? = some (some w) ∧ ¬ (j + 1 = i ∧ w.category = 2) := by
  cases i with
  | zero => exact ⟨h, fun q => by omega⟩
  | succ k =>
    unfold rx_clr at h
    dsimp only at h
    split at h
    · rename_i v hv
      split at h
      · rename_i hc
        rw [List.getElem?_set] at h
        by_cases e : k = j
        · rw [if_pos e] at h
          split at h <;> simp at h
        · rw [if_neg e] at h
          exact ⟨h, fun q => by omega⟩
      · rename_i hc
        refine ⟨h, fun q => ?_⟩
        have e : j = k := by omega
        subst e
        rw [hv] at h
        cases h
        exact hc q.2
    · rename_i hn
      refine ⟨h, fun q => ?_⟩
      have e : j = k := by omega
      subst e
      exact hn w h
def rx_al (L : rx_L) : List (Nat × Value) := (List.range L.length).filterMap (fun i => (L[i]?.join).map (fun v => (i, v)))
theorem rx_al_in {L : rx_L} {i : Nat} {v : Value} : (i, v) ∈ rx_al L ↔ L[i]? = some (some v) := by
  unfold rx_al
  rw [List.mem_filterMap]
  constructor
  · rintro ⟨j, -, hj⟩
    cases h : L[j]? with
    | none => rw [h] at hj; cases hj
    | some o =>
      cases o with
      | none => rw [h] at hj; cases hj
      | some w =>
        rw [h] at hj
        cases hj
        exact h
  · intro h
    refine ⟨i, List.mem_range.mpr (List.getElem?_eq_some_iff.mp h).1, ?_⟩
    rw [h]; rfl
def rx_lv (ls : Array Slot) (n : Nat) (L : rx_L) : Prop := ls.size = n ∧ lv_wf ls ∧ L.length = n ∧ ∀ (i : Nat) (v : Value), L[i]? = some (some v) → ls[i]? = some (.val v)
theorem rx_has {ls : Array Slot} {n : Nat} {L : rx_L} (h : rx_lv ls n L) : lv_has ls n (rx_al L) := ⟨h.1, h.2.1, fun q hq => h.2.2.2 q.1 q.2 (rx_al_in.mp hq)⟩
theorem rx_has1 {ls : Array Slot} {n : Nat} {L : rx_L} {i : Nat} {v : Value} (h : rx_lv ls n L) (hi : L[i]? = some (some v)) : lv_has ls n ((i, v) :: rx_al L) := ⟨h.1, h.2.1, fun q hq => by
  rcases List.mem_cons.mp hq with rfl | hq
  · exact h.2.2.2 _ _ hi
  · exact h.2.2.2 q.1 q.2 (rx_al_in.mp hq)⟩
theorem rx_lv1 {ls' : Array Slot} {n : Nat} {L : rx_L} {i : Nat} {v : Value} {l : List (Nat × Value)} (hn : L.length = n) (hall : ∀ (j : Nat) (w : Value), L[j]? = some (some w) → (j, w) ∈ l)
    (h' : lv_has ls' n ((i, v) :: l.filter (fun q => !(q.1 == i) && !(q.1 + 1 == i && q.2.category == 2)))) : rx_lv ls' n (rx_st1 L i v) := by
  refine ⟨h'.1, h'.2.1, ?_, fun j w hj => ?_⟩
  · unfold rx_st1
    rw [List.length_set, rx_clr_len]
    exact hn
  · unfold rx_st1 at hj
    rw [List.getElem?_set] at hj
    by_cases e : i = j
    · subst e
      rw [if_pos rfl] at hj
      split at hj
      · cases hj
        exact h'.2.2 (i, v) List.mem_cons_self
      · cases hj
    · rw [if_neg e] at hj
      obtain ⟨h1, h2⟩ := rx_clr_at hj
      refine h'.2.2 (j, w) (List.mem_cons_of_mem _ (List.mem_filter.mpr ⟨hall j w h1, ?_⟩))
      have e' : ¬ j = i := fun q => e q.symm
      by_cases hc : j + 1 = i
      · have h3 : ¬ w.category = 2 := fun q => h2 ⟨hc, q⟩
        simp [e', h3]
      · simp [e', hc]
theorem rx_lv2 {ls' : Array Slot} {n : Nat} {L : rx_L} {i : Nat} {v : Value} {l : List (Nat × Value)} (hn : L.length = n) (hall : ∀ (j : Nat) (w : Value), L[j]? = some (some w) → (j, w) ∈ l)
    (h' : lv_has ls' n ((i, v) :: l.filter (fun q => !(q.1 == i) && (!(q.1 == i + 1) && !(q.1 + 1 == i && q.2.category == 2))))) : rx_lv ls' n (rx_st2 L i v) := by
  refine ⟨h'.1, h'.2.1, ?_, fun j w hj => ?_⟩
  · unfold rx_st2
    rw [List.length_set, List.length_set, rx_clr_len]
    exact hn
  · unfold rx_st2 at hj
    rw [List.getElem?_set] at hj
    by_cases e1 : i + 1 = j
    · rw [if_pos e1] at hj
      split at hj <;> simp at hj
    · rw [if_neg e1, List.getElem?_set] at hj
      by_cases e : i = j
      · subst e
        rw [if_pos rfl] at hj
        split at hj
        · cases hj
          exact h'.2.2 (i, v) List.mem_cons_self
        · cases hj
      · rw [if_neg e] at hj
        obtain ⟨h1, h2⟩ := rx_clr_at hj
        refine h'.2.2 (j, w) (List.mem_cons_of_mem _ (List.mem_filter.mpr ⟨hall j w h1, ?_⟩))
        have e' : ¬ j = i := fun q => e q.symm
        have e2 : ¬ j = i + 1 := fun q => e1 q.symm
        by_cases hc : j + 1 = i
        · have h3 : ¬ w.category = 2 := fun q => h2 ⟨hc, q⟩
          simp [e', e2, h3]
        · simp [e', e2, hc]
/-- the locals with which a method begins -/
def rx_ea (As : List Value) : rx_L := As.flatMap (fun v => if v.category = 2 then [some v, none] else [some v])
def rx_en (n : Nat) (As : List Value) : rx_L := rx_ea As ++ List.replicate (n - (rx_ea As).length) none
theorem rx_ea_len (As : List Value) : (rx_ea As).length = (lg_sl As).length := by
  induction As with
  | nil => rfl
  | cons v vs ih =>
    have e1 : rx_ea (v :: vs) = (if v.category = 2 then [some v, none] else [some v]) ++ rx_ea vs := rfl
    have e2 : lg_sl (v :: vs) = (if v.category = 2 then [Slot.val v, Slot.second] else [Slot.val v]) ++ lg_sl vs := rfl
    rw [e1, e2, List.length_append, List.length_append, ih]
    by_cases hc : v.category = 2
    · rw [if_pos hc, if_pos hc]; rfl
    · rw [if_neg hc, if_neg hc]; rfl
theorem rx_ea_args : ∀ (As : List Value) (k i : Nat) (v : Value), (rx_ea As)[i]? = some (some v) → (k + i, v) ∈ lv_args k As := by
  intro As
  induction As with
  | nil => intro k i v h; cases h
  | cons w vs ih =>
    intro k i v h
    have e1 : rx_ea (w :: vs) = (if w.category = 2 then [some w, none] else [some w]) ++ rx_ea vs := rfl
    rw [e1] at h
    unfold lv_args
    by_cases hc : w.category = 2
    · rw [if_pos hc] at h
      rw [if_pos hc]
      match i, h with
      | 0, h =>
        cases h
        exact List.mem_cons_self
      | 1, h => simp at h
      | j + 2, h =>
        have h' : (rx_ea vs)[j]? = some (some v) := by simpa using h
        have h3 := ih (k + 2) j v h'
        rw [show k + (j + 2) = k + 2 + j by omega]
        exact List.mem_cons_of_mem _ h3
    · rw [if_neg hc] at h
      rw [if_neg hc]
      match i, h with
      | 0, h =>
        cases h
        exact List.mem_cons_self
      | j + 1, h =>
        have h' : (rx_ea vs)[j]? = some (some v) := by simpa using h
        have h3 := ih (k + 1) j v h'
        rw [show k + (j + 1) = k + 1 + j by omega]
        exact List.mem_cons_of_mem _ h3
theorem rx_entry {As : List Value} {n : Nat} (hn : (lg_sl As).length ≤ n) : rx_lv ((lg_sl As ++ List.replicate (n - (lg_sl As).length) Slot.unset).toArray) n (rx_en n As) := by
  have h := lv_entry As hn
  refine ⟨h.1, h.2.1, ?_, fun i v hi => ?_⟩
  · unfold rx_en
    rw [List.length_append, List.length_replicate, rx_ea_len]
    omega
  · unfold rx_en at hi
    by_cases hl : i < (rx_ea As).length
    · rw [List.getElem?_append_left hl] at hi
      have h3 := rx_ea_args As 0 i v hi
      rw [Nat.zero_add] at h3
      exact h.2.2 (i, v) h3
    · rw [List.getElem?_append_right (by omega)] at hi
      have h3 := List.eq_of_mem_replicate (List.mem_of_getElem? hi)
      cases h3
/-! what lies outside the world, and stays: the int arrays, the statics, the texts -/
def rx_A (V : rx_V) : Nat → Prop := fun q => V.2.1 ≤ q
/-- where a static field lies, its class's statics cell in the heap -/
def rx_Ls (C n d : String) (A : Nat → Prop) (U : State) : Prop := ∃ (c : ClassId) (k : Class) (i : Nat) (f : Field) (a : Nat) (cell : Cell), U.vm.findClass C = some c ∧ U.fieldFound? C n d = some (c, k, i, f) ∧ f.isStatic = true ∧ k.statics = some a ∧ U.heap[a]? = some cell ∧ cell.vm.isStatics = true ∧ cell.cls = c ∧ f.slot < cell.slots.size ∧ k.staticTypes[f.slot]? = some f.type ∧ ¬ A a
theorem rx_Ls_moved {C n d : String} {A : Nat → Prop} {s U : State} (hvm : s.vm.Alike U.vm) (hq : ∀ q : Nat, ¬ A q → U.heap[q]? = s.heap[q]?) (h : rx_Ls C n d A s) : rx_Ls C n d A U := by
  obtain ⟨c, k, i, f, a, cell, h1, h2, h3, h4, h5, h6, h7, h8, h9, h10⟩ := h
  obtain ⟨k', hi', he⟩ := State.fieldFound?_setVm hvm h2
  exact ⟨c, k', i, f, a, cell, by rw [hvm.findClass]; exact h1, hi', h3, by rw [he]; exact h4, by rw [hq a h10]; exact h5, h6, h7, h8, by rw [he]; exact h9, h10⟩
theorem rx_Ls_word {C n d : String} {A : Nat → Prop} {s : State} {args : Array Value} (h : rx_Ls C n d A s) : (Cond.laysStatic C n d).before args s = true := by
  obtain ⟨c, k, i, f, a, cell, h1, h2, h3, h4, h5, h6, h7, h8, h9, -⟩ := h
  show (Cond.laysStatic C n d).holds args s none s [] = true
  exact Cond.laysStatic_of h1 h2 h3 h4 h5 h6 h7 h8 h9
def rx_tN : String := "java/lang/Throwable"
def rx_E (V : rx_V) (U : State) : Prop :=
  (∀ q ∈ V.2.2.2.2, q.1 < V.2.1 ∧ va_X q.1 q.2.1 q.2.2 U U.heap) ∧ V.2.1 ≤ U.heap.size ∧
  (∀ q, V.2.2.2.2[1]? = some q → va_Z "ScoreRoads" "LEAST_VALUES" "[I" (.ref q.1) (rx_A V) U U.heap) ∧ (∀ q, V.2.2.2.2[2]? = some q → va_Z "ScoreRoads" "MOST_VALUES" "[I" (.ref q.1) (rx_A V) U U.heap) ∧
  (va_Zq rx_tN "UNASSIGNED_STACK" "[Ljava/lang/StackTraceElement;" (rx_A V) U U.heap ∧ rx_Ls rx_tN "UNASSIGNED_STACK" "[Ljava/lang/StackTraceElement;" (rx_A V) U) ∧
  (va_Zq rx_tN "SUPPRESSED_SENTINEL" "Ljava/util/List;" (rx_A V) U U.heap ∧ rx_Ls rx_tN "SUPPRESSED_SENTINEL" "Ljava/util/List;" (rx_A V) U) ∧
  (∀ q ∈ rx_strs, ∃ sa, vk_R "ScoreRoads" q.1 q.2 sa U) ∧
  (∀ E E' : Nat, E < 3 → E' < 3 → E ≠ E' → ∃ a b, U.vm.findClass (rx_exn E) = some a ∧ U.vm.findClass (rx_exn E') = some b ∧ U.vm.assignable a b = false)
theorem rx_E_moved {V : rx_V} {s U : State} (hW : s.WarmedH U.vm) (hz : V.2.1 ≤ U.heap.size) (hq : ∀ q : Nat, q < V.2.1 → U.heap[q]? = s.heap[q]?) (h : rx_E V s) : rx_E V U := by
  obtain ⟨h1, h2, h3, h4, ⟨h5, h6⟩, ⟨h7, h8⟩, h9, h10⟩ := h
  have hvm := hW.alike
  have hA : ∀ q : Nat, ¬ rx_A V q → U.heap[q]? = s.heap[q]? := fun q hn => hq q (Nat.not_le.mp hn)
  have hA' : ∀ q : Nat, q < s.heap.size → ¬ rx_A V q → U.heap[q]? = s.heap[q]? := fun q _ hn => hA q hn
  refine ⟨fun q hm => ⟨(h1 q hm).1, ?_⟩, hz, fun q hm => va_Z.moved hvm ((h3 q hm).kept hA'), fun q hm => va_Z.moved hvm ((h4 q hm).kept hA'), ⟨va_Zq.moved hvm (h5.kept hA'), rx_Ls_moved hvm hA h6⟩, ⟨va_Zq.moved hvm (h7.kept hA'), rx_Ls_moved hvm hA h8⟩, fun q hm => ?_, fun E E' e1 e2 e3 => ?_⟩
  · exact va_X.moved hvm ((h1 q hm).2.kept (hq _ (h1 q hm).1))
  · obtain ⟨sa, hs⟩ := h9 q hm
    exact ⟨sa, vk_R.warm hW hs⟩
  · obtain ⟨a, b, f1, f2, f3⟩ := h10 E E' e1 e2 e3
    exact ⟨a, b, by rw [hvm.findClass]; exact f1, by rw [hvm.findClass]; exact f2, by rw [hvm.assignable]; exact f3⟩
end
section
/-! the judgement and its rows -/
def rx_tys (V : rx_V) : List (ClassId × FieldType) := rx_ats.mapIdx (fun i t => (V.2.2.2.1 i, t))
theorem rx_tys_of {V : rx_V} {i : Nat} {t : FieldType} (h : rx_ats[i]? = some t) : (rx_tys V)[i]? = some (V.2.2.2.1 i, t) := by
  unfold rx_tys
  rw [List.getElem?_mapIdx, h]; rfl
def rx_F (d : Nat) (M : rx_T) (p : Program) (R : Room) (s : State) (m : MethodId) (args : Array Value) (meth : Method) (c : Code) : Prop :=
  p.tables.exec = Jvm.exec ∧ c.code = M.2.1 ∧ c.maxLocals = M.2.2.1 ∧ meth.sig.returnType = M.2.2.2.1 ∧ meth.locks = false ∧ s.vm.findClass M.1.cls = some m.cls ∧ (∀ w ∈ rx_tbl, w.before args s = true) ∧
  meth.name = M.1.name ∧ d ≤ R.frames ∧ 32 * d ≤ R.locals ∧ c.exceptionTable.toList.map (fun x => (x.startPc, x.endPc, x.handlerPc, x.catchType)) = M.2.2.2.2
def rx_G (V : rx_V) (kc ks : Nat) (R : Room) (s : State) (h : List va_E) (H : Heap) (locs : List Loc) (cells slots : Nat) : Prop :=
  H.size = V.2.1 + h.length ∧ va_P V.2.2.1 rx_cl (rx_ws V.2.1 h) H ∧ va_S (rx_A V) s.heap H locs ∧ va_K V.2.2.1 rx_cl (rx_tys V) s ∧ rx_E V s ∧ V.2.1 ≤ s.heap.size ∧ cells + kc ≤ R.cells ∧ slots + ks ≤ R.slots
/-- the outcome o at t: the answer and the world that Q allows -/
def rx_O (V : rx_V) (s : State) (Q : rx_R → List va_E → Prop) (o : Outcome) (t : State) : Prop :=
  ∃ (r : rx_R) (h : List va_E), Q r h ∧ t.heap.size = V.2.1 + h.length ∧ va_P V.2.2.1 rx_cl (rx_ws V.2.1 h) t.heap ∧ va_F (rx_A V) s t ∧
    (match r with
      | .inl v => o = .returned v
      | .inr E => ∃ (a : Nat) (ce : Cell), o = .threw a ∧ t.heap[a]? = some ce ∧ ce.vm = .none ∧ s.vm.findClass (rx_exn E) = some ce.cls)
def rx_N (V : rx_V) (s : State) (t : State) (mc ms : Nat) : Prop := ∃ L, s.WarmedH t.vm ∧ s.sameButNew ({ t with vm := s.vm } : State) L mc ms ∧ ∀ q ∈ L, rx_A V q.base
def rx_Z (V : rx_V) (below : List Frame) (s : State) (mc ms : Nat) (Q : rx_R → List va_E → Prop) : State → Prop := fun t =>
  ∃ o, t.status = .running ∧ Ended t below o ∧ rx_O V s Q o t ∧ rx_N V s t mc ms
def rx_W (V : rx_V) (d kc ks : Nat) (M : rx_T) (pc : Nat) (L : rx_L) (S : List Value) (h : List va_E) (Q : rx_R → List va_E → Prop) : Prop :=
  ∀ (p : Program) (e : Env) (R : Room) (s : State) (m : MethodId) (args : Array Value) (below : List Frame) (meth : Method) (c : Code) (H : Heap) (locs : List Loc) (cells slots : Nat) (ls : Array Slot),
    rx_F d M p R s m args meth c → rx_G V kc ks R s h H locs cells slots → rx_lv ls M.2.2.1 L →
    W p V.1 e R s m args below meth c H locs cells slots (rx_Z V below s (cells + kc) (slots + ks) Q) (F0 m pc ls S)
theorem rx_mono {p : Program} {l : Launch} {e : Env} {R : Room} {s : State} {m : MethodId} {args : Array Value} {below : List Frame} {meth : Method} {c : Code} {H : Heap} {locs : List Loc} {cells slots : Nat} {Q Q' : State → Prop} {g : JFrame}
    (hq : ∀ t, Q t → Q' t) (w : W p l e R s m args below meth c H locs cells slots Q g) : W p l e R s m args below meth c H locs cells slots Q' g := fun T hT X => by
  obtain ⟨t, a, b⟩ := w T hT X
  exact ⟨t, a, hq t b⟩
section RX
variable {V : rx_V} {d kc ks : Nat} {M : rx_T} {pc : Nat} {L : rx_L} {S : List Value} {h : List va_E} {Q : rx_R → List va_E → Prop}
/-- another end -/
theorem rx_cons {Q' : rx_R → List va_E → Prop} (w : rx_W V d kc ks M pc L S h Q') (hq : ∀ r h', Q' r h' → Q r h') : rx_W V d kc ks M pc L S h Q := fun p e R s m args below meth c H locs cells slots ls F G hl =>
  rx_mono (fun _ ⟨o, a, b, ⟨r, h', c1, c2⟩, n⟩ => ⟨o, a, b, ⟨r, h', hq r h' c1, c2⟩, n⟩) (w p e R s m args below meth c H locs cells slots ls F G hl)
/-- more room than is needed -/
theorem rx_more {d0 kc0 ks0 : Nat} (w : rx_W V d0 kc0 ks0 M pc L S h Q) (hd : d0 ≤ d) (hc : kc0 ≤ kc) (hs : ks0 ≤ ks) : rx_W V d kc ks M pc L S h Q := by
  intro p e R s m args below meth c H locs cells slots ls F G hl
  obtain ⟨f1, f2, f3, f4, f5, f6, f7, f8, f9, f10, f11⟩ := F
  obtain ⟨g1, g2, g3, g4, g5, g6, g7, g8⟩ := G
  refine rx_mono (fun t ⟨o, a, b, c1, L9, n1, n2, n3⟩ => ⟨o, a, b, c1, L9, n1, n2.mono (by omega) (by omega), n3⟩) (w p e R s m args below meth c H locs cells slots ls ⟨f1, f2, f3, f4, f5, f6, f7, f8, by omega, by omega, f11⟩ ⟨g1, g2, g3, g4, g5, g6, by omega, by omega⟩ hl)
theorem rx_iconst {n : Int} {v : Int32} (hd : decode M.2.1 pc = .ok (.iconst n, 1)) (hv : Int32.ofInt n = v) (k : rx_W V d kc ks M (pc + 1) L (.int v :: S) h Q) : rx_W V d kc ks M pc L S h Q :=
  fun p e R s m args below meth c H locs cells slots ls F G hl => lv_iconst F.1 F.2.1 hd hv (k p e R s m args below meth c H locs cells slots ls F G hl)
theorem rx_bipush {n : Int} {v : Int32} (hd : decode M.2.1 pc = .ok (.bipush n, 2)) (hv : (Int8.ofInt n).toInt32 = v) (k : rx_W V d kc ks M (pc + 2) L (.int v :: S) h Q) : rx_W V d kc ks M pc L S h Q :=
  fun p e R s m args below meth c H locs cells slots ls F G hl => lv_bipush F.1 F.2.1 hd hv (k p e R s m args below meth c H locs cells slots ls F G hl)
theorem rx_sipush {n : Int} {v : Int32} (hd : decode M.2.1 pc = .ok (.sipush n, 3)) (hv : (Int16.ofInt n).toInt32 = v) (k : rx_W V d kc ks M (pc + 3) L (.int v :: S) h Q) : rx_W V d kc ks M pc L S h Q :=
  fun p e R s m args below meth c H locs cells slots ls F G hl => lv_sipush F.1 F.2.1 hd hv (k p e R s m args below meth c H locs cells slots ls F G hl)
theorem rx_lconst {n : Fin 2} {v : Int64} (hd : decode M.2.1 pc = .ok (.lconst n, 1)) (hv : Int64.ofNat (n : Nat) = v) (k : rx_W V d kc ks M (pc + 1) L (.long v :: S) h Q) : rx_W V d kc ks M pc L S h Q :=
  fun p e R s m args below meth c H locs cells slots ls F G hl => lv_lconst F.1 F.2.1 hd hv (k p e R s m args below meth c H locs cells slots ls F G hl)
theorem rx_null (hd : decode M.2.1 pc = .ok (.aconst_null, 1)) (k : rx_W V d kc ks M (pc + 1) L (.null :: S) h Q) : rx_W V d kc ks M pc L S h Q :=
  fun p e R s m args below meth c H locs cells slots ls F G hl => lv_null F.1 F.2.1 hd (k p e R s m args below meth c H locs cells slots ls F G hl)
theorem rx_iload_n {n : Fin 4} {x : Int32} (hd : decode M.2.1 pc = .ok (.iload_n n, 1)) (hv : L[(n : Nat)]? = some (some (.int x))) (k : rx_W V d kc ks M (pc + 1) L (.int x :: S) h Q) : rx_W V d kc ks M pc L S h Q :=
  fun p e R s m args below meth c H locs cells slots ls F G hl => lv_iload_n F.1 F.2.1 hd rfl (hl.2.2.2 _ _ hv) (k p e R s m args below meth c H locs cells slots ls F G hl)
theorem rx_iload {n : Nat} {x : Int32} (hd : decode M.2.1 pc = .ok (.iload n, 2)) (hv : L[n]? = some (some (.int x))) (k : rx_W V d kc ks M (pc + 2) L (.int x :: S) h Q) : rx_W V d kc ks M pc L S h Q :=
  fun p e R s m args below meth c H locs cells slots ls F G hl => lv_iload F.1 F.2.1 hd (hl.2.2.2 _ _ hv) (k p e R s m args below meth c H locs cells slots ls F G hl)
theorem rx_lload_n {n : Fin 4} {x : Int64} (hd : decode M.2.1 pc = .ok (.lload_n n, 1)) (hv : L[(n : Nat)]? = some (some (.long x))) (k : rx_W V d kc ks M (pc + 1) L (.long x :: S) h Q) : rx_W V d kc ks M pc L S h Q :=
  fun p e R s m args below meth c H locs cells slots ls F G hl => lv_lload_n F.1 F.2.1 hd rfl (hl.2.2.2 _ _ hv) (k p e R s m args below meth c H locs cells slots ls F G hl)
theorem rx_lload {n : Nat} {x : Int64} (hd : decode M.2.1 pc = .ok (.lload n, 2)) (hv : L[n]? = some (some (.long x))) (k : rx_W V d kc ks M (pc + 2) L (.long x :: S) h Q) : rx_W V d kc ks M pc L S h Q :=
  fun p e R s m args below meth c H locs cells slots ls F G hl => lv_lload F.1 F.2.1 hd (hl.2.2.2 _ _ hv) (k p e R s m args below meth c H locs cells slots ls F G hl)
/-- a reference or null, as an Option -/
theorem rx_aload_n {n : Fin 4} {x : Option Nat} (hd : decode M.2.1 pc = .ok (.aload_n n, 1)) (hv : L[(n : Nat)]? = some (some (va_rf x))) (k : rx_W V d kc ks M (pc + 1) L (va_rf x :: S) h Q) : rx_W V d kc ks M pc L S h Q :=
  fun p e R s m args below meth c H locs cells slots ls F G hl => by
    cases x with
    | none => exact lv_aload_nN F.1 F.2.1 hd rfl (hl.2.2.2 _ _ hv) (k p e R s m args below meth c H locs cells slots ls F G hl)
    | some a => exact lv_aload_n F.1 F.2.1 hd rfl (hl.2.2.2 _ _ hv) (k p e R s m args below meth c H locs cells slots ls F G hl)
theorem rx_aload {n : Nat} {x : Option Nat} (hd : decode M.2.1 pc = .ok (.aload n, 2)) (hv : L[n]? = some (some (va_rf x))) (k : rx_W V d kc ks M (pc + 2) L (va_rf x :: S) h Q) : rx_W V d kc ks M pc L S h Q :=
  fun p e R s m args below meth c H locs cells slots ls F G hl => by
    cases x with
    | none => exact lv_aloadN F.1 F.2.1 hd (hl.2.2.2 _ _ hv) (k p e R s m args below meth c H locs cells slots ls F G hl)
    | some a => exact lv_aload F.1 F.2.1 hd (hl.2.2.2 _ _ hv) (k p e R s m args below meth c H locs cells slots ls F G hl)
theorem rx_aload_nr {n : Fin 4} {a : Nat} (hd : decode M.2.1 pc = .ok (.aload_n n, 1)) (hv : L[(n : Nat)]? = some (some (.ref a))) (k : rx_W V d kc ks M (pc + 1) L (.ref a :: S) h Q) : rx_W V d kc ks M pc L S h Q :=
  rx_aload_n (x := some a) hd hv k
theorem rx_aload_r {n : Nat} {a : Nat} (hd : decode M.2.1 pc = .ok (.aload n, 2)) (hv : L[n]? = some (some (.ref a))) (k : rx_W V d kc ks M (pc + 2) L (.ref a :: S) h Q) : rx_W V d kc ks M pc L S h Q :=
  rx_aload (x := some a) hd hv k
theorem rx_istore_n {n : Fin 4} {x : Int32} (hd : decode M.2.1 pc = .ok (.istore_n n, 1)) (hn : (n : Nat) < L.length) (k : rx_W V d kc ks M (pc + 1) (rx_st1 L n (.int x)) S h Q) : rx_W V d kc ks M pc L (.int x :: S) h Q :=
  fun p e R s m args below meth c H locs cells slots ls F G hl => lv_istore_n F.1 F.2.1 hd rfl (rx_has hl) (by rw [← hl.2.2.1]; exact hn) rfl (fun ls' h' => k p e R s m args below meth c H locs cells slots ls' F G (rx_lv1 hl.2.2.1 (fun _ _ => rx_al_in.mpr) h'))
theorem rx_istore {n : Nat} {x : Int32} (hd : decode M.2.1 pc = .ok (.istore n, 2)) (hn : n < L.length) (k : rx_W V d kc ks M (pc + 2) (rx_st1 L n (.int x)) S h Q) : rx_W V d kc ks M pc L (.int x :: S) h Q :=
  fun p e R s m args below meth c H locs cells slots ls F G hl => lv_istore F.1 F.2.1 hd (rx_has hl) (by rw [← hl.2.2.1]; exact hn) rfl (fun ls' h' => k p e R s m args below meth c H locs cells slots ls' F G (rx_lv1 hl.2.2.1 (fun _ _ => rx_al_in.mpr) h'))
theorem rx_lstore_n {n : Fin 4} {x : Int64} (hd : decode M.2.1 pc = .ok (.lstore_n n, 1)) (hn : (n : Nat) + 1 < L.length) (k : rx_W V d kc ks M (pc + 1) (rx_st2 L n (.long x)) S h Q) : rx_W V d kc ks M pc L (.long x :: S) h Q :=
  fun p e R s m args below meth c H locs cells slots ls F G hl => lv_lstore_n F.1 F.2.1 hd rfl (rx_has hl) (by rw [← hl.2.2.1]; exact hn) rfl (fun ls' h' => k p e R s m args below meth c H locs cells slots ls' F G (rx_lv2 hl.2.2.1 (fun _ _ => rx_al_in.mpr) h'))
theorem rx_lstore {n : Nat} {x : Int64} (hd : decode M.2.1 pc = .ok (.lstore n, 2)) (hn : n + 1 < L.length) (k : rx_W V d kc ks M (pc + 2) (rx_st2 L n (.long x)) S h Q) : rx_W V d kc ks M pc L (.long x :: S) h Q :=
  fun p e R s m args below meth c H locs cells slots ls F G hl => lv_lstore F.1 F.2.1 hd (rx_has hl) (by rw [← hl.2.2.1]; exact hn) rfl (fun ls' h' => k p e R s m args below meth c H locs cells slots ls' F G (rx_lv2 hl.2.2.1 (fun _ _ => rx_al_in.mpr) h'))
theorem rx_astore_n {n : Fin 4} {x : Option Nat} (hd : decode M.2.1 pc = .ok (.astore_n n, 1)) (hn : (n : Nat) < L.length) (k : rx_W V d kc ks M (pc + 1) (rx_st1 L n (va_rf x)) S h Q) : rx_W V d kc ks M pc L (va_rf x :: S) h Q :=
  fun p e R s m args below meth c H locs cells slots ls F G hl => by
    cases x with
    | none => exact lv_astore_nN F.1 F.2.1 hd rfl (rx_has hl) (by rw [← hl.2.2.1]; exact hn) rfl (fun ls' h' => k p e R s m args below meth c H locs cells slots ls' F G (rx_lv1 hl.2.2.1 (fun _ _ => rx_al_in.mpr) h'))
    | some a => exact lv_astore_n F.1 F.2.1 hd rfl (rx_has hl) (by rw [← hl.2.2.1]; exact hn) rfl (fun ls' h' => k p e R s m args below meth c H locs cells slots ls' F G (rx_lv1 hl.2.2.1 (fun _ _ => rx_al_in.mpr) h'))
theorem rx_astore {n : Nat} {x : Option Nat} (hd : decode M.2.1 pc = .ok (.astore n, 2)) (hn : n < L.length) (k : rx_W V d kc ks M (pc + 2) (rx_st1 L n (va_rf x)) S h Q) : rx_W V d kc ks M pc L (va_rf x :: S) h Q :=
  fun p e R s m args below meth c H locs cells slots ls F G hl => by
    cases x with
    | none => exact lv_astoreN F.1 F.2.1 hd (rx_has hl) (by rw [← hl.2.2.1]; exact hn) rfl (fun ls' h' => k p e R s m args below meth c H locs cells slots ls' F G (rx_lv1 hl.2.2.1 (fun _ _ => rx_al_in.mpr) h'))
    | some a => exact lv_astore F.1 F.2.1 hd (rx_has hl) (by rw [← hl.2.2.1]; exact hn) rfl (fun ls' h' => k p e R s m args below meth c H locs cells slots ls' F G (rx_lv1 hl.2.2.1 (fun _ _ => rx_al_in.mpr) h'))
theorem rx_astore_nr {n : Fin 4} {a : Nat} (hd : decode M.2.1 pc = .ok (.astore_n n, 1)) (hn : (n : Nat) < L.length) (k : rx_W V d kc ks M (pc + 1) (rx_st1 L n (.ref a)) S h Q) : rx_W V d kc ks M pc L (.ref a :: S) h Q :=
  rx_astore_n (x := some a) hd hn k
theorem rx_astore_r {n : Nat} {a : Nat} (hd : decode M.2.1 pc = .ok (.astore n, 2)) (hn : n < L.length) (k : rx_W V d kc ks M (pc + 2) (rx_st1 L n (.ref a)) S h Q) : rx_W V d kc ks M pc L (.ref a :: S) h Q :=
  rx_astore (x := some a) hd hn k
theorem rx_iinc {i : Nat} {n : Int} {x v : Int32} (hd : decode M.2.1 pc = .ok (.iinc i n, 3)) (hx : L[i]? = some (some (.int x))) (hv : x + Int32.ofInt n = v) (k : rx_W V d kc ks M (pc + 3) (rx_st1 L i (.int v)) S h Q) : rx_W V d kc ks M pc L S h Q :=
  fun p e R s m args below meth c H locs cells slots ls F G hl => lv_iinc (k := 0) F.1 F.2.1 hd (rx_has1 hl hx) rfl hv (by rw [← hl.2.2.1]; exact (List.getElem?_eq_some_iff.mp hx).1) rfl (fun ls' h' => k p e R s m args below meth c H locs cells slots ls' F G (rx_lv1 hl.2.2.1 (fun _ _ q => List.mem_cons_of_mem _ (rx_al_in.mpr q)) h'))
theorem rx_iadd {x y : Int32} (hd : decode M.2.1 pc = .ok (.iadd, 1)) (k : rx_W V d kc ks M (pc + 1) L (.int (x + y) :: S) h Q) : rx_W V d kc ks M pc L (.int y :: .int x :: S) h Q :=
  fun p e R s m args below meth c H locs cells slots ls F G hl => lv_iadd F.1 F.2.1 hd (k p e R s m args below meth c H locs cells slots ls F G hl)
theorem rx_isub {x y : Int32} (hd : decode M.2.1 pc = .ok (.isub, 1)) (k : rx_W V d kc ks M (pc + 1) L (.int (x - y) :: S) h Q) : rx_W V d kc ks M pc L (.int y :: .int x :: S) h Q :=
  fun p e R s m args below meth c H locs cells slots ls F G hl => lv_isub F.1 F.2.1 hd (k p e R s m args below meth c H locs cells slots ls F G hl)
theorem rx_imul {x y : Int32} (hd : decode M.2.1 pc = .ok (.imul, 1)) (k : rx_W V d kc ks M (pc + 1) L (.int (x * y) :: S) h Q) : rx_W V d kc ks M pc L (.int y :: .int x :: S) h Q :=
  fun p e R s m args below meth c H locs cells slots ls F G hl => lv_imul F.1 F.2.1 hd (k p e R s m args below meth c H locs cells slots ls F G hl)
theorem rx_iand {x y : Int32} (hd : decode M.2.1 pc = .ok (.iand, 1)) (k : rx_W V d kc ks M (pc + 1) L (.int (x &&& y) :: S) h Q) : rx_W V d kc ks M pc L (.int y :: .int x :: S) h Q :=
  fun p e R s m args below meth c H locs cells slots ls F G hl => lv_iand F.1 F.2.1 hd (k p e R s m args below meth c H locs cells slots ls F G hl)
theorem rx_ior {x y : Int32} (hd : decode M.2.1 pc = .ok (.ior, 1)) (k : rx_W V d kc ks M (pc + 1) L (.int (x ||| y) :: S) h Q) : rx_W V d kc ks M pc L (.int y :: .int x :: S) h Q :=
  fun p e R s m args below meth c H locs cells slots ls F G hl => lv_ior F.1 F.2.1 hd (k p e R s m args below meth c H locs cells slots ls F G hl)
theorem rx_ixor {x y : Int32} (hd : decode M.2.1 pc = .ok (.ixor, 1)) (k : rx_W V d kc ks M (pc + 1) L (.int (x ^^^ y) :: S) h Q) : rx_W V d kc ks M pc L (.int y :: .int x :: S) h Q :=
  fun p e R s m args below meth c H locs cells slots ls F G hl => lv_ixor F.1 F.2.1 hd (k p e R s m args below meth c H locs cells slots ls F G hl)
theorem rx_ishl {x y : Int32} (hd : decode M.2.1 pc = .ok (.ishl, 1)) (k : rx_W V d kc ks M (pc + 1) L (.int (x <<< (y &&& 31)) :: S) h Q) : rx_W V d kc ks M pc L (.int y :: .int x :: S) h Q :=
  fun p e R s m args below meth c H locs cells slots ls F G hl => lv_ishl F.1 F.2.1 hd (k p e R s m args below meth c H locs cells slots ls F G hl)
theorem rx_ishr {x y : Int32} (hd : decode M.2.1 pc = .ok (.ishr, 1)) (k : rx_W V d kc ks M (pc + 1) L (.int (x >>> (y &&& 31)) :: S) h Q) : rx_W V d kc ks M pc L (.int y :: .int x :: S) h Q :=
  fun p e R s m args below meth c H locs cells slots ls F G hl => lv_ishr F.1 F.2.1 hd (k p e R s m args below meth c H locs cells slots ls F G hl)
theorem rx_idiv {x y : Int32} (hd : decode M.2.1 pc = .ok (.idiv, 1)) (hne : ¬ y = 0) (k : rx_W V d kc ks M (pc + 1) L (.int (x / y) :: S) h Q) : rx_W V d kc ks M pc L (.int y :: .int x :: S) h Q :=
  fun p e R s m args below meth c H locs cells slots ls F G hl => lv_idiv F.1 F.2.1 hd hne (k p e R s m args below meth c H locs cells slots ls F G hl)
theorem rx_irem {x y : Int32} (hd : decode M.2.1 pc = .ok (.irem, 1)) (hne : ¬ y = 0) (k : rx_W V d kc ks M (pc + 1) L (.int (x - x / y * y) :: S) h Q) : rx_W V d kc ks M pc L (.int y :: .int x :: S) h Q :=
  fun p e R s m args below meth c H locs cells slots ls F G hl => lv_irem F.1 F.2.1 hd hne (k p e R s m args below meth c H locs cells slots ls F G hl)
theorem rx_ineg {x : Int32} (hd : decode M.2.1 pc = .ok (.ineg, 1)) (k : rx_W V d kc ks M (pc + 1) L (.int (-x) :: S) h Q) : rx_W V d kc ks M pc L (.int x :: S) h Q :=
  fun p e R s m args below meth c H locs cells slots ls F G hl => lv_ineg F.1 F.2.1 hd (k p e R s m args below meth c H locs cells slots ls F G hl)
theorem rx_ladd {x y : Int64} (hd : decode M.2.1 pc = .ok (.ladd, 1)) (k : rx_W V d kc ks M (pc + 1) L (.long (x + y) :: S) h Q) : rx_W V d kc ks M pc L (.long y :: .long x :: S) h Q :=
  fun p e R s m args below meth c H locs cells slots ls F G hl => lv_ladd F.1 F.2.1 hd (k p e R s m args below meth c H locs cells slots ls F G hl)
theorem rx_lsub {x y : Int64} (hd : decode M.2.1 pc = .ok (.lsub, 1)) (k : rx_W V d kc ks M (pc + 1) L (.long (x - y) :: S) h Q) : rx_W V d kc ks M pc L (.long y :: .long x :: S) h Q :=
  fun p e R s m args below meth c H locs cells slots ls F G hl => lv_lsub F.1 F.2.1 hd (k p e R s m args below meth c H locs cells slots ls F G hl)
theorem rx_lmul {x y : Int64} (hd : decode M.2.1 pc = .ok (.lmul, 1)) (k : rx_W V d kc ks M (pc + 1) L (.long (x * y) :: S) h Q) : rx_W V d kc ks M pc L (.long y :: .long x :: S) h Q :=
  fun p e R s m args below meth c H locs cells slots ls F G hl => lv_lmul F.1 F.2.1 hd (k p e R s m args below meth c H locs cells slots ls F G hl)
theorem rx_land {x y : Int64} (hd : decode M.2.1 pc = .ok (.land, 1)) (k : rx_W V d kc ks M (pc + 1) L (.long (x &&& y) :: S) h Q) : rx_W V d kc ks M pc L (.long y :: .long x :: S) h Q :=
  fun p e R s m args below meth c H locs cells slots ls F G hl => lv_land F.1 F.2.1 hd (k p e R s m args below meth c H locs cells slots ls F G hl)
theorem rx_lor {x y : Int64} (hd : decode M.2.1 pc = .ok (.lor, 1)) (k : rx_W V d kc ks M (pc + 1) L (.long (x ||| y) :: S) h Q) : rx_W V d kc ks M pc L (.long y :: .long x :: S) h Q :=
  fun p e R s m args below meth c H locs cells slots ls F G hl => lv_lor F.1 F.2.1 hd (k p e R s m args below meth c H locs cells slots ls F G hl)
theorem rx_i2l {x : Int32} (hd : decode M.2.1 pc = .ok (.i2l, 1)) (k : rx_W V d kc ks M (pc + 1) L (.long x.toInt64 :: S) h Q) : rx_W V d kc ks M pc L (.int x :: S) h Q :=
  fun p e R s m args below meth c H locs cells slots ls F G hl => lv_i2l F.1 F.2.1 hd rfl (k p e R s m args below meth c H locs cells slots ls F G hl)
theorem rx_l2i {x : Int64} (hd : decode M.2.1 pc = .ok (.l2i, 1)) (k : rx_W V d kc ks M (pc + 1) L (.int x.toInt32 :: S) h Q) : rx_W V d kc ks M pc L (.long x :: S) h Q :=
  fun p e R s m args below meth c H locs cells slots ls F G hl => lv_l2i F.1 F.2.1 hd rfl (k p e R s m args below meth c H locs cells slots ls F G hl)
theorem rx_lshl {x : Int64} {y : Int32} (hd : decode M.2.1 pc = .ok (.lshl, 1)) (k : rx_W V d kc ks M (pc + 1) L (.long (x <<< (y.toInt64 &&& 63)) :: S) h Q) : rx_W V d kc ks M pc L (.int y :: .long x :: S) h Q :=
  fun p e R s m args below meth c H locs cells slots ls F G hl => lv_lshl F.1 F.2.1 hd rfl (k p e R s m args below meth c H locs cells slots ls F G hl)
theorem rx_lcmp {x y : Int64} (hd : decode M.2.1 pc = .ok (.lcmp, 1)) (k : rx_W V d kc ks M (pc + 1) L (.int (lg_cmp x y) :: S) h Q) : rx_W V d kc ks M pc L (.long y :: .long x :: S) h Q :=
  fun p e R s m args below meth c H locs cells slots ls F G hl => W.lcmp F.1 F.2.1 hd (k p e R s m args below meth c H locs cells slots ls F G hl)
theorem rx_dup {a : Value} (hd : decode M.2.1 pc = .ok (.dup, 1)) (ha : a.category = 1) (k : rx_W V d kc ks M (pc + 1) L (a :: a :: S) h Q) : rx_W V d kc ks M pc L (a :: S) h Q :=
  fun p e R s m args below meth c H locs cells slots ls F G hl => lv_dup F.1 F.2.1 hd ha (k p e R s m args below meth c H locs cells slots ls F G hl)
theorem rx_pop {a : Value} (hd : decode M.2.1 pc = .ok (.pop, 1)) (ha : a.category = 1) (k : rx_W V d kc ks M (pc + 1) L (S) h Q) : rx_W V d kc ks M pc L (a :: S) h Q :=
  fun p e R s m args below meth c H locs cells slots ls F G hl => lv_pop F.1 F.2.1 hd ha (k p e R s m args below meth c H locs cells slots ls F G hl)
theorem rx_dup_x1 {a b : Value} (hd : decode M.2.1 pc = .ok (.dup_x1, 1)) (ha : a.category = 1) (hb : b.category = 1) (k : rx_W V d kc ks M (pc + 1) L (a :: b :: a :: S) h Q) : rx_W V d kc ks M pc L (a :: b :: S) h Q :=
  fun p e R s m args below meth c H locs cells slots ls F G hl => lv_dup_x1 F.1 F.2.1 hd ha hb (k p e R s m args below meth c H locs cells slots ls F G hl)
theorem rx_dup2 {a b : Value} (hd : decode M.2.1 pc = .ok (.dup2, 1)) (ha : a.category = 1) (hb : b.category = 1) (k : rx_W V d kc ks M (pc + 1) L (a :: b :: a :: b :: S) h Q) : rx_W V d kc ks M pc L (a :: b :: S) h Q :=
  fun p e R s m args below meth c H locs cells slots ls F G hl => lv_dup2_11 F.1 F.2.1 hd ha hb (k p e R s m args below meth c H locs cells slots ls F G hl)
theorem rx_if_eq {x : Int32} {off : Int} {tgt : Nat} (hd : decode M.2.1 pc = .ok (.ifCond .eq off, 3)) (ht : (pc : Int) + off = (tgt : Int)) (kt : x = 0 → rx_W V d kc ks M tgt L S h Q) (kf : ¬ x = 0 → rx_W V d kc ks M (pc + 3) L S h Q) : rx_W V d kc ks M pc L (.int x :: S) h Q :=
  fun p e R s m args below meth c H locs cells slots ls F G hl => lv_if_eq F.1 F.2.1 hd ht (fun q => kt q p e R s m args below meth c H locs cells slots ls F G hl) (fun q => kf q p e R s m args below meth c H locs cells slots ls F G hl)
theorem rx_icmp_eq {x y : Int32} {off : Int} {tgt : Nat} (hd : decode M.2.1 pc = .ok (.if_icmp .eq off, 3)) (ht : (pc : Int) + off = (tgt : Int)) (kt : x = y → rx_W V d kc ks M tgt L S h Q) (kf : ¬ x = y → rx_W V d kc ks M (pc + 3) L S h Q) : rx_W V d kc ks M pc L (.int y :: .int x :: S) h Q :=
  fun p e R s m args below meth c H locs cells slots ls F G hl => lv_icmp_eq F.1 F.2.1 hd ht (fun q => kt q p e R s m args below meth c H locs cells slots ls F G hl) (fun q => kf q p e R s m args below meth c H locs cells slots ls F G hl)
theorem rx_if_ne {x : Int32} {off : Int} {tgt : Nat} (hd : decode M.2.1 pc = .ok (.ifCond .ne off, 3)) (ht : (pc : Int) + off = (tgt : Int)) (kt : ¬ x = 0 → rx_W V d kc ks M tgt L S h Q) (kf : x = 0 → rx_W V d kc ks M (pc + 3) L S h Q) : rx_W V d kc ks M pc L (.int x :: S) h Q :=
  fun p e R s m args below meth c H locs cells slots ls F G hl => lv_if_ne F.1 F.2.1 hd ht (fun q => kt q p e R s m args below meth c H locs cells slots ls F G hl) (fun q => kf q p e R s m args below meth c H locs cells slots ls F G hl)
theorem rx_icmp_ne {x y : Int32} {off : Int} {tgt : Nat} (hd : decode M.2.1 pc = .ok (.if_icmp .ne off, 3)) (ht : (pc : Int) + off = (tgt : Int)) (kt : ¬ x = y → rx_W V d kc ks M tgt L S h Q) (kf : x = y → rx_W V d kc ks M (pc + 3) L S h Q) : rx_W V d kc ks M pc L (.int y :: .int x :: S) h Q :=
  fun p e R s m args below meth c H locs cells slots ls F G hl => lv_icmp_ne F.1 F.2.1 hd ht (fun q => kt q p e R s m args below meth c H locs cells slots ls F G hl) (fun q => kf q p e R s m args below meth c H locs cells slots ls F G hl)
theorem rx_if_lt {x : Int32} {off : Int} {tgt : Nat} (hd : decode M.2.1 pc = .ok (.ifCond .lt off, 3)) (ht : (pc : Int) + off = (tgt : Int)) (kt : x < 0 → rx_W V d kc ks M tgt L S h Q) (kf : ¬ x < 0 → rx_W V d kc ks M (pc + 3) L S h Q) : rx_W V d kc ks M pc L (.int x :: S) h Q :=
  fun p e R s m args below meth c H locs cells slots ls F G hl => lv_if_lt F.1 F.2.1 hd ht (fun q => kt q p e R s m args below meth c H locs cells slots ls F G hl) (fun q => kf q p e R s m args below meth c H locs cells slots ls F G hl)
theorem rx_icmp_lt {x y : Int32} {off : Int} {tgt : Nat} (hd : decode M.2.1 pc = .ok (.if_icmp .lt off, 3)) (ht : (pc : Int) + off = (tgt : Int)) (kt : x < y → rx_W V d kc ks M tgt L S h Q) (kf : ¬ x < y → rx_W V d kc ks M (pc + 3) L S h Q) : rx_W V d kc ks M pc L (.int y :: .int x :: S) h Q :=
  fun p e R s m args below meth c H locs cells slots ls F G hl => lv_icmp_lt F.1 F.2.1 hd ht (fun q => kt q p e R s m args below meth c H locs cells slots ls F G hl) (fun q => kf q p e R s m args below meth c H locs cells slots ls F G hl)
theorem rx_if_ge {x : Int32} {off : Int} {tgt : Nat} (hd : decode M.2.1 pc = .ok (.ifCond .ge off, 3)) (ht : (pc : Int) + off = (tgt : Int)) (kt : 0 ≤ x → rx_W V d kc ks M tgt L S h Q) (kf : ¬ 0 ≤ x → rx_W V d kc ks M (pc + 3) L S h Q) : rx_W V d kc ks M pc L (.int x :: S) h Q :=
  fun p e R s m args below meth c H locs cells slots ls F G hl => lv_if_ge F.1 F.2.1 hd ht (fun q => kt q p e R s m args below meth c H locs cells slots ls F G hl) (fun q => kf q p e R s m args below meth c H locs cells slots ls F G hl)
theorem rx_icmp_ge {x y : Int32} {off : Int} {tgt : Nat} (hd : decode M.2.1 pc = .ok (.if_icmp .ge off, 3)) (ht : (pc : Int) + off = (tgt : Int)) (kt : y ≤ x → rx_W V d kc ks M tgt L S h Q) (kf : ¬ y ≤ x → rx_W V d kc ks M (pc + 3) L S h Q) : rx_W V d kc ks M pc L (.int y :: .int x :: S) h Q :=
  fun p e R s m args below meth c H locs cells slots ls F G hl => lv_icmp_ge F.1 F.2.1 hd ht (fun q => kt q p e R s m args below meth c H locs cells slots ls F G hl) (fun q => kf q p e R s m args below meth c H locs cells slots ls F G hl)
theorem rx_if_gt {x : Int32} {off : Int} {tgt : Nat} (hd : decode M.2.1 pc = .ok (.ifCond .gt off, 3)) (ht : (pc : Int) + off = (tgt : Int)) (kt : 0 < x → rx_W V d kc ks M tgt L S h Q) (kf : ¬ 0 < x → rx_W V d kc ks M (pc + 3) L S h Q) : rx_W V d kc ks M pc L (.int x :: S) h Q :=
  fun p e R s m args below meth c H locs cells slots ls F G hl => lv_if_gt F.1 F.2.1 hd ht (fun q => kt q p e R s m args below meth c H locs cells slots ls F G hl) (fun q => kf q p e R s m args below meth c H locs cells slots ls F G hl)
theorem rx_icmp_gt {x y : Int32} {off : Int} {tgt : Nat} (hd : decode M.2.1 pc = .ok (.if_icmp .gt off, 3)) (ht : (pc : Int) + off = (tgt : Int)) (kt : y < x → rx_W V d kc ks M tgt L S h Q) (kf : ¬ y < x → rx_W V d kc ks M (pc + 3) L S h Q) : rx_W V d kc ks M pc L (.int y :: .int x :: S) h Q :=
  fun p e R s m args below meth c H locs cells slots ls F G hl => lv_icmp_gt F.1 F.2.1 hd ht (fun q => kt q p e R s m args below meth c H locs cells slots ls F G hl) (fun q => kf q p e R s m args below meth c H locs cells slots ls F G hl)
theorem rx_if_le {x : Int32} {off : Int} {tgt : Nat} (hd : decode M.2.1 pc = .ok (.ifCond .le off, 3)) (ht : (pc : Int) + off = (tgt : Int)) (kt : x ≤ 0 → rx_W V d kc ks M tgt L S h Q) (kf : ¬ x ≤ 0 → rx_W V d kc ks M (pc + 3) L S h Q) : rx_W V d kc ks M pc L (.int x :: S) h Q :=
  fun p e R s m args below meth c H locs cells slots ls F G hl => lv_if_le F.1 F.2.1 hd ht (fun q => kt q p e R s m args below meth c H locs cells slots ls F G hl) (fun q => kf q p e R s m args below meth c H locs cells slots ls F G hl)
theorem rx_icmp_le {x y : Int32} {off : Int} {tgt : Nat} (hd : decode M.2.1 pc = .ok (.if_icmp .le off, 3)) (ht : (pc : Int) + off = (tgt : Int)) (kt : x ≤ y → rx_W V d kc ks M tgt L S h Q) (kf : ¬ x ≤ y → rx_W V d kc ks M (pc + 3) L S h Q) : rx_W V d kc ks M pc L (.int y :: .int x :: S) h Q :=
  fun p e R s m args below meth c H locs cells slots ls F G hl => lv_icmp_le F.1 F.2.1 hd ht (fun q => kt q p e R s m args below meth c H locs cells slots ls F G hl) (fun q => kf q p e R s m args below meth c H locs cells slots ls F G hl)
theorem rx_acmp_eq {rx ry : Option Nat} {off : Int} {tgt : Nat} (hd : decode M.2.1 pc = .ok (.if_acmp .eq off, 3)) (ht : (pc : Int) + off = (tgt : Int)) (kt : rx = ry → rx_W V d kc ks M tgt L S h Q) (kf : ¬ rx = ry → rx_W V d kc ks M (pc + 3) L S h Q) : rx_W V d kc ks M pc L (va_rf ry :: va_rf rx :: S) h Q :=
  fun p e R s m args below meth c H locs cells slots ls F G hl => lv_acmp_eq F.1 F.2.1 hd ht (fun q => kt q p e R s m args below meth c H locs cells slots ls F G hl) (fun q => kf q p e R s m args below meth c H locs cells slots ls F G hl)
theorem rx_acmp_ne {rx ry : Option Nat} {off : Int} {tgt : Nat} (hd : decode M.2.1 pc = .ok (.if_acmp .ne off, 3)) (ht : (pc : Int) + off = (tgt : Int)) (kt : ¬ rx = ry → rx_W V d kc ks M tgt L S h Q) (kf : rx = ry → rx_W V d kc ks M (pc + 3) L S h Q) : rx_W V d kc ks M pc L (va_rf ry :: va_rf rx :: S) h Q :=
  fun p e R s m args below meth c H locs cells slots ls F G hl => lv_acmp_ne F.1 F.2.1 hd ht (fun q => kt q p e R s m args below meth c H locs cells slots ls F G hl) (fun q => kf q p e R s m args below meth c H locs cells slots ls F G hl)
theorem rx_ifnull {x : Option Nat} {off : Int} {tgt : Nat} (hd : decode M.2.1 pc = .ok (.ifnull off, 3)) (ht : (pc : Int) + off = (tgt : Int)) (kt : x = none → rx_W V d kc ks M tgt L S h Q) (kf : ∀ a, x = some a → rx_W V d kc ks M (pc + 3) L S h Q) : rx_W V d kc ks M pc L (va_rf x :: S) h Q :=
  fun p e R s m args below meth c H locs cells slots ls F G hl => by
    cases x with
    | none => exact lv_ifnullN F.1 F.2.1 hd ht (kt rfl p e R s m args below meth c H locs cells slots ls F G hl)
    | some a => exact lv_ifnull F.1 F.2.1 hd (kf a rfl p e R s m args below meth c H locs cells slots ls F G hl)
theorem rx_ifnonnull {x : Option Nat} {off : Int} {tgt : Nat} (hd : decode M.2.1 pc = .ok (.ifnonnull off, 3)) (ht : (pc : Int) + off = (tgt : Int)) (kt : ∀ a, x = some a → rx_W V d kc ks M tgt L S h Q) (kf : x = none → rx_W V d kc ks M (pc + 3) L S h Q) : rx_W V d kc ks M pc L (va_rf x :: S) h Q :=
  fun p e R s m args below meth c H locs cells slots ls F G hl => by
    cases x with
    | none => exact lv_ifnonnullN F.1 F.2.1 hd (kf rfl p e R s m args below meth c H locs cells slots ls F G hl)
    | some a => exact lv_ifnonnull F.1 F.2.1 hd ht (kt a rfl p e R s m args below meth c H locs cells slots ls F G hl)
theorem rx_goto {off : Int} {tgt : Nat} (hd : decode M.2.1 pc = .ok (.goto off, 3)) (ht : (pc : Int) + off = (tgt : Int)) (k : rx_W V d kc ks M tgt L S h Q) : rx_W V d kc ks M pc L S h Q :=
  fun p e R s m args below meth c H locs cells slots ls F G hl => lv_goto F.1 F.2.1 hd ht (k p e R s m args below meth c H locs cells slots ls F G hl)
theorem rx_tableOut {dflt lo hi : Int} {offs : Array Int} {len : Nat} {x : Int32} {tgt : Nat} (hd : decode M.2.1 pc = .ok (.tableswitch dflt lo hi offs, len)) (hx : x.toInt < lo ∨ hi < x.toInt) (ht : (pc : Int) + dflt = (tgt : Int)) (k : rx_W V d kc ks M tgt L S h Q) : rx_W V d kc ks M pc L (.int x :: S) h Q :=
  fun p e R s m args below meth c H locs cells slots ls F G hl => lv_tableOut F.1 F.2.1 hd hx ht (k p e R s m args below meth c H locs cells slots ls F G hl)
theorem rx_tableIn {dflt lo hi : Int} {offs : Array Int} {len : Nat} {x : Int32} {off : Int} {tgt : Nat} (hd : decode M.2.1 pc = .ok (.tableswitch dflt lo hi offs, len)) (h1 : ¬ x.toInt < lo) (h2 : ¬ hi < x.toInt) (ho : offs[(x.toInt - lo).toNat]? = some off) (ht : (pc : Int) + off = (tgt : Int)) (k : rx_W V d kc ks M tgt L S h Q) : rx_W V d kc ks M pc L (.int x :: S) h Q :=
  fun p e R s m args below meth c H locs cells slots ls F G hl => lv_tableIn F.1 F.2.1 hd h1 h2 ho ht (k p e R s m args below meth c H locs cells slots ls F G hl)
end RX
end
section
/-! rows of the heap, and the ends -/
section RXH
variable {V : rx_V} {d kc ks : Nat} {M : rx_T} {pc : Nat} {L : rx_L} {S : List Value} {h : List va_E} {Q : rx_R → List va_E → Prop}
theorem rx_G_set {R : Room} {s : State} {H H1 : Heap} {locs : List Loc} {cells slots q : Nat} {e0 e : va_E} (k : Nat) (G : rx_G V kc ks R s h H locs cells slots) (hq : h[q]? = some e0) (hat : va_at V.2.2.1 rx_cl (V.2.1 + q, e) H1) (z1 : H1.size = H.size) (oq : ∀ x : Nat, x ≠ V.2.1 + q → H1[x]? = H[x]?) :
    rx_G V kc ks R s (h.set q e) H1 (locs ++ [⟨V.2.1 + q, k⟩]) cells slots := by
  refine ⟨by rw [z1, G.1, List.length_set], ?_, G.2.2.1.put z1 oq (Nat.le_add_right _ _), G.2.2.2⟩
  rw [← rx_ws_set]
  exact G.2.1.set (rx_ws_D V.2.1 h) (rx_ws_of hq) hat oq
theorem rx_G_push {R : Room} {s : State} {H H1 : Heap} {locs : List Loc} {cells slots n : Nat} {e : va_E} (G : rx_G V (kc + 1) (ks + n) R s h H locs cells slots) (hat : va_at V.2.2.1 rx_cl (V.2.1 + h.length, e) H1) (z1 : H1.size = H.size + 1) (o1 : ∀ x : Nat, x < H.size → H1[x]? = H[x]?) :
    rx_G V kc ks R s (h ++ [e]) H1 locs (cells + 1) (slots + n) := by
  have hk : ∀ (k : Nat) (x : Nat × va_E), (rx_ws V.2.1 h)[k]? = some x → H1[x.1]? = H[x.1]? := fun k x hx => o1 x.1 ((G.2.1 k x hx).lt)
  obtain ⟨g1, g2, g3, g4, g5, g6, g7, g8⟩ := G
  refine ⟨by rw [z1, g1, List.length_append]; rfl, ?_, ⟨Nat.le_trans g3.1 (by omega), fun x h1 h2 => (o1 x (Nat.lt_of_lt_of_le h1 g3.1)).trans (g3.2.1 x h1 h2), g3.2.2⟩, g4, g5, g6, by omega, by omega⟩
  rw [← rx_ws_push]
  refine (g2.kept hk).app (fun k x hx => ?_)
  have hz : k < 1 := (List.getElem?_eq_some_iff.mp hx).1
  rw [show k = 0 by omega] at hx
  cases hx
  exact hat
/-- a field of the class with the number ci, its k-th, under the pool's index -/
def rx_fl (own : String) (index ci k : Nat) : Prop := ∃ (C : String) (T : u_T) (N : Nat), rx_cl[ci]? = some (C, T, N) ∧ k < N ∧ (∀ w ∈ u_ws C T N, w ∈ rx_tbl) ∧ Cond.fieldLink own index (T k).1 (T k).2.1 (T k).2.2.1 ∈ rx_tbl
/-- .. and it may be written: the types, the names apart; a final field by its class's constructor alone -/
def rx_fw (M : rx_T) (index ci k : Nat) (ty : FieldType) : Prop := ∃ (C : String) (T : u_T) (N : Nat) (ty0 : Nat → FieldType), rx_cl[ci]? = some (C, T, N) ∧ k < N ∧ (∀ w ∈ u_ws C T N, w ∈ rx_tbl) ∧ Cond.fieldLink M.1.cls index (T k).1 (T k).2.1 (T k).2.2.1 ∈ rx_tbl ∧
  (∀ j, j < N → parseFieldDescriptor (T j).2.2.1 = some (ty0 j)) ∧ (∀ a, a < N → ∀ b, b < N → a ≠ b → (T a).2.1 ≠ (T b).2.1) ∧ parseFieldDescriptor (T k).2.2.1 = some ty ∧ ((T k).2.2.2 = false ∨ ((T k).2.2.2 = true ∧ M.1.name = "<init>" ∧ (T k).1 = M.1.cls))
theorem rx_getfield {a ci index k : Nat} {fs : List Value} {v : Value} (hd : decode M.2.1 pc = .ok (.getfield index, 3)) (hF : rx_fl M.1.cls index ci k) (he : rx_rd V h a = some (.inr (ci, fs))) (hv : fs[k]? = some v)
    (kk : rx_W V d kc ks M (pc + 3) L (v :: S) h Q) : rx_W V d kc ks M pc L (.ref a :: S) h Q := by
  intro p e R s m args below meth c H locs cells slots ls F G hl
  obtain ⟨C, T, N, hc, hk, hin, hlk⟩ := hF
  obtain ⟨q, rfl, hq, -⟩ := rx_rd_at he
  exact va_get (D := V.2.2.1) F.1 F.2.1 F.2.2.2.2.2.2.1 hin F.2.2.2.2.2.1 G.2.2.2.1 G.2.1 q (rx_ws_of hq) hc k hk (F.2.2.2.2.2.2.1 _ hlk) (fun _ z => z) hv hd (kk p e R s m args below meth c H locs cells slots ls F G hl)
theorem rx_putfield {a ci index k : Nat} {fs : List Value} {v : Value} {ty : FieldType} (hd : decode M.2.1 pc = .ok (.putfield index, 3)) (hF : rx_fw M index ci k ty) (he : rx_rd V h a = some (.inr (ci, fs))) (hk' : k < fs.length) (hn : narrow ty v = v) (hfit : fits ty v = true)
    (kk : rx_W V d kc ks M (pc + 3) L S (rx_wr V h a (.inr (ci, fs.set k v))) Q) : rx_W V d kc ks M pc L (v :: .ref a :: S) h Q := by
  intro p e R s m args below meth c H locs cells slots ls F G hl
  obtain ⟨C, T, N, ty0, hc, hk, hin, hlk, hty, hnm, hpd, hfin⟩ := hF
  obtain ⟨q, rfl, hq, hqe⟩ := rx_rd_at he
  rw [rx_wr_in] at kk
  obtain ⟨r, h1, cell, q1, q2, q3, q4⟩ := G.2.1 q _ (rx_ws_of hq)
  have hr : r = (C, T, N) := Option.some.inj (h1.symm.trans hc)
  subst hr
  have hts := F.2.2.2.2.2.2.1
  have hown := F.2.2.2.2.2.1
  have hap := va_apart (own := M.1.cls) hts hin ty0 hty hnm G.2.2.2.1 hc
  obtain ⟨hS, hfc, kC, hkC, hkind⟩ := G.2.2.2.1.1 ci _ hc
  obtain ⟨cf, kf, fi, f, hi, hsl⟩ := hS k hk
  have hlay := hts _ (hin _ (u_in_lay hk))
  unfold u_lay at hlay
  have hst := (u_facts hfc hkC (u_lays hts hin hk) hi).1
  have hat : ∀ H' : Heap, H'[V.2.1 + q]? = some (cell.setSlot (V.2.2.1.2 ci k) v) → va_at V.2.2.1 rx_cl (V.2.1 + q, .inr (ci, fs.set k v)) H' := fun H' e1 =>
    ⟨_, hc, t_OB.to (V := updV (vp_V fs) k v) ⟨_, e1, q2, q3, t_set q4 hap hk v⟩ (fun j _ => vp_updV_set hk' v j)⟩
  rcases hfin with hfin | ⟨hfin, hin2, hdecl⟩
  · rw [if_neg (by rw [hfin]; decide)] at hlay
    have h6 := u_store hfc hkC hkind hlay hi hpd hn hfit
    refine W.putK F.1 F.2.1 (f := f) ⟨hown, hts _ hlk, ⟨_, _, _, hi⟩, hst⟩ (by rw [q2]; exact h6) q1 q3 (by rw [hsl]; exact k2_hasslot (q4 k hk)) rfl rfl hd fun H' e1 e2 e3 => ?_
    rw [hsl] at e1 ⊢
    exact kk p e R s m args below meth c H' _ cells slots ls F (rx_G_set _ G hq (hat H' e1) e2 e3) hl
  · rw [if_pos hfin] at hlay
    have hcf : m.cls = cf := by
      obtain ⟨_, _, c', _, _, _, -, -, hf', -, -, -, hown2, -⟩ := Cond.laysFinal_spec hlay
      have e1 : c' = cf := by have := hi.symm.trans hf'; simp at this; exact this.1.symm
      rw [hdecl] at hown2
      rw [← e1]; exact Option.some.inj (hown.symm.trans hown2)
    have h6 := u_fits hfc hkC hkind (Or.inr hlay) hi hpd hn hfit
    refine W.putFinK F.1 F.2.1 hown (hts _ hlk) hi hst hcf (F.2.2.2.2.2.2.2.1.trans hin2) (by rw [q2]; exact h6) q1 q3 (by rw [hsl]; exact k2_hasslot (q4 k hk)) rfl rfl hd fun H' e1 e2 e3 => ?_
    rw [hsl] at e1 ⊢
    exact kk p e R s m args below meth c H' _ cells slots ls F (rx_G_set _ G hq (hat H' e1) e2 e3) hl
/-! arrays -/
theorem rx_iaload {a n : Nat} {f : Nat → Int32} {i : Int32} (hd : decode M.2.1 pc = .ok (.iaload, 1)) (ht : rx_ats[0]? = some .int) (he : rx_rd V h a = some (.inl (V.2.2.2.1 0, n, .inl f))) (hin : vp_in i n)
    (kk : rx_W V d kc ks M (pc + 1) L (.int (f i.toNatClampNeg) :: S) h Q) : rx_W V d kc ks M pc L (.int i :: .ref a :: S) h Q := by
  intro p e R s m args below meth c H locs cells slots ls F G hl
  obtain ⟨q, rfl, hq, -⟩ := rx_rd_at he
  exact va_iald (D := V.2.2.1) F.1 F.2.1 G.2.2.2.1 G.2.1 q 0 (rx_ws_of hq) (rx_tys_of ht) hin hd (kk p e R s m args below meth c H locs cells slots ls F G hl)
theorem rx_laload {a n : Nat} {f : Nat → Int64} {i : Int32} (hd : decode M.2.1 pc = .ok (.laload, 1)) (ht : rx_ats[1]? = some .long) (he : rx_rd V h a = some (.inl (V.2.2.2.1 1, n, .inr (.inl f)))) (hin : vp_in i n)
    (kk : rx_W V d kc ks M (pc + 1) L (.long (f i.toNatClampNeg) :: S) h Q) : rx_W V d kc ks M pc L (.int i :: .ref a :: S) h Q := by
  intro p e R s m args below meth c H locs cells slots ls F G hl
  obtain ⟨q, rfl, hq, -⟩ := rx_rd_at he
  exact va_lald (D := V.2.2.1) F.1 F.2.1 G.2.2.2.1 G.2.1 q 1 (rx_ws_of hq) (rx_tys_of ht) hin hd (kk p e R s m args below meth c H locs cells slots ls F G hl)
theorem rx_zaload {a n : Nat} {f : Nat → Int32} {i : Int32} (hd : decode M.2.1 pc = .ok (.baload, 1)) (ht : rx_ats[2]? = some .boolean) (he : rx_rd V h a = some (.inl (V.2.2.2.1 2, n, .inl f))) (hin : vp_in i n)
    (kk : rx_W V d kc ks M (pc + 1) L (.int (f i.toNatClampNeg) :: S) h Q) : rx_W V d kc ks M pc L (.int i :: .ref a :: S) h Q := by
  intro p e R s m args below meth c H locs cells slots ls F G hl
  obtain ⟨q, rfl, hq, -⟩ := rx_rd_at he
  exact va_zald (D := V.2.2.1) F.1 F.2.1 G.2.2.2.1 G.2.1 q 2 (rx_ws_of hq) (rx_tys_of ht) hin hd (kk p e R s m args below meth c H locs cells slots ls F G hl)
theorem rx_aaload {a n t0 : Nat} {C : String} {f : Nat → Option Nat} {i : Int32} (hd : decode M.2.1 pc = .ok (.aaload, 1)) (ht : rx_ats[t0]? = some (.object C)) (he : rx_rd V h a = some (.inl (V.2.2.2.1 t0, n, .inr (.inr (.inr (.inr f)))))) (hin : vp_in i n)
    (kk : rx_W V d kc ks M (pc + 1) L (va_rf (f i.toNatClampNeg) :: S) h Q) : rx_W V d kc ks M pc L (.int i :: .ref a :: S) h Q := by
  intro p e R s m args below meth c H locs cells slots ls F G hl
  obtain ⟨q, rfl, hq, -⟩ := rx_rd_at he
  exact va_aldq (D := V.2.2.1) F.1 F.2.1 G.2.2.2.1 G.2.1 q t0 (rx_ws_of hq) (rx_tys_of ht) hin hd (kk p e R s m args below meth c H locs cells slots ls F G hl)
theorem rx_alen {a t0 : Nat} {x : vp_A} {ty : FieldType} (hd : decode M.2.1 pc = .ok (.arraylength, 1)) (ht : rx_ats[t0]? = some ty) (he : rx_rd V h a = some (.inl (V.2.2.2.1 t0, x)))
    (kk : rx_W V d kc ks M (pc + 1) L (.int (Int32.ofNat x.1) :: S) h Q) : rx_W V d kc ks M pc L (.ref a :: S) h Q := by
  intro p e R s m args below meth c H locs cells slots ls F G hl
  obtain ⟨q, rfl, hq, -⟩ := rx_rd_at he
  exact va_alen (D := V.2.2.1) F.1 F.2.1 G.2.2.2.1 G.2.1 q t0 (rx_ws_of hq) (rx_tys_of ht) rfl hd (kk p e R s m args below meth c H locs cells slots ls F G hl)
theorem rx_iastore {a n : Nat} {f : Nat → Int32} {i : Int32} {x : Int32} (hd : decode M.2.1 pc = .ok (.iastore, 1)) (ht : rx_ats[0]? = some .int) (he : rx_rd V h a = some (.inl (V.2.2.2.1 0, n, .inl (f)))) (hin : vp_in i n)
    (kk : rx_W V d kc ks M (pc + 1) L S (rx_wr V h a (.inl (V.2.2.2.1 0, n, .inl (upd f i.toNatClampNeg x)))) Q) : rx_W V d kc ks M pc L (.int x :: .int i :: .ref a :: S) h Q := by
  intro p e R s m args below meth c H locs cells slots ls F G hl
  obtain ⟨q, rfl, hq, -⟩ := rx_rd_at he
  rw [rx_wr_in] at kk
  refine W.iast F.1 F.2.1 (G.2.1 q _ (rx_ws_of hq)) ((G.2.2.2.1.2 0 _ (rx_tys_of ht)).1 n (fun j => .int (f j))) (fun q => by cases q) (by show ¬ (i < 0 ∨ (arrV _ _ _).slots.size ≤ _); rw [arrV_size]; exact hin) rfl rfl hd fun H1 e1 z oq => ?_
  refine kk p e R s m args below meth c H1 _ cells slots ls F (rx_G_set _ G hq ?_ z oq) hl
  show H1[V.2.1 + q]? = some (vp_cell _ _)
  rw [e1]
  rw [vp_cell_i, vp_cell_i, arrV_store]
  congr 2
  funext j
  by_cases hj : j = i.toNatClampNeg
  · subst hj
    simp [updV, upd]
    try rfl
  · simp [updV, upd, hj]
theorem rx_zastore {a n : Nat} {f : Nat → Int32} {i : Int32} {x : Int32} (hd : decode M.2.1 pc = .ok (.bastore, 1)) (ht : rx_ats[2]? = some .boolean) (he : rx_rd V h a = some (.inl (V.2.2.2.1 2, n, .inl (f)))) (hin : vp_in i n)
    (kk : rx_W V d kc ks M (pc + 1) L S (rx_wr V h a (.inl (V.2.2.2.1 2, n, .inl (upd f i.toNatClampNeg (vp_nar .boolean x))))) Q) : rx_W V d kc ks M pc L (.int x :: .int i :: .ref a :: S) h Q := by
  intro p e R s m args below meth c H locs cells slots ls F G hl
  obtain ⟨q, rfl, hq, -⟩ := rx_rd_at he
  rw [rx_wr_in] at kk
  refine W.zast F.1 F.2.1 (G.2.1 q _ (rx_ws_of hq)) ((G.2.2.2.1.2 2 _ (rx_tys_of ht)).1 n (fun j => .int (f j))) (fun q => by cases q) (by show ¬ (i < 0 ∨ (arrV _ _ _).slots.size ≤ _); rw [arrV_size]; exact hin) rfl rfl hd fun H1 e1 z oq => ?_
  refine kk p e R s m args below meth c H1 _ cells slots ls F (rx_G_set _ G hq ?_ z oq) hl
  show H1[V.2.1 + q]? = some (vp_cell _ _)
  rw [e1]
  rw [vp_cell_i, vp_cell_i, arrV_store]
  congr 2
  funext j
  by_cases hj : j = i.toNatClampNeg
  · subst hj
    simp [updV, upd, vp_nar]
    try rfl
  · simp [updV, upd, vp_nar, hj]
theorem rx_lastore {a n : Nat} {f : Nat → Int64} {i : Int32} {x : Int64} (hd : decode M.2.1 pc = .ok (.lastore, 1)) (ht : rx_ats[1]? = some .long) (he : rx_rd V h a = some (.inl (V.2.2.2.1 1, n, .inr (.inl (f))))) (hin : vp_in i n)
    (kk : rx_W V d kc ks M (pc + 1) L S (rx_wr V h a (.inl (V.2.2.2.1 1, n, .inr (.inl (vp_updL f i.toNatClampNeg x))))) Q) : rx_W V d kc ks M pc L (.long x :: .int i :: .ref a :: S) h Q := by
  intro p e R s m args below meth c H locs cells slots ls F G hl
  obtain ⟨q, rfl, hq, -⟩ := rx_rd_at he
  rw [rx_wr_in] at kk
  refine W.last F.1 F.2.1 (G.2.1 q _ (rx_ws_of hq)) ((G.2.2.2.1.2 1 _ (rx_tys_of ht)).1 n (fun j => .long (f j))) (fun q => by cases q) (by show ¬ (i < 0 ∨ (arrV _ _ _).slots.size ≤ _); rw [arrV_size]; exact hin) rfl rfl hd fun H1 e1 z oq => ?_
  refine kk p e R s m args below meth c H1 _ cells slots ls F (rx_G_set _ G hq ?_ z oq) hl
  show H1[V.2.1 + q]? = some (vp_cell _ _)
  rw [e1]
  rw [vp_cell_l, vp_cell_l, arrV_store]
  congr 2
  funext j
  by_cases hj : j = i.toNatClampNeg
  · subst hj
    simp [updV, vp_updL]
    try rfl
  · simp [updV, vp_updL, hj]
theorem rx_aastore {a n t0 v ci : Nat} {r : vw_C} {vs : List Value} {f : Nat → Option Nat} {i : Int32} (hd : decode M.2.1 pc = .ok (.aastore, 1)) (ht : rx_ats[t0]? = some (.object r.1)) (he : rx_rd V h a = some (.inl (V.2.2.2.1 t0, n, .inr (.inr (.inr (.inr f)))))) (hv : rx_rd V h v = some (.inr (ci, vs))) (hc : rx_cl[ci]? = some r) (hin : vp_in i n)
    (kk : rx_W V d kc ks M (pc + 1) L S (rx_wr V h a (.inl (V.2.2.2.1 t0, n, .inr (.inr (.inr (.inr (va_up f i.toNatClampNeg (some v)))))))) Q) : rx_W V d kc ks M pc L (.ref v :: .int i :: .ref a :: S) h Q := by
  intro p e R s m args below meth c H locs cells slots ls F G hl
  obtain ⟨q, rfl, hq, -⟩ := rx_rd_at he
  obtain ⟨qv, rfl, hqv, -⟩ := rx_rd_at hv
  rw [rx_wr_in] at kk
  have hlt : i.toNatClampNeg < n := Nat.not_le.mp fun q => hin (Or.inr q)
  have h0 : ¬ i < 0 := fun q => hin (Or.inl q)
  obtain ⟨r', hr', cellV, g1, g2, g3, -⟩ := G.2.1 qv _ (rx_ws_of hqv)
  have hcls := (G.2.2.2.1.1 ci r hc).2
  obtain ⟨kA, comp, k1, k2, k3, -⟩ := (G.2.2.2.1.2 t0 _ (rx_tys_of ht)).2
  have hcomp : comp = V.2.2.1.1 ci := Option.some.inj (k3.symm.trans hcls.1)
  subst hcomp
  obtain ⟨kC, hkC, -⟩ := hcls.2
  refine W.aast F.1 F.2.1 (G.2.1 q _ (rx_ws_of hq)) (fun q h => by cases h) (fun h => by cases h) k1 k2 rfl hkC ⟨h0, by show _ < (arrV _ _ _).slots.size; rw [arrV_size]; exact hlt⟩ g1 (fun q h => by rw [g3] at h; cases h) (by rw [g2]; exact hkC) (by rw [g2]; exact va_assign hcls) rfl rfl hd fun H1 e1 z oq => ?_
  refine kk p e R s m args below meth c H1 _ cells slots ls F (rx_G_set _ G hq ?_ z oq) hl
  show H1[V.2.1 + q]? = some (vp_cell _ _)
  rw [e1]
  rw [vp_cell_q, vp_cell_q, arrV_store]
  congr 2
  funext j
  by_cases hj : j = i.toNatClampNeg
  · subst hj
    simp [updV, va_up, va_rf]
  · simp [updV, va_up, hj]
theorem rx_aastoreN {a n t0 : Nat} {C : String} {f : Nat → Option Nat} {i : Int32} (hd : decode M.2.1 pc = .ok (.aastore, 1)) (ht : rx_ats[t0]? = some (.object C)) (he : rx_rd V h a = some (.inl (V.2.2.2.1 t0, n, .inr (.inr (.inr (.inr f)))))) (hin : vp_in i n)
    (kk : rx_W V d kc ks M (pc + 1) L S (rx_wr V h a (.inl (V.2.2.2.1 t0, n, .inr (.inr (.inr (.inr (va_up f i.toNatClampNeg none))))))) Q) : rx_W V d kc ks M pc L (.null :: .int i :: .ref a :: S) h Q := by
  intro p e R s m args below meth c H locs cells slots ls F G hl
  obtain ⟨q, rfl, hq, -⟩ := rx_rd_at he
  rw [rx_wr_in] at kk
  refine va_WaastN (C := C) F.1 F.2.1 (G.2.1 q _ (rx_ws_of hq)) ((G.2.2.2.1.2 t0 _ (rx_tys_of ht)).1 n (fun j => va_rf (f j))) (fun h => by cases h) (by show ¬ (i < 0 ∨ (arrV _ _ _).slots.size ≤ _); rw [arrV_size]; exact hin) rfl rfl hd fun H1 e1 z oq => ?_
  refine kk p e R s m args below meth c H1 _ cells slots ls F (rx_G_set _ G hq ?_ z oq) hl
  show H1[V.2.1 + q]? = some (vp_cell _ _)
  rw [e1]
  rw [vp_cell_q, vp_cell_q, arrV_store]
  congr 2
  funext j
  by_cases hj : j = i.toNatClampNeg
  · subst hj
    simp [updV, va_up, va_rf]
  · simp [updV, va_up, hj]
/-! making -/
theorem rx_new {index ci N : Nat} {C : String} {T : u_T} {fs : List Value} (ty : Nat → FieldType) (hd : decode M.2.1 pc = .ok (.new index, 3)) (hc : rx_cl[ci]? = some (C, T, N)) (hin : ∀ w ∈ u_ws C T N, w ∈ rx_tbl) (hty : ∀ k, k < N → parseFieldDescriptor (T k).2.2.1 = some (ty k))
    (w1 : Cond.classLink M.1.cls index C ∈ rx_tbl) (w2 : Cond.instantiable C N ∈ rx_tbl) (w3 : Cond.initialized C ∈ rx_tbl) (hfs : ∀ j, j < N → defaultValue (ty j) = vp_V fs j)
    (kk : rx_W V d kc ks M (pc + 3) L (.ref (V.2.1 + h.length) :: S) (h ++ [.inr (ci, fs)]) Q) : rx_W V d (kc + 1) (ks + N) M pc L S h Q := by
  intro p e R s m args below meth c H locs cells slots ls F G hl
  have hts := F.2.2.2.2.2.2.1
  have hKn := G.2.2.2.1.1 ci _ hc
  have hG := G
  obtain ⟨g1, -, -, -, -, -, g7, g8⟩ := hG
  refine W.newcK F.1 F.2.1 F.2.2.2.2.2.1 (hts _ w1) (hts _ w2) (hts _ w3) rfl hd (by omega) (by omega) hKn.2.1 g1 fun H1 kC hkC e1 z1 o1 => ?_
  rw [show cells + (kc + 1) = cells + 1 + kc by omega, show slots + (ks + N) = slots + N + ks by omega]
  refine kk p e R s m args below meth c H1 locs (cells + 1) (slots + N) ls F (rx_G_push G ?_ (by rw [z1, g1]) (fun x hx => o1 x (by rw [← g1]; exact hx))) hl
  exact ⟨_, hc, (u_born ty hts hin hKn hkC e1 hty).to hfs⟩
theorem rx_newarray {t0 : Nat} {atype : ArrayType} {ty : FieldType} {n : Int32} {N : Nat} {a0 : vp_A} (hd : decode M.2.1 pc = .ok (.newarray atype, 2)) (ht : rx_ats[t0]? = some ty) (hty : newarray.typeOf atype = ty) (w1 : Cond.arrayClass ty ∈ rx_tbl) (hnm : ∀ (U : State) (cA : ClassId), va_RA U cA ty → U.vm.findClass ("[" ++ ty.toString) = some cA)
    (ha : ∀ cA : ClassId, vp_cell cA a0 = arrV cA N (fun _ => defaultValue ty)) (hn : ¬ n < 0) (hN : n.toNatClampNeg = N) (hbytes : N * componentBytes ty ≤ 536870912)
    (kk : rx_W V d kc ks M (pc + 2) L (.ref (V.2.1 + h.length) :: S) (h ++ [.inl (V.2.2.2.1 t0, a0)]) Q) : rx_W V d (kc + 1) (ks + N) M pc L (.int n :: S) h Q := by
  intro p e R s m args below meth c H locs cells slots ls F G hl
  have hts := F.2.2.2.2.2.2.1
  subst hty
  have hRA := (G.2.2.2.1.2 t0 _ (rx_tys_of ht)).2
  have hG := G
  obtain ⟨g1, -, -, -, -, -, g7, g8⟩ := hG
  refine va_newaK F.1 F.2.1 (hts _ w1) rfl hd rfl hn hN hbytes (by omega) (by omega) g1 fun H1 cA e1 z1 o1 hAr hNm => ?_
  have hcA : cA = V.2.2.2.1 t0 := Option.some.inj (hNm.symm.trans (hnm s _ hRA))
  subst hcA
  rw [show cells + (kc + 1) = cells + 1 + kc by omega, show slots + (ks + N) = slots + N + ks by omega]
  refine kk p e R s m args below meth c H1 locs (cells + 1) (slots + N) ls F (rx_G_push G ?_ (by rw [z1, g1]) (fun x hx => o1 x (by rw [← g1]; exact hx))) hl
  show H1[V.2.1 + h.length]? = some (vp_cell _ _)
  rw [ha]
  exact e1
theorem rx_anewarray {t0 index : Nat} {C : String} {n : Int32} {N : Nat} (hd : decode M.2.1 pc = .ok (.anewarray index, 3)) (ht : rx_ats[t0]? = some (.object C)) (w1 : Cond.classLink M.1.cls index C ∈ rx_tbl) (w2 : Cond.arrayOver (.object C) ∈ rx_tbl) (hn : ¬ n < 0) (hN : n.toNatClampNeg = N) (hbytes : N * 4 ≤ 536870912)
    (kk : rx_W V d kc ks M (pc + 3) L (.ref (V.2.1 + h.length) :: S) (h ++ [.inl (V.2.2.2.1 t0, N, .inr (.inr (.inr (.inr (fun _ => none)))))]) Q) : rx_W V d (kc + 1) (ks + N) M pc L (.int n :: S) h Q := by
  intro p e R s m args below meth c H locs cells slots ls F G hl
  have hts := F.2.2.2.2.2.2.1
  have hRA := (G.2.2.2.1.2 t0 _ (rx_tys_of ht)).2
  have hG := G
  obtain ⟨g1, -, -, -, -, -, g7, g8⟩ := hG
  subst hN
  refine W.anew F.1 F.2.1 F.2.2.2.2.2.1 (hts _ w1) (hts _ w2) rfl hd rfl hn hbytes (by omega) (by omega) fun cA kA comp f1 f2 f3 f4 => ?_
  obtain ⟨kA', comp', -, -, -, hNm⟩ := hRA
  have hcA : cA = V.2.2.2.1 t0 := Option.some.inj (f1.symm.trans hNm)
  subst hcA
  generalize hH1 : H.push ({ cls := V.2.2.2.1 t0, slots := Array.replicate n.toNatClampNeg .null, vm := .none } : Cell) = H1
  have z1 : H1.size = H.size + 1 := by rw [← hH1, Array.size_push]
  have e1 : H1[H.size]? = some (arrV (V.2.2.2.1 t0) n.toNatClampNeg (fun _ => .null)) := by rw [← hH1, Array.getElem?_push_size, ← arrV_new]
  have o1 : ∀ q : Nat, q < H.size → H1[q]? = H[q]? := fun q hq => by rw [← hH1, Array.getElem?_push, if_neg (Nat.ne_of_lt hq)]
  rw [g1] at e1 ⊢
  rw [show cells + (kc + 1) = cells + 1 + kc by omega, show slots + (ks + n.toNatClampNeg) = slots + n.toNatClampNeg + ks by omega]
  refine kk p e R s m args below meth c H1 locs (cells + 1) (slots + n.toNatClampNeg) ls F (rx_G_push G ?_ z1 o1) hl
  show H1[V.2.1 + h.length]? = some (vp_cell _ _)
  rw [vp_cell_q]
  exact e1
/-! the ends -/
theorem rx_end {r : rx_R} (hq : Q r h) {R : Room} {s : State} {H : Heap} {locs : List Loc} {cells slots : Nat} (G : rx_G V kc ks R s h H locs cells slots) {v : Option Value} (hr : r = .inl v) (t : State) (ht : t.heap = H) : rx_O V s Q (.returned v) t := by
  subst hr
  exact ⟨.inl v, h, hq, by rw [ht]; exact G.1, by rw [ht]; exact G.2.1, G.2.2.1.F ht, rfl⟩
theorem rx_mq {p : Program} {l : Launch} {e : Env} {R : Room} {s : State} {m : MethodId} {args : Array Value} {below : List Frame} {meth : Method} {c : Code} {H : Heap} {locs : List Loc} {cells slots kc ks : Nat} {g : JFrame}
    (w : W p l e R s m args below meth c H locs (cells + kc) (slots + ks) (MQ below (fun _ st o t => rx_O V st Q o t) args s (cells + kc) (slots + ks) (rx_A V)) g) : W p l e R s m args below meth c H locs cells slots (rx_Z V below s (cells + kc) (slots + ks) Q) g :=
  W.widen (Nat.le_add_right _ _) (Nat.le_add_right _ _) (rx_mono (fun t ⟨o, a, b, c1, L9, n1, n2⟩ => ⟨o, a, b, c1, L9, n1.2.1, n1.2.2, n2⟩) w)
theorem rx_ireturn {v : Int32} (hd : decode M.2.1 pc = .ok (.ireturn, 1)) (hr : M.2.2.2.1 = some .int) (hq : Q (.inl (some (.int v))) h) : rx_W V d kc ks M pc L [.int v] h Q :=
  fun p e R s m args below meth c H locs cells slots ls F G hl => rx_mq (W.iret F.1 F.2.1 (F.2.2.2.1.trans hr) (fun t ht _ => rx_end hq G rfl t ht) G.2.2.1.2.2 hd (hlocks := F.2.2.2.2.1))
theorem rx_zreturn {v : Int32} (hd : decode M.2.1 pc = .ok (.ireturn, 1)) (hr : M.2.2.2.1 = some .boolean) (hn : narrow .boolean (.int v) = .int v) (hq : Q (.inl (some (.int v))) h) : rx_W V d kc ks M pc L [.int v] h Q :=
  fun p e R s m args below meth c H locs cells slots ls F G hl => rx_mq (W.zret F.1 F.2.1 (F.2.2.2.1.trans hr) hn (fun t ht _ => rx_end hq G rfl t ht) G.2.2.1.2.2 hd (hlocks := F.2.2.2.2.1))
theorem rx_lreturn {v : Int64} (hd : decode M.2.1 pc = .ok (.lreturn, 1)) (hr : M.2.2.2.1 = some .long) (hq : Q (.inl (some (.long v))) h) : rx_W V d kc ks M pc L [.long v] h Q :=
  fun p e R s m args below meth c H locs cells slots ls F G hl => rx_mq (W.lret F.1 F.2.1 (F.2.2.2.1.trans hr) (fun t ht _ => rx_end hq G rfl t ht) G.2.2.1.2.2 hd (hlocks := F.2.2.2.2.1))
theorem rx_vreturn (hd : decode M.2.1 pc = .ok (.return_, 1)) (hr : M.2.2.2.1 = none) (hq : Q (.inl none) h) : rx_W V d kc ks M pc L [] h Q :=
  fun p e R s m args below meth c H locs cells slots ls F G hl => rx_mq (W.vret F.1 F.2.1 (F.2.2.2.1.trans hr) (fun t ht _ => rx_end hq G rfl t ht) G.2.2.1.2.2 hd (hlocks := F.2.2.2.2.1))
theorem rx_areturn {x : Option Nat} {C : String} (hd : decode M.2.1 pc = .ok (.areturn, 1)) (hr : M.2.2.2.1 = some (.object C)) (hq : Q (.inl (some (va_rf x))) h) : rx_W V d kc ks M pc L [va_rf x] h Q :=
  fun p e R s m args below meth c H locs cells slots ls F G hl => rx_mq (W.aret F.1 F.2.1 (F.2.2.2.1.trans hr) (Or.inl ⟨_, rfl⟩) (by cases x with | none => exact Or.inl rfl | some a => exact Or.inr ⟨a, rfl⟩) (fun t ht _ => rx_end hq G rfl t ht) G.2.2.1.2.2 hd (hlocks := F.2.2.2.2.1))
/-- Object's own constructor -/
theorem rx_objInit {index a : Nat} (hd : decode M.2.1 pc = .ok (.invokespecial index, 3)) (w1 : Cond.methodLink M.1.cls index Lib.objectInit ∈ rx_tbl) (w2 : Cond.instanceMethod Lib.objectInit ∈ rx_tbl) (w3 : Cond.code Lib.objectInit ⟨#[0xb1]⟩ 1 none ∈ rx_tbl) (hw : (S.map fun v => v.category).sum ≤ 8)
    (kk : rx_W V (d + 1) kc ks M (pc + 3) L S h Q) : rx_W V (d + 1) kc ks M pc L (.ref a :: S) h Q := by
  intro p e R s m args below meth c H locs cells slots ls F G hl
  have hts := F.2.2.2.2.2.2.1
  have hd1 := F.2.2.2.2.2.2.2.2.1
  have hd2 := F.2.2.2.2.2.2.2.2.2.1
  refine W.objInit F.1 F.2.1 F.2.2.2.2.2.1 (hts _ w1) (hts _ w2) (hts _ w3) rfl (by rw [F.2.2.1]; exact hl.1) rfl hd (by omega) ?_ ?_
  · have := lv_room (m := m) (pc := pc) (ls := ls) (rest := .ref a :: S) (st := S) hw
    omega
  · exact kk p e R s m args below meth c H locs cells slots ls F G hl
end RXH
end
section
/-! contracts and calls -/
def rx_P (V : rx_V) (As : List Value) (h : List va_E) : Array Value → State → Prop := fun a U => a = As.toArray ∧ U.heap.size = V.2.1 + h.length ∧ va_P V.2.2.1 rx_cl (rx_ws V.2.1 h) U.heap ∧ va_K V.2.2.1 rx_cl (rx_tys V) U ∧ rx_E V U
def rx_rm (d kc ks : Nat) : Room := { frames := d, cells := kc, slots := ks, locals := 32 * d }
def rx_Met (V : rx_V) (d kc ks : Nat) (y : rx_T) (As : List Value) (h : List va_E) (Q : rx_R → List va_E → Prop) : Prop :=
  MetFree V.1 y.1 (headSpec rx_tbl (rx_rm d kc ks)) (rx_P V As h) (fun _ _ _ _ _ => True) (fun _ st o t => rx_O V st Q o t ∧ rx_N V st t kc ks)
/-- a method from its entry on -/
def rx_C (V : rx_V) (d kc ks : Nat) (y : rx_T) (As : List Value) (h : List va_E) (Q : rx_R → List va_E → Prop) : Prop := rx_W V d kc ks y 0 (rx_en y.2.2.1 As) [] h Q
theorem rx_met {V : rx_V} {d kc ks : Nat} {y : rx_T} {As : List Value} {h : List va_E} {Q : rx_R → List va_E → Prop} (hy : plainName y.1.cls = true) (hsl : (lg_sl As).length ≤ y.2.2.1) (hh : y.2.2.2.2 = []) (hw : Cond.code y.1 y.2.1 y.2.2.1 y.2.2.2.1 ∈ rx_tbl) (K : rx_C V d kc ks y As h Q) : rx_Met V d kc ks y As h Q := by
  refine MetFree.of_bodyS (code := y.2.1) (maxLocals := y.2.2.1) (ret := y.2.2.2.1) hy ?_ ?_
  · intro args s m hp hn
    obtain ⟨meth, c, h1, h2, h3, h4, h5, h6, -, -⟩ := Cond.code_spec hn (atoms_spec (ws := rx_tbl) hp _ hw)
    exact ⟨meth, c, h1, h2, h3, h4, h5, h6⟩
  · intro p e s m args below meth c s₁ B hml hP _
    obtain ⟨rfl, hsz, hPw, hK, hE⟩ := hP
    have hh0 : s₁.heap = s.heap := by rw [B.state]; rfl
    have hts := atoms_spec (ws := rx_tbl) B.pre
    have hne : c.exceptionTable.toList = [] := by
      have h9 := B.noHandlers (hts _ hw)
      cases h8 : c.exceptionTable.toList with
      | nil => rfl
      | cons x xs =>
        have h7 : c.exceptionTable.size = 0 := by simpa using h9
        have h6 : c.exceptionTable.toList.length = 0 := by rw [Array.length_toList]; exact h7
        rw [h8] at h6
        cases h6
    have F : rx_F d y p (headSpec rx_tbl (rx_rm d kc ks)).room s m As.toArray meth c :=
      ⟨B.exec, B.bytes, hml, B.returns, B.notSynchronized, findClass_of_methodNamed B.named, hts, (name_of_methodNamed B.named B.method).1, Nat.le_refl _, Nat.le_refl _, by rw [hne, hh]; rfl⟩
    have G : rx_G V kc ks (headSpec rx_tbl (rx_rm d kc ks)).room s h s.heap [] 0 0 :=
      ⟨hsz, hPw, va_S.rf, hK, hE, by rw [hsz]; exact Nat.le_add_right _ _, by rw [Nat.zero_add]; exact Nat.le_refl _, by rw [Nat.zero_add]; exact Nat.le_refl _⟩
    obtain ⟨t, a1, o, b1, b2, b3, b4⟩ := K p e _ s m As.toArray below meth c s.heap [] 0 0 _ F G (rx_entry hsl) s₁ hh0 (Stand.of_body B)
    rw [Nat.zero_add, Nat.zero_add] at b4
    refine ⟨t, o, ?_, b1, b2, b3, b4⟩
    rw [lg_entry_eq]
    exact a1
theorem rx_metW {V : rx_V} {d kc ks : Nat} {y : rx_T} {As : List Value} {h : List va_E} {Q : rx_R → List va_E → Prop} (hy : plainName y.1.cls = true) (hsl : (lg_sl As).length ≤ y.2.2.1) (hw : Cond.codeWith y.1 y.2.1 y.2.2.1 y.2.2.2.1 y.2.2.2.2 ∈ rx_tbl) (K : rx_C V d kc ks y As h Q) : rx_Met V d kc ks y As h Q := by
  refine MetFree.of_bodyS (code := y.2.1) (maxLocals := y.2.2.1) (ret := y.2.2.2.1) hy ?_ ?_
  · intro args s m hp hn
    obtain ⟨m9, meth, c, hn9, h1, h2, h3, h4, -, h5, h6, -⟩ := Cond.codeWith_spec (atoms_spec (ws := rx_tbl) hp _ hw)
    cases hn.symm.trans hn9
    exact ⟨meth, c, h1, h2, h3, h4, h5, h6⟩
  · intro p e s m args below meth c s₁ B hml hP _
    obtain ⟨rfl, hsz, hPw, hK, hE⟩ := hP
    have hh0 : s₁.heap = s.heap := by rw [B.state]; rfl
    have hts := atoms_spec (ws := rx_tbl) B.pre
    have hne : c.exceptionTable.toList.map (fun x => (x.startPc, x.endPc, x.handlerPc, x.catchType)) = y.2.2.2.2 := by
      obtain ⟨m9, meth9, c9, hn9, h1, h2, -, -, h5, -, -, -⟩ := Cond.codeWith_spec (hts _ hw)
      cases B.named.symm.trans hn9
      cases B.method.symm.trans h1
      cases (Stand.of_body B).code.symm.trans h2
      exact h5
    have F : rx_F d y p (headSpec rx_tbl (rx_rm d kc ks)).room s m As.toArray meth c :=
      ⟨B.exec, B.bytes, hml, B.returns, B.notSynchronized, findClass_of_methodNamed B.named, hts, (name_of_methodNamed B.named B.method).1, Nat.le_refl _, Nat.le_refl _, hne⟩
    have G : rx_G V kc ks (headSpec rx_tbl (rx_rm d kc ks)).room s h s.heap [] 0 0 :=
      ⟨hsz, hPw, va_S.rf, hK, hE, by rw [hsz]; exact Nat.le_add_right _ _, by rw [Nat.zero_add]; exact Nat.le_refl _, by rw [Nat.zero_add]; exact Nat.le_refl _⟩
    obtain ⟨t, a1, o, b1, b2, b3, b4⟩ := K p e _ s m As.toArray below meth c s.heap [] 0 0 _ F G (rx_entry hsl) s₁ hh0 (Stand.of_body B)
    rw [Nat.zero_add, Nat.zero_add] at b4
    refine ⟨t, o, ?_, b1, b2, b3, b4⟩
    rw [lg_entry_eq]
    exact a1
section RXB
variable {V : rx_V} {p : Program} {e : Env} {R : Room} {s : State} {m : MethodId} {args : Array Value} {below : List Frame} {meth : Method} {c : Code} {T : State} {locs : List Loc} {cells slots : Nat}
/-- the callee comes back, with its answer, or with an exception over the caller's frame -/
theorem rx_back {d mc ms : Nat} {y : rx_T} {As : List Value} {h : List va_E} {Q1 : rx_R → List va_E → Prop} (hM : rx_Met V d mc ms y As h Q1)
    (X : Stand p V.1 e R s m args below meth c T locs cells slots) {g : JFrame} {ig : Instr} {len : Nat} {mk : MethodId} (hg : g.method = m) (hsize : g.locals.size = c.maxLocals) (hdg : decode c.code g.pc = .ok (ig, len)) (hW : 2 * g.monitorRoom + (g.stack.map fun v => v.category).sum ≤ 8)
    (hn : T.methodNamed? y.1 = some mk) (hfr : d + 1 ≤ R.frames) (hlo : 8 + (y.2.2.1 + 11) + 32 * d ≤ R.locals) (hws : ∀ w ∈ rx_tbl, w.before As.toArray T = true)
    (hcode : Cond.code y.1 y.2.1 y.2.2.1 y.2.2.2.1 ∈ rx_tbl ∨ Cond.codeWith y.1 y.2.1 y.2.2.1 y.2.2.2.1 y.2.2.2.2 ∈ rx_tbl) (hinit : (Cond.initialized y.1.cls).before As.toArray T = true) (hc : cells + mc ≤ R.cells) (hs : slots + ms ≤ R.slots)
    (hP : rx_P V As h As.toArray (T.calling g mk As.toArray)) :
    ∃ (o : Outcome) (t T' : State) (L : List Loc), Stand p V.1 e R s m args below meth c T' (locs ++ L) (cells + mc) (slots + ms) ∧ (∀ q ∈ L, rx_A V q.base) ∧ T'.heap = t.heap ∧ T'.vm = t.vm ∧ rx_O V (T.calling g mk As.toArray) Q1 o t ∧
      (∀ v, o = .returned v → Steps p.tables e below (doInvoke e (T.setTop g) [] mk As.toArray).1 (T'.setTop { g with pc := g.pc + len, stack := v.toList ++ g.stack })) ∧
      (∀ q, o = .threw q → Steps p.tables e below (doInvoke e (T.setTop g) [] mk As.toArray).1 ((T'.setTop g).pushFrame (.throwing q))) := by
  obtain ⟨methY, cY, hmY, hcY, hlY⟩ : ∃ methY cY, T.vm.method? mk = some methY ∧ methY.code = some cY ∧ cY.maxLocals = y.2.2.1 := by
    rcases hcode with hcode | hcode
    · obtain ⟨methY, cY, hmY, hcY, -, hlY, -, -, -, -⟩ := Cond.code_spec hn (hws _ hcode)
      exact ⟨methY, cY, hmY, hcY, hlY⟩
    · obtain ⟨m9, methY, cY, hn9, hmY, hcY, -, hlY, -⟩ := Cond.codeWith_spec (hws _ hcode)
      cases hn.symm.trans hn9
      exact ⟨methY, cY, hmY, hcY, hlY⟩
  obtain ⟨kY, hkY, -⟩ := className_of_methodNamed hn
  have hinitY : kY.init = .initialized := Cond.initialized_spec (findClass_of_methodNamed hn) hkY hinit
  have hat : At T g.method c below := by rw [hg]; exact X.here
  have happ : (headSpec rx_tbl (rx_rm d mc ms)).appliesLoose y.1 e.platform (T.calling g mk As.toArray) = true :=
    Spec.appliesLoose_calling (g := g) hat hdg hn hkY hinitY
      (X.room_calling (g := g) (R' := (headSpec rx_tbl (rx_rm d mc ms)).room) hsize hmY hcY hfr (by rw [hlY]; show _ + _ + 32 * d ≤ _; omega) hc hs) (atoms_intro hws)
  obtain ⟨mid, hmid⟩ := hat.above
  have hfr9 : (T.setTop g).frames = (.java g :: mid) ++ below := by rw [State.frames_setTop' g hat.top, hmid]; rfl
  obtain ⟨o, t, hsteps, -, hend, hq⟩ := Steps.callFree hM p X.admits X.cas X.clock (acts := []) hfr9 happ hP trivial
  have hq' : rx_O V (T.calling g mk As.toArray) Q1 o t ∧ rx_N V (T.calling g mk As.toArray) t mc ms := hq
  obtain ⟨hO, L, hW₂, hsm, hL⟩ := hq'
  rw [State.frames_setTop' g hat.top] at hend
  obtain ⟨g₀, hg0⟩ := Option.isSome_iff_exists.mp hat.top
  obtain ⟨r, hr⟩ := State.topJava?_eq_some.mp hg0
  have hr' : (({ T with heap := t.heap, slotsUsed := t.slotsUsed } : State).setVm t.vm).frames = .java g₀ :: r := hr
  obtain ⟨e2, q2, q3, q4, q5, q6⟩ := id hsm
  have e3 : t = ({ (T.calling g mk As.toArray).setFrames t.frames with heap := t.heap, slotsUsed := t.slotsUsed } : State).setVm t.vm := by
    have h9 : t = ({ t with vm := (T.calling g mk As.toArray).vm } : State).setVm t.vm := rfl
    rw [e2] at h9
    exact h9
  have hW' : T.WarmedH t.vm := hW₂
  have hsame : T.sameButNew ({ T with heap := t.heap, slotsUsed := t.slotsUsed } : State) L mc ms := by
    refine ⟨?_, q2, q3, q4, q5, q6⟩
    obtain ⟨th, hth, -⟩ := State.frames_cons hr
    show ({ T with heap := t.heap, slotsUsed := t.slotsUsed } : State) = { T.setFrames T.frames with heap := t.heap, slotsUsed := t.slotsUsed }
    rw [State.setFrames_self hth]
  have X' : Stand p V.1 e R s m args below meth c (({ T with heap := t.heap, slotsUsed := t.slotsUsed } : State).setVm t.vm) (locs ++ L) (cells + mc) (slots + ms) :=
    ⟨X.admits, X.cas, X.clock, X.frames, X.room, X.hears, X.method, X.code, (X.here.setHeapUsed t.heap t.slotsUsed).setVm hW'.alike, X.tail, State.WarmedH.trans X.warmed hW', X.limits, X.bytes, X.same.trans (hsame.setVm s.vm)⟩
  refine ⟨o, t, _, L, X', hL, rfl, rfl, hO, fun v hv => ?_, fun q hv => ?_⟩
  · subst hv
    obtain ⟨c₂, i₂, len₂, hc₂, hd₂, hf₂⟩ := hend
    have hcc : c₂ = c := by
      have h1 : t.code? g.method = T.code? g.method := by
        rw [State.code?_eq, State.code?_eq, hW'.alike.method?]
      exact Option.some.inj (hc₂.symm.trans (h1.trans hat.code))
    subst hcc
    have hlen : len₂ = len := by rw [hdg] at hd₂; cases hd₂; rfl
    subst hlen
    have hs₂ : t = (({ T with heap := t.heap, slotsUsed := t.slotsUsed } : State).setVm t.vm).setTop { g with pc := g.pc + len₂, stack := v.toList ++ g.stack } := by
      refine e3.trans ?_
      rw [hf₂, State.calling_eq hat.top, State.setFrames_setFrames, State.setTop_of_frames _ hr', hr]
      rfl
    rw [← hs₂]
    exact hsteps
  · subst hv
    have hf₂ : t.frames = .throwing q :: .java g :: T.frames.tail := hend
    have hs₂ : t = ((({ T with heap := t.heap, slotsUsed := t.slotsUsed } : State).setVm t.vm).setTop g).pushFrame (.throwing q) := by
      refine e3.trans ?_
      rw [hf₂, State.calling_eq hat.top, State.setFrames_setFrames, State.pushFrame, State.frames_setTop _ hr', State.setTop_of_frames _ hr', State.setFrames_setFrames, hr]
      rfl
    rw [← hs₂]
    exact hsteps
end RXB
/-- an exception of the kind E lies over the frame at pc -/
def rx_Y (V : rx_V) (d kc ks : Nat) (M : rx_T) (pc : Nat) (L : rx_L) (h : List va_E) (Q : rx_R → List va_E → Prop) (E : Nat) : Prop :=
  ∀ (p : Program) (e : Env) (R : Room) (s : State) (m : MethodId) (args : Array Value) (below : List Frame) (meth : Method) (c : Code) (H : Heap) (locs : List Loc) (cells slots : Nat) (ls : Array Slot) (rest : List Value) (q : Nat) (ce : Cell),
    rx_F d M p R s m args meth c → rx_G V kc ks R s h H locs cells slots → rx_lv ls M.2.2.1 L → H[q]? = some ce → ce.vm = .none → s.vm.findClass (rx_exn E) = some ce.cls →
    ∀ T : State, T.heap = H → Stand p V.1 e R s m args below meth c T locs cells slots → ∃ t, Steps p.tables e below ((T.setTop (F0 m pc ls rest)).pushFrame (.throwing q)) t ∧ rx_Z V below s (cells + kc) (slots + ks) Q t
theorem rx_out {V : rx_V} {d kc ks : Nat} {M : rx_T} {pc : Nat} {L : rx_L} {h : List va_E} {Q : rx_R → List va_E → Prop} {E : Nat} (hh : M.2.2.2.2 = []) (hq : Q (.inr E) h) : rx_Y V d kc ks M pc L h Q E := by
  intro p e R s m args below meth c H locs cells slots ls rest q ce F G hl hce hcv hcl T hT X
  have hne : c.exceptionTable.toList = [] := by
    have h9 := F.2.2.2.2.2.2.2.2.2.2
    rw [hh] at h9
    exact List.map_eq_nil_iff.mp h9
  obtain ⟨st1, hrun, hend, hW, hsm⟩ := X.leaveThrown q (g := F0 m pc ls rest) rfl rfl rfl (by rw [hne]; intro x hx; cases hx) (hlocks := F.2.2.2.2.1)
  refine ⟨_, st1, .threw q, hrun, hend, ⟨.inr E, h, hq, ?_, ?_, G.2.2.1.F hT, q, ce, rfl, ?_, hcv, hcl⟩, locs, hW, hsm.mono (Nat.le_add_right _ _) (Nat.le_add_right _ _), G.2.2.1.2.2⟩
  · show T.heap.size = _
    rw [hT]; exact G.1
  · show va_P _ _ _ T.heap
    rw [hT]; exact G.2.1
  · show T.heap[q]? = _
    rw [hT]; exact hce
section RXK
variable {V : rx_V} {d kc ks mc ms : Nat} {M y : rx_T} {pc : Nat} {L : rx_L} {S Sr As : List Value} {h : List va_E} {Q Q1 : rx_R → List va_E → Prop} {index : Nat}
/-- what every call needs of the callee -/
def rx_cl9 (y : rx_T) (n k : Nat) : Prop := plainName y.1.cls = true ∧ (y.1.cls ≠ "java/lang/invoke/MethodHandle" ∧ y.1.cls ≠ "java/lang/invoke/VarHandle") ∧ (parseMethodDescriptor y.1.desc).map (fun t => t.parameters.length) = some n ∧ Cond.code y.1 y.2.1 y.2.2.1 y.2.2.2.1 ∈ rx_tbl ∧ Cond.initialized y.1.cls ∈ rx_tbl ∧ y.2.2.2.2 = [] ∧ k ≤ y.2.2.1 ∧ y.2.2.1 ≤ 13
theorem rx_pre {R : Room} {s : State} {H : Heap} {locs : List Loc} {cells slots : Nat} {T : State} {kc ks : Nat} (G : rx_G V kc ks R s h H locs cells slots) (hT : T.heap = H) (hW : s.WarmedH T.vm) (g : JFrame) (mk : MethodId) (As : List Value) : rx_P V As h As.toArray (T.calling g mk As.toArray) := by
  obtain ⟨g1, g2, g3, g4, g5, g6, -, -⟩ := G
  refine ⟨rfl, ?_, ?_, va_K.moved hW.alike g4, rx_E_moved (U := T.calling g mk As.toArray) hW ?_ (fun q hq => ?_) g5⟩
  · show T.heap.size = _
    rw [hT]; exact g1
  · show va_P _ _ _ T.heap
    rw [hT]; exact g2
  · show V.2.1 ≤ T.heap.size
    rw [hT, g1]; exact Nat.le_add_right _ _
  · show T.heap[q]? = _
    rw [hT]
    exact g3.2.1 q (Nat.lt_of_lt_of_le hq g6) (fun z => Nat.not_le.mpr hq z)
theorem rx_after {R : Room} {s : State} {H : Heap} {locs L9 : List Loc} {cells slots : Nat} {T' t st : State} {h1 : List va_E} (G : rx_G V (mc + kc) (ms + ks) R s h H locs cells slots) (hst : st.heap = H) (hz : t.heap.size = V.2.1 + h1.length) (hP : va_P V.2.2.1 rx_cl (rx_ws V.2.1 h1) t.heap) (hF : va_F (rx_A V) st t) (hL : ∀ q ∈ L9, rx_A V q.base) (ht : T'.heap = t.heap) :
    rx_G V kc ks R s h1 T'.heap (locs ++ L9) (cells + mc) (slots + ms) := by
  obtain ⟨g1, g2, g3, g4, g5, g6, g7, g8⟩ := G
  obtain ⟨f1, f2⟩ := hF
  rw [hst] at f1 f2
  rw [ht]
  refine ⟨hz, hP, ⟨Nat.le_trans g3.1 f1, fun q h1 h2 => (f2 q (Nat.lt_of_lt_of_le h1 g3.1) h2).trans (g3.2.1 q h1 h2), fun q hq => ?_⟩, g4, g5, g6, by omega, by omega⟩
  rcases List.mem_append.mp hq with hq | hq
  · exact g3.2.2 q hq
  · exact hL q hq
/-- the end of every call row -/
theorem rx_goonM {p : Program} {e : Env} {R : Room} {s : State} {m : MethodId} {args : Array Value} {below : List Frame} {meth : Method} {c : Code} {H : Heap} {locs : List Loc} {cells slots : Nat} {ls : Array Slot} {T : State} {vm₁ : Vm} {mk : MethodId} {ig : Instr} {Av : List Value}
    (F : rx_F (d + 1) M p R s m args meth c) (G : rx_G V (mc + kc) (ms + ks) R s h H locs cells slots) (hl : rx_lv ls M.2.2.1 L) (hT : T.heap = H) (c4 : Cond.code y.1 y.2.1 y.2.2.1 y.2.2.2.1 ∈ rx_tbl ∨ Cond.codeWith y.1 y.2.1 y.2.2.1 y.2.2.2.1 y.2.2.2.2 ∈ rx_tbl) (c5 : Cond.initialized y.1.cls ∈ rx_tbl) (c8 : y.2.2.1 ≤ 13) (hw8 : (Sr.map fun v => v.category).sum ≤ 8) (hd : decode M.2.1 pc = .ok (ig, 3))
    (hM : rx_Met V d mc ms y Av h Q1) (kx : ∀ E h1, Q1 (.inr E) h1 → rx_Y V (d + 1) kc ks M pc L h1 Q E) (k : ∀ v h1, Q1 (.inl v) h1 → rx_W V (d + 1) kc ks M (pc + 3) L (v.toList ++ Sr) h1 Q)
    (X₁ : Stand p V.1 e R s m args below meth c (T.setVm vm₁) locs cells slots) (hn : s.methodNamed? y.1 = some mk) :
    ∃ t, Steps p.tables e below (doInvoke e ((T.setVm vm₁).setTop (F0 m pc ls Sr)) [] mk Av.toArray).1 t ∧ rx_Z V below s (cells + (mc + kc)) (slots + (ms + ks)) Q t := by
  have hd1 := F.2.2.2.2.2.2.2.2.1
  have hd2 := F.2.2.2.2.2.2.2.2.2.1
  have hts := F.2.2.2.2.2.2.1
  obtain ⟨-, -, -, -, -, -, g7, g8⟩ := id G
  obtain ⟨o, t, T', L9, X', hL9, e1, e2, ⟨r, h1, hQ, hz, hP, hF, hr⟩, s1, s2⟩ := rx_back hM X₁ (g := F0 m pc ls Sr) (ig := ig) (len := 3) rfl (by rw [F.2.2.1]; exact hl.1) (by rw [F.2.1]; exact hd) (lv_room hw8) (X₁.named hn) hd1 (by omega)
    (fun w hw => rx_at X₁.warmed (rx_good hw) (hts w hw)) c4 (rx_at X₁.warmed (rx_good c5) (hts _ c5)) (by omega) (by omega) (rx_pre (T := T.setVm vm₁) G hT X₁.warmed _ _ _)
  have G1 := rx_after G (st := (T.setVm vm₁).calling (F0 m pc ls Sr) mk Av.toArray) hT hz hP hF hL9 e1
  rw [← Nat.add_assoc, ← Nat.add_assoc]
  cases r with
  | inl v =>
    obtain ⟨u, a1, b1⟩ := k v h1 hQ p e R s m args below meth c T'.heap (locs ++ L9) (cells + mc) (slots + ms) ls F G1 hl T' rfl X'
    exact ⟨u, (s1 v hr).trans a1, b1⟩
  | inr E =>
    obtain ⟨a, ce, ho, hce, hcv, hcls⟩ := hr
    have hcls' : s.vm.findClass (rx_exn E) = some ce.cls := by
      have h9 : (T.setVm vm₁).vm.findClass (rx_exn E) = some ce.cls := hcls
      rw [X₁.warmed.alike.findClass] at h9
      exact h9
    obtain ⟨u, a1, b1⟩ := kx E h1 hQ p e R s m args below meth c T'.heap (locs ++ L9) (cells + mc) (slots + ms) ls Sr a ce F G1 hl (by rw [e1]; exact hce) hcv hcls' T' rfl X'
    exact ⟨u, (s2 a ho).trans a1, b1⟩
theorem rx_goon {p : Program} {e : Env} {R : Room} {s : State} {m : MethodId} {args : Array Value} {below : List Frame} {meth : Method} {c : Code} {H : Heap} {locs : List Loc} {cells slots : Nat} {ls : Array Slot} {T : State} {vm₁ : Vm} {mk : MethodId} {ig : Instr} {Av : List Value}
    (F : rx_F (d + 1) M p R s m args meth c) (G : rx_G V (mc + kc) (ms + ks) R s h H locs cells slots) (hl : rx_lv ls M.2.2.1 L) (hT : T.heap = H) (hcl : rx_cl9 y As.length (lg_sl Av).length) (hw8 : (Sr.map fun v => v.category).sum ≤ 8) (hd : decode M.2.1 pc = .ok (ig, 3))
    (K : rx_C V d mc ms y Av h Q1) (kx : ∀ E h1, Q1 (.inr E) h1 → rx_Y V (d + 1) kc ks M pc L h1 Q E) (k : ∀ v h1, Q1 (.inl v) h1 → rx_W V (d + 1) kc ks M (pc + 3) L (v.toList ++ Sr) h1 Q)
    (X₁ : Stand p V.1 e R s m args below meth c (T.setVm vm₁) locs cells slots) (hn : s.methodNamed? y.1 = some mk) :
    ∃ t, Steps p.tables e below (doInvoke e ((T.setVm vm₁).setTop (F0 m pc ls Sr)) [] mk Av.toArray).1 t ∧ rx_Z V below s (cells + (mc + kc)) (slots + (ms + ks)) Q t :=
  rx_goonM F G hl hT (Or.inl hcl.2.2.2.1) hcl.2.2.2.2.1 hcl.2.2.2.2.2.2.2 hw8 hd (rx_met hcl.1 hcl.2.2.2.2.2.2.1 hcl.2.2.2.2.2.1 hcl.2.2.2.1 K) kx k X₁ hn
theorem rx_len {As : List Value} {n : Nat} {y : rx_T} (h : (parseMethodDescriptor y.1.desc).map (fun t => t.parameters.length) = some As.length) (sig : MethodDescriptor) (hs : parseMethodDescriptor y.1.desc = some sig) : As.length = sig.parameters.length := by
  rw [hs] at h
  exact (Option.some.inj h).symm
/-- invokevirtual on an object of the class with the number ci -/
theorem rx_callV {b ci : Nat} {fs : List Value} {r : vw_C} (hd : decode M.2.1 pc = .ok (.invokevirtual index, 3)) (hc : rx_cl[ci]? = some r) (w1 : Cond.methodLink M.1.cls index y.1 ∈ rx_tbl) (w2 : Cond.instanceMethod y.1 ∈ rx_tbl) (w3 : Cond.selects r.1 y.1 y.1 ∈ rx_tbl) (hcl : rx_cl9 y As.length (lg_sl (.ref b :: As)).length)
    (he : rx_rd V h b = some (.inr (ci, fs))) (hS : S = As.reverse ++ .ref b :: Sr) (hw8 : (Sr.map fun v => v.category).sum ≤ 8)
    (K : rx_C V d mc ms y (.ref b :: As) h Q1) (kx : ∀ E h1, Q1 (.inr E) h1 → rx_Y V (d + 1) kc ks M pc L h1 Q E) (k : ∀ v h1, Q1 (.inl v) h1 → rx_W V (d + 1) kc ks M (pc + 3) L (v.toList ++ Sr) h1 Q) : rx_W V (d + 1) (mc + kc) (ms + ks) M pc L S h Q := by
  intro p e R s m args below meth c H locs cells slots ls F G hl T hT X
  subst hS
  have hts := F.2.2.2.2.2.2.1
  obtain ⟨q, rfl, hq, -⟩ := rx_rd_at he
  obtain ⟨cellB, hcB, hoB, hclB⟩ := va_recv G.2.2.2.1 G.2.1 hc (rx_ws_of hq)
  obtain ⟨mk, methM, hnamed, hmethM, hstM, habM⟩ := Cond.instanceMethod_spec (hts _ w2)
  obtain ⟨methM', cM, hmethM', -, -, -, -, -, -, hsigM⟩ := Cond.code_spec hnamed (hts _ hcl.2.2.2.1)
  cases hmethM.symm.trans hmethM'
  obtain ⟨c2, r2, m2, q1, q2, q3, q4, kP, hkP, hkPi⟩ := Cond.selects_spec (hts _ w3)
  cases hclB.symm.trans q1
  cases (State.methodFound?_of_named hnamed hcl.2.1).symm.trans q2
  cases hnamed.symm.trans q3
  have hselP : selectMethod e.platform s.vm cellB.cls mk = .method mk := by rw [Launch.admits_selectMethod X.admits]; exact q4
  obtain ⟨vm₁, X₁, hstep₁⟩ := X.invokevirtual F.1 F.2.2.2.2.2.1 (hts _ w1) hnamed hmethM hstM hkP hkPi hcl.2.1 (a := V.2.1 + q) (cell := cellB) (by rw [hT]; exact hcB)
    (fun z h => by rw [h] at hoB; cases hoB) hselP hmethM habM hkP hkPi (g := F0 m pc ls (As.reverse ++ .ref (V.2.1 + q) :: Sr)) rfl (argsL := As) (rest := Sr) (rx_len (n := 0) hcl.2.2.1 _ hsigM) rfl (by rw [F.2.1]; exact hd)
  obtain ⟨t, a1, b1⟩ := rx_goon F G hl hT hcl hw8 hd K kx k X₁ hnamed
  exact ⟨t, hstep₁ _ fun acts => by rw [doInvoke_state]; exact a1, b1⟩
theorem rx_callS (hd : decode M.2.1 pc = .ok (.invokestatic index, 3)) (w1 : Cond.methodLink M.1.cls index y.1 ∈ rx_tbl) (w2 : Cond.static y.1 ∈ rx_tbl) (hcl : rx_cl9 y As.length (lg_sl As).length)
    (hS : S = As.reverse ++ Sr) (hw8 : (Sr.map fun v => v.category).sum ≤ 8)
    (K : rx_C V d mc ms y As h Q1) (kx : ∀ E h1, Q1 (.inr E) h1 → rx_Y V (d + 1) kc ks M pc L h1 Q E) (k : ∀ v h1, Q1 (.inl v) h1 → rx_W V (d + 1) kc ks M (pc + 3) L (v.toList ++ Sr) h1 Q) : rx_W V (d + 1) (mc + kc) (ms + ks) M pc L S h Q := by
  intro p e R s m args below meth c H locs cells slots ls F G hl T hT X
  subst hS
  have hts := F.2.2.2.2.2.2.1
  obtain ⟨mk, hnamed⟩ := Cond.code_named (hts _ hcl.2.2.2.1)
  obtain ⟨methM, cM, hmethM, -, -, -, -, -, -, hsigM⟩ := Cond.code_spec hnamed (hts _ hcl.2.2.2.1)
  have hstatic : methM.isStatic = true := Cond.static_spec hnamed hmethM (hts _ w2)
  obtain ⟨kP, hkP, -⟩ := className_of_methodNamed hnamed
  have hinitP : kP.init = .initialized := Cond.initialized_spec (findClass_of_methodNamed hnamed) hkP (hts _ hcl.2.2.2.2.1)
  obtain ⟨vm₁, X₁, hstep₁⟩ := X.invokestatic F.1 F.2.2.2.2.2.1 (hts _ w1) hnamed hmethM hstatic hkP hinitP hcl.2.1 (g := F0 m pc ls (As.reverse ++ Sr)) rfl (argsL := As) (rest := Sr) (rx_len (n := 0) hcl.2.2.1 _ hsigM) rfl (by rw [F.2.1]; exact hd)
  obtain ⟨t, a1, b1⟩ := rx_goon F G hl hT hcl hw8 hd K kx k X₁ hnamed
  exact ⟨t, hstep₁ _ fun acts => by rw [doInvoke_state]; exact a1, b1⟩
theorem rx_callSW (hd : decode M.2.1 pc = .ok (.invokestatic index, 3)) (w1 : Cond.methodLink M.1.cls index y.1 ∈ rx_tbl) (w2 : Cond.static y.1 ∈ rx_tbl) (w4 : Cond.codeWith y.1 y.2.1 y.2.2.1 y.2.2.2.1 y.2.2.2.2 ∈ rx_tbl) (w5 : Cond.initialized y.1.cls ∈ rx_tbl)
    (hy : plainName y.1.cls = true) (hy2 : y.1.cls ≠ "java/lang/invoke/MethodHandle" ∧ y.1.cls ≠ "java/lang/invoke/VarHandle") (hlen : (parseMethodDescriptor y.1.desc).map (fun t => t.parameters.length) = some As.length) (hsl : (lg_sl As).length ≤ y.2.2.1) (h13 : y.2.2.1 ≤ 13)
    (hS : S = As.reverse ++ Sr) (hw8 : (Sr.map fun v => v.category).sum ≤ 8)
    (K : rx_C V d mc ms y As h Q1) (kx : ∀ E h1, Q1 (.inr E) h1 → rx_Y V (d + 1) kc ks M pc L h1 Q E) (k : ∀ v h1, Q1 (.inl v) h1 → rx_W V (d + 1) kc ks M (pc + 3) L (v.toList ++ Sr) h1 Q) : rx_W V (d + 1) (mc + kc) (ms + ks) M pc L S h Q := by
  intro p e R s m args below meth c H locs cells slots ls F G hl T hT X
  subst hS
  have hts := F.2.2.2.2.2.2.1
  obtain ⟨mk, methM, cM, hnamed, hmethM, -, -, -, -, -, -, hsigM⟩ := Cond.codeWith_spec (hts _ w4)
  have hstatic : methM.isStatic = true := Cond.static_spec hnamed hmethM (hts _ w2)
  obtain ⟨kP, hkP, -⟩ := className_of_methodNamed hnamed
  have hinitP : kP.init = .initialized := Cond.initialized_spec (findClass_of_methodNamed hnamed) hkP (hts _ w5)
  obtain ⟨vm₁, X₁, hstep₁⟩ := X.invokestatic F.1 F.2.2.2.2.2.1 (hts _ w1) hnamed hmethM hstatic hkP hinitP hy2 (g := F0 m pc ls (As.reverse ++ Sr)) rfl (argsL := As) (rest := Sr) (rx_len (n := 0) hlen _ hsigM) rfl (by rw [F.2.1]; exact hd)
  obtain ⟨t, a1, b1⟩ := rx_goonM F G hl hT (Or.inr w4) w5 h13 hw8 hd (rx_metW hy hsl w4 K) kx k X₁ hnamed
  exact ⟨t, hstep₁ _ fun acts => by rw [doInvoke_state]; exact a1, b1⟩
theorem rx_callI {b : Nat} (hd : decode M.2.1 pc = .ok (.invokespecial index, 3)) (w1 : Cond.methodLink M.1.cls index y.1 ∈ rx_tbl) (w2 : Cond.instanceMethod y.1 ∈ rx_tbl) (hy1 : y.1.name = "<init>") (hret : y.2.2.2.1 = none) (hcl : rx_cl9 y As.length (lg_sl (.ref b :: As)).length)
    (hS : S = As.reverse ++ .ref b :: Sr) (hw8 : (Sr.map fun v => v.category).sum ≤ 8)
    (K : rx_C V d mc ms y (.ref b :: As) h Q1) (kx : ∀ E h1, Q1 (.inr E) h1 → rx_Y V (d + 1) kc ks M pc L h1 Q E) (k : ∀ v h1, Q1 (.inl v) h1 → rx_W V (d + 1) kc ks M (pc + 3) L (v.toList ++ Sr) h1 Q) : rx_W V (d + 1) (mc + kc) (ms + ks) M pc L S h Q := by
  intro p e R s m args below meth c H locs cells slots ls F G hl T hT X
  subst hS
  have hts := F.2.2.2.2.2.2.1
  have hpl : e.platform.magicAccessors = ({} : Platform).magicAccessors := by rw [X.admits.platform]
  have hcode := hts _ hcl.2.2.2.1
  rw [hret] at hcode
  obtain ⟨mk, methM, cM, kP, vm₁, hnamed, hmethM, hcodeM, -, hlocalsM, -, hkP, -, hW₁, hstep₁⟩ := Steps.initColdArgs (e := e) X.here F.1 X.warmed hpl F.2.2.2.2.2.1 hy1 hcl.2.1 (hts _ w1) (hts _ w2) hcode (f := F0 m pc ls (As.reverse ++ .ref b :: Sr)) rfl (rx_len (n := 0) hcl.2.2.1) rfl (by rw [F.2.1]; exact hd)
  obtain ⟨t, a1, b1⟩ := rx_goon F G hl hT hcl hw8 hd K kx k (X.noted hW₁) hnamed
  exact ⟨t, hstep₁ _ fun acts => by rw [doInvoke_state]; exact a1, b1⟩
theorem rx_callSN {host : String} (hd : decode M.2.1 pc = .ok (.invokestatic index, 3)) (w1 : Cond.methodLinkNest M.1.cls index y.1 host ∈ rx_tbl) (w2 : Cond.static y.1 ∈ rx_tbl) (hcl : rx_cl9 y As.length (lg_sl As).length)
    (hS : S = As.reverse ++ Sr) (hw8 : (Sr.map fun v => v.category).sum ≤ 8)
    (K : rx_C V d mc ms y As h Q1) (kx : ∀ E h1, Q1 (.inr E) h1 → rx_Y V (d + 1) kc ks M pc L h1 Q E) (k : ∀ v h1, Q1 (.inl v) h1 → rx_W V (d + 1) kc ks M (pc + 3) L (v.toList ++ Sr) h1 Q) : rx_W V (d + 1) (mc + kc) (ms + ks) M pc L S h Q := by
  intro p e R s m args below meth c H locs cells slots ls F G hl T hT X
  subst hS
  have hts := F.2.2.2.2.2.2.1
  obtain ⟨mk, hnamed⟩ := Cond.code_named (hts _ hcl.2.2.2.1)
  obtain ⟨methM, cM, hmethM, -, -, -, -, -, -, hsigM⟩ := Cond.code_spec hnamed (hts _ hcl.2.2.2.1)
  have hstatic : methM.isStatic = true := Cond.static_spec hnamed hmethM (hts _ w2)
  obtain ⟨kP, hkP, -⟩ := className_of_methodNamed hnamed
  have hinitP : kP.init = .initialized := Cond.initialized_spec (findClass_of_methodNamed hnamed) hkP (hts _ hcl.2.2.2.2.1)
  obtain ⟨vm₁, X₁, hstep₁⟩ := X.invokestaticNest F.1 F.2.2.2.2.2.1 (hts _ w1) hnamed hmethM hstatic hkP hinitP hcl.2.1 (g := F0 m pc ls (As.reverse ++ Sr)) rfl (argsL := As) (rest := Sr) (rx_len (n := 0) hcl.2.2.1 _ hsigM) rfl (by rw [F.2.1]; exact hd)
  obtain ⟨t, a1, b1⟩ := rx_goon F G hl hT hcl hw8 hd K kx k X₁ hnamed
  exact ⟨t, hstep₁ _ fun acts => by rw [doInvoke_state]; exact a1, b1⟩
theorem rx_callIN {b : Nat} {host : String} (hd : decode M.2.1 pc = .ok (.invokespecial index, 3)) (w1 : Cond.methodLinkNest M.1.cls index y.1 host ∈ rx_tbl) (w2 : Cond.instanceMethod y.1 ∈ rx_tbl) (hy1 : y.1.name = "<init>") (hret : y.2.2.2.1 = none) (hcl : rx_cl9 y As.length (lg_sl (.ref b :: As)).length)
    (hS : S = As.reverse ++ .ref b :: Sr) (hw8 : (Sr.map fun v => v.category).sum ≤ 8)
    (K : rx_C V d mc ms y (.ref b :: As) h Q1) (kx : ∀ E h1, Q1 (.inr E) h1 → rx_Y V (d + 1) kc ks M pc L h1 Q E) (k : ∀ v h1, Q1 (.inl v) h1 → rx_W V (d + 1) kc ks M (pc + 3) L (v.toList ++ Sr) h1 Q) : rx_W V (d + 1) (mc + kc) (ms + ks) M pc L S h Q := by
  intro p e R s m args below meth c H locs cells slots ls F G hl T hT X
  subst hS
  have hts := F.2.2.2.2.2.2.1
  have hpl : e.platform.magicAccessors = ({} : Platform).magicAccessors := by rw [X.admits.platform]
  have hcode := hts _ hcl.2.2.2.1
  rw [hret] at hcode
  obtain ⟨mk, methM, cM, kP, vm₁, hnamed, hmethM, hcodeM, -, hlocalsM, -, hkP, -, hW₁, hstep₁⟩ := Steps.initColdArgsNest (e := e) X.here F.1 X.warmed hpl F.2.2.2.2.2.1 hy1 hcl.2.1 (hts _ w1) (hts _ w2) hcode (f := F0 m pc ls (As.reverse ++ .ref b :: Sr)) rfl (rx_len (n := 0) hcl.2.2.1) rfl (by rw [F.2.1]; exact hd)
  obtain ⟨t, a1, b1⟩ := rx_goon F G hl hT hcl hw8 hd K kx k (X.noted hW₁) hnamed
  exact ⟨t, hstep₁ _ fun acts => by rw [doInvoke_state]; exact a1, b1⟩
end RXK
end
section
/-! rows of what lies outside: the script, the static arrays, long constants -/
section RXO
variable {V : rx_V} {d kc ks : Nat} {M : rx_T} {pc : Nat} {L : rx_L} {S : List Value} {h : List va_E} {Q : rx_R → List va_E → Prop}
theorem rx_ialoadX {a n : Nat} {f : Nat → Int32} {i : Int32} (hd : decode M.2.1 pc = .ok (.iaload, 1)) (hq : (a, n, f) ∈ V.2.2.2.2) (hin : vp_in i n)
    (kk : rx_W V d kc ks M (pc + 1) L (.int (f i.toNatClampNeg) :: S) h Q) : rx_W V d kc ks M pc L (.int i :: .ref a :: S) h Q := by
  intro p e R s m args below meth c H locs cells slots ls F G hl
  obtain ⟨h1, h2⟩ := G.2.2.2.2.1.1 _ hq
  exact va_sld F.1 F.2.1 h2 (Nat.lt_of_lt_of_le h1 G.2.2.2.2.2.1) (Nat.not_le.mpr h1) G.2.2.1 hin hd (kk p e R s m args below meth c H locs cells slots ls F G hl)
theorem rx_alenX {a n : Nat} {f : Nat → Int32} (hd : decode M.2.1 pc = .ok (.arraylength, 1)) (hq : (a, n, f) ∈ V.2.2.2.2)
    (kk : rx_W V d kc ks M (pc + 1) L (.int (Int32.ofNat n) :: S) h Q) : rx_W V d kc ks M pc L (.ref a :: S) h Q := by
  intro p e R s m args below meth c H locs cells slots ls F G hl
  obtain ⟨h1, h2⟩ := G.2.2.2.2.1.1 _ hq
  exact va_slen F.1 F.2.1 h2 (Nat.lt_of_lt_of_le h1 G.2.2.2.2.2.1) (Nat.not_le.mpr h1) G.2.2.1 hd (kk p e R s m args below meth c H locs cells slots ls F G hl)
theorem rx_least {q : Nat × Nat × (Nat → Int32)} {index : Nat} (hd : decode M.2.1 pc = .ok (.getstatic index, 3)) (hq : V.2.2.2.2[1]? = some q) (w1 : Cond.fieldLink M.1.cls index "ScoreRoads" "LEAST_VALUES" "[I" ∈ rx_tbl)
    (kk : rx_W V d kc ks M (pc + 3) L (.ref q.1 :: S) h Q) : rx_W V d kc ks M pc L S h Q := by
  intro p e R s m args below meth c H locs cells slots ls F G hl
  exact va_gets F.1 F.2.1 (G.2.2.2.2.1.2.2.1 q hq) G.2.2.1 F.2.2.2.2.2.1 (F.2.2.2.2.2.2.1 _ w1) (fun _ z => z) hd (kk p e R s m args below meth c H locs cells slots ls F G hl)
theorem rx_most {q : Nat × Nat × (Nat → Int32)} {index : Nat} (hd : decode M.2.1 pc = .ok (.getstatic index, 3)) (hq : V.2.2.2.2[2]? = some q) (w1 : Cond.fieldLink M.1.cls index "ScoreRoads" "MOST_VALUES" "[I" ∈ rx_tbl)
    (kk : rx_W V d kc ks M (pc + 3) L (.ref q.1 :: S) h Q) : rx_W V d kc ks M pc L S h Q := by
  intro p e R s m args below meth c H locs cells slots ls F G hl
  exact va_gets F.1 F.2.1 (G.2.2.2.2.1.2.2.2.1 q hq) G.2.2.1 F.2.2.2.2.2.1 (F.2.2.2.2.2.2.1 _ w1) (fun _ z => z) hd (kk p e R s m args below meth c H locs cells slots ls F G hl)
theorem rx_ldc2 {index : Nat} {v : Int64} (hd : decode M.2.1 pc = .ok (.ldc2_w index, 3)) (w1 : Cond.constantLong M.1.cls index v ∈ rx_tbl)
    (kk : rx_W V d kc ks M (pc + 3) L (.long v :: S) h Q) : rx_W V d kc ks M pc L S h Q := by
  intro p e R s m args below meth c H locs cells slots ls F G hl
  exact lv_ldc2 F.1 F.2.1 F.2.2.2.2.2.1 (F.2.2.2.2.2.2.1 _ w1) hd (kk p e R s m args below meth c H locs cells slots ls F G hl)
/-! exact ends -/
def rx_X (r0 : rx_R) (h0 : List va_E) : rx_R → List va_E → Prop := fun r h => r = r0 ∧ h = h0
variable {mc ms : Nat} {y : rx_T} {Sr As : List Value} {index : Nat} {v0 : Option Value} {h0 : List va_E}
theorem rx_exact {r0 : rx_R} (w : rx_W V d kc ks M pc L S h (rx_X r0 h0)) (hq : Q r0 h0) : rx_W V d kc ks M pc L S h Q := rx_cons w (fun r h' z => by obtain ⟨rfl, rfl⟩ := z; exact hq)
theorem rx_kx {v0 : Option Value} : ∀ E h1, rx_X (.inl v0) h0 (.inr E) h1 → rx_Y V (d + 1) kc ks M pc L h1 Q E := fun _ _ z => nomatch z.1
theorem rx_k1 {v0 : Option Value} (k : rx_W V (d + 1) kc ks M (pc + 3) L (v0.toList ++ Sr) h0 Q) : ∀ v h1, rx_X (.inl v0) h0 (.inl v) h1 → rx_W V (d + 1) kc ks M (pc + 3) L (v.toList ++ Sr) h1 Q := fun v h1 z => by
  obtain ⟨z1, rfl⟩ := z
  cases z1
  exact k
theorem rx_callV1 {b ci : Nat} {fs : List Value} {r : vw_C} (hd : decode M.2.1 pc = .ok (.invokevirtual index, 3)) (hc : rx_cl[ci]? = some r) (w1 : Cond.methodLink M.1.cls index y.1 ∈ rx_tbl) (w2 : Cond.instanceMethod y.1 ∈ rx_tbl) (w3 : Cond.selects r.1 y.1 y.1 ∈ rx_tbl) (hcl : rx_cl9 y As.length (lg_sl (.ref b :: As)).length)
    (he : rx_rd V h b = some (.inr (ci, fs))) (hS : S = As.reverse ++ .ref b :: Sr) (hw8 : (Sr.map fun v => v.category).sum ≤ 8) (K : rx_C V d mc ms y (.ref b :: As) h (rx_X (.inl v0) h0)) (k : rx_W V (d + 1) kc ks M (pc + 3) L (v0.toList ++ Sr) h0 Q) : rx_W V (d + 1) (mc + kc) (ms + ks) M pc L S h Q :=
  rx_callV hd hc w1 w2 w3 hcl he hS hw8 K rx_kx (rx_k1 k)
theorem rx_callS1 (hd : decode M.2.1 pc = .ok (.invokestatic index, 3)) (w1 : Cond.methodLink M.1.cls index y.1 ∈ rx_tbl) (w2 : Cond.static y.1 ∈ rx_tbl) (hcl : rx_cl9 y As.length (lg_sl As).length)
    (hS : S = As.reverse ++ Sr) (hw8 : (Sr.map fun v => v.category).sum ≤ 8) (K : rx_C V d mc ms y As h (rx_X (.inl v0) h0)) (k : rx_W V (d + 1) kc ks M (pc + 3) L (v0.toList ++ Sr) h0 Q) : rx_W V (d + 1) (mc + kc) (ms + ks) M pc L S h Q :=
  rx_callS hd w1 w2 hcl hS hw8 K rx_kx (rx_k1 k)
theorem rx_callSN1 {host : String} (hd : decode M.2.1 pc = .ok (.invokestatic index, 3)) (w1 : Cond.methodLinkNest M.1.cls index y.1 host ∈ rx_tbl) (w2 : Cond.static y.1 ∈ rx_tbl) (hcl : rx_cl9 y As.length (lg_sl As).length)
    (hS : S = As.reverse ++ Sr) (hw8 : (Sr.map fun v => v.category).sum ≤ 8) (K : rx_C V d mc ms y As h (rx_X (.inl v0) h0)) (k : rx_W V (d + 1) kc ks M (pc + 3) L (v0.toList ++ Sr) h0 Q) : rx_W V (d + 1) (mc + kc) (ms + ks) M pc L S h Q :=
  rx_callSN hd w1 w2 hcl hS hw8 K rx_kx (rx_k1 k)
theorem rx_callI1 {b : Nat} (hd : decode M.2.1 pc = .ok (.invokespecial index, 3)) (w1 : Cond.methodLink M.1.cls index y.1 ∈ rx_tbl) (w2 : Cond.instanceMethod y.1 ∈ rx_tbl) (hy1 : y.1.name = "<init>") (hret : y.2.2.2.1 = none) (hcl : rx_cl9 y As.length (lg_sl (.ref b :: As)).length)
    (hS : S = As.reverse ++ .ref b :: Sr) (hw8 : (Sr.map fun v => v.category).sum ≤ 8) (K : rx_C V d mc ms y (.ref b :: As) h (rx_X (.inl v0) h0)) (k : rx_W V (d + 1) kc ks M (pc + 3) L (v0.toList ++ Sr) h0 Q) : rx_W V (d + 1) (mc + kc) (ms + ks) M pc L S h Q :=
  rx_callI hd w1 w2 hy1 hret hcl hS hw8 K rx_kx (rx_k1 k)
theorem rx_callIN1 {b : Nat} {host : String} (hd : decode M.2.1 pc = .ok (.invokespecial index, 3)) (w1 : Cond.methodLinkNest M.1.cls index y.1 host ∈ rx_tbl) (w2 : Cond.instanceMethod y.1 ∈ rx_tbl) (hy1 : y.1.name = "<init>") (hret : y.2.2.2.1 = none) (hcl : rx_cl9 y As.length (lg_sl (.ref b :: As)).length)
    (hS : S = As.reverse ++ .ref b :: Sr) (hw8 : (Sr.map fun v => v.category).sum ≤ 8) (K : rx_C V d mc ms y (.ref b :: As) h (rx_X (.inl v0) h0)) (k : rx_W V (d + 1) kc ks M (pc + 3) L (v0.toList ++ Sr) h0 Q) : rx_W V (d + 1) (mc + kc) (ms + ks) M pc L S h Q :=
  rx_callIN hd w1 w2 hy1 hret hcl hS hw8 K rx_kx (rx_k1 k)
end RXO
end
section
/-! 'throw new E("text")' -/
theorem rx_isRef {C n d : String} {v : Value} {A : Nat → Prop} {s : State} {args : Array Value} (h : va_Z C n d v A s s.heap) (hv : v.isRef = true) : (Cond.isRef (.static C n d)).before args s = true := by
  obtain ⟨cf, kf, fi, f, a, cell, h1, h2, h3, h4, h5, h6, h7, -⟩ := h
  have he : (Term.static C n d).eval args s none [] s = some v := by
    simp [Term.eval, State.fieldNamed?, h1, h2, h4, h5, h6, h7]
  simp only [Cond.before, Cond.holds, Cond.value, he]
  cases v <;> simp_all [Value.isRef]
theorem rx_isRefq {C n d : String} {A : Nat → Prop} {s : State} {args : Array Value} (h : va_Zq C n d A s s.heap) : (Cond.isRef (.static C n d)).before args s = true := by
  rcases h with h | ⟨t, h⟩
  · exact rx_isRef h rfl
  · exact rx_isRef h rfl
/-- a Stand, seen anew from the state that it has come to -/
theorem rx_rebase {p : Program} {l : Launch} {e : Env} {R R' : Room} {s T : State} {m : MethodId} {args : Array Value} {below : List Frame} {meth : Method} {c : Code} {locs : List Loc} {cells slots : Nat}
    (X : Stand p l e R s m args below meth c T locs cells slots) (hf : R'.frames ≤ R.frames) (hl : R'.locals ≤ R.locals) (hc : cells + R'.cells ≤ R.cells) (hs : slots + R'.slots ≤ R.slots) :
    Stand p l e R' ((T.setVm s.vm).setFrames (.invoking m args :: below)) m args below meth c T [] 0 0 := by
  have htop : (T.setVm s.vm).topJava?.isSome := X.here.top
  have hF : ((T.setVm s.vm).setFrames (.invoking m args :: below)).frames = .invoking m args :: below := State.frames_setFrames _ (State.cur_lt_of_top htop)
  obtain ⟨g₀, hg0⟩ := Option.isSome_iff_exists.mp htop
  obtain ⟨r, hr⟩ := State.topJava?_eq_some.mp hg0
  obtain ⟨th, hth, -⟩ := State.frames_cons hr
  refine ⟨X.admits, X.cas, X.clock, hF, ?_, X.hears, X.method, X.code, X.here, X.tail, X.warmed, ?_, ?_, ?_⟩
  · have h := X.room
    have hU : ((T.setVm s.vm).setFrames (.invoking m args :: below)).localsInUse = s.localsInUse := by
      rw [State.localsInUse_invoking hF (meth := meth) (c := c) X.method X.code, State.localsInUse_invoking X.frames X.method X.code]
    have hlim : e.platform.stackLimits (T.setVm s.vm).me = e.platform.stackLimits s.me := X.limits
    have hbytes : (T.setVm s.vm).me.stackBytes = s.me.stackBytes := X.bytes
    have hz := X.heapSize
    have hu := X.used
    simp only [State.hasRoom, Bool.and_eq_true, decide_eq_true_eq] at h ⊢
    obtain ⟨⟨⟨⟨h1, h2, h3, h4, h5, h6⟩, h7⟩, h8⟩, h9⟩ := h
    rw [X.frames, List.length_cons] at h2 h3
    simp only [hF, hU, List.length_cons, State.stackLimits_setFrames, State.stackBytes_setFrames, hlim, hbytes]
    refine ⟨⟨⟨⟨by omega, by omega, by omega, by omega, by omega, h6⟩, ?_⟩, ?_⟩, X.book⟩
    · show T.heap.size + R'.cells ≤ e.platform.maxCells
      omega
    · show T.slotsUsed + R'.slots ≤ e.platform.maxSlots
      omega
  · rw [State.stackLimits_setFrames]; rfl
  · rw [State.stackBytes_setFrames]; rfl
  · have hdr : T.heap.toList.drop T.heap.size = [] := List.drop_eq_nil_of_le (Nat.le_of_eq Array.length_toList)
    refine ⟨?_, Nat.le_refl _, Nat.le_refl _, ?_, ?_, fun a c9 h9 => ⟨c9, h9, rfl, rfl, fun _ _ => rfl⟩⟩
    · show T.setVm s.vm = { ((T.setVm s.vm).setFrames (.invoking m args :: below)).setFrames (T.setVm s.vm).frames with heap := T.heap, slotsUsed := T.slotsUsed }
      rw [State.setFrames_setFrames, State.setFrames_self hth]
      rfl
    · show T.slotsUsed = T.slotsUsed + ((T.heap.toList.drop T.heap.size).map (·.slots.size)).sum
      rw [hdr]; rfl
    · show ((T.heap.toList.drop T.heap.size).map (·.slots.size)).sum ≤ 0
      rw [hdr]
      exact Nat.le_refl _
/-- the four words of a throw that speak of the heap -/
def rx_hw (w : Cond) : Bool := decide (w = .isRef (.static Bundle.tN "UNASSIGNED_STACK" Bundle.steD)) || decide (w = .isRef (.static Bundle.tN "SUPPRESSED_SENTINEL" Bundle.listD)) || decide (w = .laysStatic Bundle.tN "UNASSIGNED_STACK" Bundle.steD) || decide (w = .laysStatic Bundle.tN "SUPPRESSED_SENTINEL" Bundle.listD)
def rx_sup : List String := ["java/lang/RuntimeException", "java/lang/Exception"]
def rx_ic : Nat → Nat := fun k => match k with
  | 0 => 58
  | 1 => 69
  | _ => 225
def rx_okw (E : Nat) : Bool := (Bundle.ownAtoms "ScoreRoads" (rx_ic E) (rx_exn E) rx_sup).all (fun w => rx_hw w || (decide (w ∈ tables_1) && rx_gd w))
set_option maxRecDepth 100000 in
theorem rx_okw_0 : rx_okw 0 = true := by decide +kernel
set_option maxRecDepth 100000 in
theorem rx_okw_1 : rx_okw 1 = true := by decide +kernel
set_option maxRecDepth 100000 in
theorem rx_okw_2 : rx_okw 2 = true := by decide +kernel
theorem rx_ownw {V : rx_V} {E : Nat} {s : State} {args : Array Value} (hE : E < 3) (hts : ∀ w ∈ rx_tbl, w.before args s = true) (hx : rx_E V s) : ∀ w ∈ Bundle.ownAtoms "ScoreRoads" (rx_ic E) (rx_exn E) rx_sup, w.before args s = true := by
  intro w hw
  have hok : rx_okw E = true := by
    match E, hE with
    | 0, _ => exact rx_okw_0
    | 1, _ => exact rx_okw_1
    | 2, _ => exact rx_okw_2
  have h1 := List.all_eq_true.mp hok w hw
  simp only [Bool.or_eq_true, Bool.and_eq_true, decide_eq_true_eq] at h1
  obtain ⟨-, -, -, -, ⟨z1, l1⟩, ⟨z2, l2⟩, -⟩ := hx
  rcases h1 with h1 | ⟨h1, h2⟩
  · simp only [rx_hw, Bool.or_eq_true, decide_eq_true_eq] at h1
    rcases h1 with ((h1 | h1) | h1) | h1
    · rw [h1]; exact rx_isRefq z1
    · rw [h1]; exact rx_isRefq z2
    · rw [h1]; exact rx_Ls_word l1
    · rw [h1]; exact rx_Ls_word l2
  · exact hts _ (List.mem_filter.mpr ⟨List.mem_append_right _ h1, h2⟩)
theorem rx_fitx {E : Nat} (hE : E < 3) : Bundle.fit (rx_exn E) = true := by
  match E, hE with
  | 0, _ => decide +kernel
  | 1, _ => decide +kernel
  | 2, _ => decide +kernel
theorem rx_clx {E : Nat} (hE : E < 3) : rx_cl[9 + E]? = some (rx_exn E, F_none, 0) := by
  match E, hE with
  | 0, _ => rfl
  | 1, _ => rfl
  | 2, _ => rfl
theorem rx_inix {E : Nat} (hE : E < 3) : Cond.initialized (rx_exn E) ∈ rx_tbl := by
  match E, hE with
  | 0, _ => exact rx_in 13 (by decide +kernel) (by decide +kernel)
  | 1, _ => exact rx_in 15 (by decide +kernel) (by decide +kernel)
  | 2, _ => exact rx_in 19 (by decide +kernel) (by decide +kernel)
section RXT
variable {V : rx_V} {d kc ks : Nat} {M : rx_T} {pc : Nat} {L : rx_L} {S : List Value} {h : List va_E} {Q : rx_R → List va_E → Prop}
set_option maxHeartbeats 1000000 in
theorem rx_throw {E ik is : Nat} {text : String} (htr : V.1.stackTraces = false) (hM : M.1.cls = "ScoreRoads") (hh : M.2.2.2.2 = []) (hE : E < 3)
    (d0 : decode M.2.1 pc = .ok (.new ik, 3)) (d3 : decode M.2.1 (pc + 3) = .ok (.dup, 1)) (d4 : decode M.2.1 (pc + 4) = .ok (.ldc is, 2)) (d6 : decode M.2.1 (pc + 6) = .ok (.invokespecial (rx_ic E), 3)) (d9 : decode M.2.1 (pc + 9) = .ok (.athrow, 1))
    (w1 : Cond.classLink "ScoreRoads" ik (rx_exn E) ∈ rx_tbl) (hst : (is, text) ∈ rx_strs) (hw8 : (S.map fun v => v.category).sum ≤ 8)
    (hq : Q (.inr E) (h ++ [.inr (9 + E, [])])) : rx_W V (d + 6) (kc + 1) (ks + 6) M pc L S h Q := by
  intro p e R s m args below meth c H locs cells slots ls F G hl T hT X
  have hd1 := F.2.2.2.2.2.2.2.2.1
  have hd2 := F.2.2.2.2.2.2.2.2.2.1
  obtain ⟨g1, g2, g3, g4, g5, g6, g7, g8⟩ := id G
  have hne : c.exceptionTable.toList = [] := by
    have h9 := F.2.2.2.2.2.2.2.2.2.2
    rw [hh] at h9
    exact List.map_eq_nil_iff.mp h9
  have hout : ∀ x ∈ c.exceptionTable.toList, covers x (pc + 9) = false := by rw [hne]; intro x hx; cases hx
  have htr' : e.platform.stackTraces = false := (show e.platform.stackTraces = V.1.stackTraces by rw [X.admits.platform]).trans htr
  have Y := rx_rebase X (R' := { frames := R.frames, locals := R.locals, cells := 1, slots := 6 }) (Nat.le_refl _) (Nat.le_refl _) (show cells + 1 ≤ _ by omega) (show slots + 6 ≤ _ by omega)
  obtain ⟨s', hA⟩ : ∃ z, z = (T.setVm s.vm).setFrames (.invoking m args :: below) := ⟨_, rfl⟩
  rw [← hA] at Y
  have hvm : s'.vm = s.vm := by rw [hA]; rfl
  have hhp : s'.heap = H := by rw [hA]; exact hT
  have hW0 : s.WarmedH s'.vm := by rw [hvm]; exact State.WarmedH.refl s
  have hts' : ∀ w ∈ rx_tbl, w.before args s' = true := fun w hw => rx_at hW0 (rx_good hw) (F.2.2.2.2.2.2.1 w hw)
  have hx' : rx_E V s' := rx_E_moved hW0 (by rw [hhp, g1]; exact Nat.le_add_right _ _) (fun q hq => by rw [hhp]; exact g3.2.1 q (Nat.lt_of_lt_of_le hq g6) (fun z => Nat.not_le.mpr hq z)) g5
  have hat := rx_ownw hE hts' hx'
  have hown' : s'.vm.findClass "ScoreRoads" = some m.cls := by rw [hvm, ← hM]; exact F.2.2.2.2.2.1
  have hins : (Cond.instantiable (rx_exn E) 6).before args s' = true := hat _ (by simp [Bundle.ownAtoms])
  obtain ⟨vm₁, cX, kX, hfX, hkX, -, -, X₁, st1⟩ := Y.newCold F.1 (own := "ScoreRoads") (C := rx_exn E) (index := ik) (n := 6) hown' (hts' _ w1) hins (hts' _ (rx_inix hE))
    (g := F0 m pc ls S) rfl (by rw [F.2.1]; exact d0) (Nat.le_refl _) (Nat.le_refl _)
  generalize hT1 : (T.setVm vm₁).pushCell { cls := cX, slots := kX.instanceTypes.map defaultValue, vm := .none } = T1 at X₁ st1
  have hcat : (Value.ref T.heap.size).category = 1 := rfl
  have hcellA : T1.heap[T.heap.size]? = some (freshCell cX kX) := by rw [← hT1]; exact State.heap_pushCell_size _ _
  have d3' : decode c.code (pc + 3) = .ok (.dup, 1) := by rw [F.2.1]; exact d3
  have d4' : decode c.code (pc + 4) = .ok (.ldc is, 2) := by rw [F.2.1]; exact d4
  obtain ⟨sa, hstr⟩ := hx'.2.2.2.2.2.2.1 _ hst
  obtain ⟨U, hsteps, hrun, hend, hW, hsame, ce, hce, hO⟩ := X₁.ctorThrowS F.1 htr' (own := "ScoreRoads") (cls := rx_exn E) (names := rx_sup) (ic := rx_ic E) hown' (rx_fitx hE) (by decide +kernel) hat (fun x hx => nomatch hx) hfX hkX hcellA (by rw [hhp, hT]; exact Nat.le_refl _) (msg := .ref sa) rfl
    (g := { method := m, pc := pc + 6, locals := ls, stack := .ref sa :: .ref T.heap.size :: .ref T.heap.size :: S, locked := none }) rfl (by rw [F.2.2.1]; exact hl.1) rfl rfl (rest := S) rfl
    (by rw [F.2.1]; exact d6) (by rw [F.2.1]; exact d9) hout (by show 2 + 3 < R.frames; omega)
    (by
      have h9 := lv_room (m := m) (pc := pc + 6) (ls := ls) (rest := .ref sa :: .ref T.heap.size :: .ref T.heap.size :: S) (st := S) hw8
      show _ + _ + (13 * (2 + 1) + 42) ≤ R.locals
      simp only [List.map_cons, List.sum_cons, hcat]
      have h8 : 2 * ({ method := m, pc := pc + 6, locals := ls, stack := .ref sa :: .ref T.heap.size :: .ref T.heap.size :: S, locked := none } : JFrame).monitorRoom + (S.map fun v => v.category).sum ≤ 8 := h9
      omega) (hlocks := F.2.2.2.2.1)
  obtain ⟨e1, q2, q3, q4, q5, q6⟩ := id hsame
  have hz : H.size ≤ U.heap.size := by rw [← hhp]; exact q2
  have hz2 : U.heap.size ≤ H.size + 1 := by rw [← hhp]; exact q3
  have hz3 : T.heap.size < U.heap.size := (Array.getElem?_eq_some_iff.mp hce).1
  rw [hT] at hz3 hce
  have hold : ∀ q : Nat, q < H.size → U.heap[q]? = H[q]? := by
    intro q hq
    rw [← hhp] at hq ⊢
    obtain ⟨c9, f1, f2, f3, f4⟩ := q6 q _ (Array.getElem?_eq_getElem hq)
    have hs : c9.slots = (s'.heap[q]).slots := Array.ext_getElem? fun i => f4 i (fun z => nomatch z)
    have h9 : c9 = s'.heap[q] := by
      rw [hs] at f2
      exact f2
    have f5 : U.heap[q]? = some c9 := f1
    rw [f5, h9, Array.getElem?_eq_getElem hq]
  have hcl : s.vm.findClass (rx_exn E) = some ce.cls := by
    have h9 := hO.cls
    rw [hvm] at h9
    exact h9
  have hall : s.sameButNew ({ U with vm := s.vm } : State) locs (cells + (kc + 1)) (slots + (ks + 6)) := by
    subst hA
    obtain ⟨f1, f2⟩ := hsame
    rw [State.setFrames_setFrames] at f1
    have h2 : (T.setVm s.vm).sameButNew ({ U with vm := s.vm } : State) [] (0 + 1) (0 + 6) := ⟨f1, f2⟩
    have h3 := X.same.trans h2
    rw [List.append_nil] at h3
    exact h3.mono (by omega) (by omega)
  refine ⟨U, ?_, .threw T.heap.size, hrun, hend, ⟨.inr E, h ++ [.inr (9 + E, [])], hq, ?_, ?_, ?_, T.heap.size, ce, rfl, by rw [hT]; exact hce, hO.vm, hcl⟩, locs, State.WarmedH.trans hW0 hW, hall, g3.2.2⟩
  · refine st1 _ ?_
    show Steps p.tables e below (T1.setTop { method := m, pc := pc + 3, locals := ls, stack := .ref T.heap.size :: S, locked := none }) _
    jvm_step X₁.here [X₁.here.top, F.1, d3', Value.category]
    exact X₁.ldcString F.1 (own := "ScoreRoads") (text := text) (index := is) (a := sa) hown' hstr.1 hstr.2
      (g := { method := m, pc := pc + 4, locals := ls, stack := .ref T.heap.size :: .ref T.heap.size :: S, locked := none }) rfl d4' _ hsteps
  · rw [List.length_append]
    show _ = V.2.1 + (h.length + 1)
    omega
  · rw [← rx_ws_push]
    refine (g2.kept (fun k x hx => hold x.1 ((g2 k x hx).lt))).app (fun k x hx => ?_)
    have hz9 : k < 1 := (List.getElem?_eq_some_iff.mp hx).1
    rw [show k = 0 by omega] at hx
    cases hx
    refine ⟨_, rx_clx hE, ce, ?_, ?_, hO.vm, fun k hk => absurd hk (Nat.not_lt_zero _)⟩
    · rw [← g1]; exact hce
    · have h9 := (g4.1 (9 + E) _ (rx_clx hE)).2.1
      exact Option.some.inj (hcl.symm.trans h9)
  · refine ⟨Nat.le_trans g3.1 hz, fun q h1 h2 => (hold q (Nat.lt_of_lt_of_le h1 g3.1)).trans (g3.2.1 q h1 h2)⟩
end RXT
end
section
/-! an exception is caught by the method that it lies over: the catch types linked or not yet -/
theorem rx_goC {Q : Handler → Pre} {K : CtlPost} {e : Env} {d : Bool} {acts : List Action} {s : State} {f : JFrame} {a : Addr} {x : ExceptionTableEntry} {t : List ExceptionTableEntry} {c : ClassId} {cell : Cell} {b : Bool} (hx : covers x f.pc = true) (h0 : x.catchType ≠ 0)
    (hl : s.vm.ClassLinks e.platform f.method.cls x.catchType c) (hcell : s.heap[a]? = some cell) (hobj : ∀ k, cell.vm ≠ .statics k) (hk : ∃ k, s.vm.classes[cell.cls]? = some k) (hc : ∃ k, s.vm.classes[c]? = some k) (hb : s.vm.assignable cell.cls c = b) :
    wp (findHandler.go f a (x :: t)) Q K e d acts s ↔ (if b = true then Q (.found x.handlerPc) d acts (s.setVm (s.vm.noted f.method.cls x.catchType (.cls c))) else wp (findHandler.go f a t) Q K e d acts (s.setVm (s.vm.noted f.method.cls x.catchType (.cls c)))) := by
  simp only [covers] at hx
  obtain ⟨ha, ht⟩ := (resolveClass_links e.toSetting hl).op (op := VmOp.resolveClass f.method.cls x.catchType) rfl
  have hal : s.vm.Alike (s.vm.noted f.method.cls x.catchType (.cls c)) := (Vm.Alike.refl s.vm).noted _ _ _
  obtain ⟨k1, hk1⟩ := hk
  obtain ⟨k2, hk2⟩ := hc
  obtain ⟨k1', hk1', -⟩ := hal.2.2 _ _ hk1
  obtain ⟨k2', hk2', -⟩ := hal.2.2 _ _ hk2
  have hb' : (s.vm.noted f.method.cls x.catchType (.cls c)).assignable cell.cls c = b := by rw [hal.assignable]; exact hb
  cases b <;> simp [findHandler.go, hx, h0, ha, ht, hcell, hobj, hk1', hk2', hb', VmOp.dirties, VmOp.acts]
/-- a row that is passed, a row that catches -/
def rx_pas (pl : Platform) (s : State) (dc : ClassId) (pc : Nat) (th : ClassId) (y : ExceptionTableEntry) : Prop := covers y pc = false ∨ (y.catchType ≠ 0 ∧ ∃ c, s.vm.ClassLinks pl dc y.catchType c ∧ s.vm.assignable th c = false)
theorem rx_goT {e : Env} {s : State} {f : JFrame} {a : Addr} {cell : Cell} (hobj : ∀ k, cell.vm ≠ .statics k) (hk0 : ∃ k, s.vm.classes[cell.cls]? = some k) (x : ExceptionTableEntry) (rest : List ExceptionTableEntry) (hx : covers x f.pc = true) (h0 : x.catchType ≠ 0)
    {c : ClassId} (hl : s.vm.ClassLinks e.platform f.method.cls x.catchType c) (hfit : s.vm.assignable cell.cls c = true) :
    ∀ (pre : List ExceptionTableEntry) (T : State), s.WarmedH T.vm → T.heap[a]? = some cell → (∀ y ∈ pre, rx_pas e.platform s f.method.cls f.pc cell.cls y) →
      ∃ vm', s.WarmedH vm' ∧ ∀ (Q : Handler → Pre) (K : CtlPost) (d : Bool) (acts : List Action), wp (findHandler.go f a (pre ++ x :: rest)) Q K e d acts T ↔ Q (.found x.handlerPc) d acts (T.setVm vm') := by
  obtain ⟨k0, hk0⟩ := hk0
  intro pre
  induction pre with
  | nil =>
    intro T hW hcell _
    obtain ⟨k0', hk0', -⟩ := hW.alike.2.2 _ _ hk0
    obtain ⟨dk, _, _, kt, hd, _, _, _, _, hkt, _, hopen⟩ := hl.here
    obtain ⟨kt', hkt', -⟩ := hW.alike.2.2 _ _ hkt
    refine ⟨_, hW.noted hd hopen (State.rightAt_cls hl), fun Q K d acts => ?_⟩
    rw [List.nil_append, rx_goC (b := true) hx h0 (hW.classLinks hl) hcell hobj ⟨k0', hk0'⟩ ⟨kt', hkt'⟩ (by rw [hW.alike.assignable]; exact hfit), if_pos rfl]
  | cons y ys ih =>
    intro T hW hcell hpass
    obtain ⟨k0', hk0', -⟩ := hW.alike.2.2 _ _ hk0
    have hrest : ∀ z ∈ ys, rx_pas e.platform s f.method.cls f.pc cell.cls z := fun z hz => hpass z (List.mem_cons_of_mem _ hz)
    by_cases hcov : covers y f.pc = true
    · rcases hpass y List.mem_cons_self with h | ⟨hy0, cy, hly, hno⟩
      · rw [h] at hcov; cases hcov
      · obtain ⟨dk, _, _, kt, hd, _, _, _, _, hkt, _, hopen⟩ := hly.here
        obtain ⟨kt', hkt', -⟩ := hW.alike.2.2 _ _ hkt
        obtain ⟨vm', hW', hq⟩ := ih (T.setVm (T.vm.noted f.method.cls y.catchType (.cls cy))) (hW.noted hd hopen (State.rightAt_cls hly)) hcell hrest
        refine ⟨vm', hW', fun Q K d acts => ?_⟩
        rw [List.cons_append, rx_goC (b := false) hcov hy0 (hW.classLinks hly) hcell hobj ⟨k0', hk0'⟩ ⟨kt', hkt'⟩ (by rw [hW.alike.assignable]; exact hno), if_neg (by decide)]
        exact hq Q K d acts
    · obtain ⟨vm', hW', hq⟩ := ih T hW hcell hrest
      refine ⟨vm', hW', fun Q K d acts => ?_⟩
      rw [List.cons_append, W.findHandler_go_skip (by simpa using hcov)]
      exact hq Q K d acts
theorem rx_stepC {e : Env} {s : State} {a : Addr} {f : JFrame} {r : List Frame} {pc : Nat} {vm' : Vm} (hfind : ∀ (Q : Handler → Pre) (K : CtlPost) (d : Bool) (acts : List Action), wp (findHandler f a) Q K e d acts s ↔ Q (.found pc) d acts (s.setVm vm')) :
    (stepThrowing e s a (.java f :: r)).Is ((s.setVm vm').setFrames (.java { f with pc := pc, stack := [.ref a] } :: r)) [] := by
  simp only [stepThrowing, searchFrame, vmDo]
  generalize hr : Sem.go _ e false [] s = res
  obtain ⟨as, rfl, ha⟩ := Sem.eq_ok_of hr (a := Handler.found pc) (s' := s.setVm vm') (acts' := []) (by simp [hfind _ _ _ _])
  exact ⟨rfl, ha⟩
theorem rx_fvf (u : State) (vm' : Vm) (A B : List Frame) : ((u.setFrames A).setVm vm').setFrames B = (u.setVm vm').setFrames B := by
  have h1 : (u.setFrames A).setVm vm' = (u.setVm vm').setFrames A := rfl
  rw [h1, State.setFrames_setFrames]
theorem rx_caught {tb : Tables} {e : Env} {s target : State} {g : JFrame} {c : Code} {below : List Frame} {a : Addr} (h : At s g.method c below) {pc : Nat} {vm' : Vm}
    (hfind : ∀ (Q : Handler → Pre) (K : CtlPost) (d : Bool) (acts : List Action), wp (findHandler g a) Q K e d acts ((s.setTop g).pushFrame (.throwing a)) ↔ Q (.found pc) d acts (((s.setTop g).pushFrame (.throwing a)).setVm vm'))
    (hrest : Steps tb e below ((s.setVm vm').setTop { g with pc := pc, stack := [.ref a] }) target) : Steps tb e below ((s.setTop g).pushFrame (.throwing a)) target := by
  obtain ⟨hgo, hw⟩ := h.throwing a
  refine Steps.head hgo hw ?_
  rw [stepThread_throwing (frames_entered h.top _), (rx_stepC (s := (s.setTop g).pushFrame (.throwing a)) hfind).1]
  obtain ⟨g₀, hg⟩ := Option.isSome_iff_exists.mp h.top
  obtain ⟨r, hr⟩ := State.topJava?_eq_some.mp hg
  have hr' : (s.setVm vm').frames = .java g₀ :: r := hr
  rw [State.setTop_of_frames _ hr'] at hrest
  rw [hr, List.tail_cons, State.pushFrame, rx_fvf, State.setTop_of_frames _ hr, rx_fvf]
  exact hrest
theorem rx_casx {E : Nat} (hE : E < 3) : Cond.castable (rx_exn E) (rx_exn E) ∈ rx_tbl := by
  match E, hE with
  | 0, _ => exact rx_in 388 (by decide +kernel) (by decide +kernel)
  | 1, _ => exact rx_in 465 (by decide +kernel) (by decide +kernel)
  | 2, _ => exact rx_in 619 (by decide +kernel) (by decide +kernel)
/-- the exception E is caught by the row x of the method's table -/
theorem rx_catch {V : rx_V} {d kc ks : Nat} {M : rx_T} {pc : Nat} {L : rx_L} {h : List va_E} {Q : rx_R → List va_E → Prop} {E : Nat} (pre : List (Nat × Nat × Nat × Nat)) (x : Nat × Nat × Nat × Nat) (suf : List (Nat × Nat × Nat × Nat)) (hE : E < 3) (hsplit : M.2.2.2.2 = pre ++ x :: suf)
    (hpass : ∀ z ∈ pre, z.2.2.2 ≠ 0 ∧ ∃ E', E' < 3 ∧ E ≠ E' ∧ Cond.classLink M.1.cls z.2.2.2 (rx_exn E') ∈ rx_tbl) (hx1 : x.1 ≤ pc) (hx2 : pc < x.2.1) (h0 : x.2.2.2 ≠ 0) (hlink : Cond.classLink M.1.cls x.2.2.2 (rx_exn E) ∈ rx_tbl)
    (k : ∀ q, rx_W V d kc ks M x.2.2.1 L [.ref q] h Q) : rx_Y V d kc ks M pc L h Q E := by
  intro p e R s m args below meth c H locs cells slots ls rest q ce F G hl hce hcv hcl T hT X
  have hts := F.2.2.2.2.2.2.1
  have hown := F.2.2.2.2.2.1
  have hpl : e.platform.magicAccessors = ({} : Platform).magicAccessors := by rw [X.admits.platform]
  have htab := F.2.2.2.2.2.2.2.2.2.2
  rw [hsplit] at htab
  obtain ⟨P, Z, hPZ, hP, hZ⟩ := List.map_eq_append_iff.mp htab
  obtain ⟨x', S', rfl, hx', hS'⟩ := List.map_eq_cons_iff.mp hZ
  obtain ⟨c5, hc5, hcl5⟩ := Cond.classLink_spec hown (hts _ hlink) e.platform hpl
  obtain ⟨c3, c4, hc3, hc4, hasg⟩ := Cond.castable_spec (hts _ (rx_casx hE))
  cases Option.some.inj (hc3.symm.trans hcl)
  cases Option.some.inj (hc4.symm.trans hc5)
  subst hx'
  obtain ⟨vm', hW', hq⟩ := rx_goT (e := e) (s := s) (f := F0 m pc ls rest) (a := q) (cell := ce) (fun k h9 => by rw [hcv] at h9; cases h9) (by obtain ⟨k9, h9, -⟩ := Vm.findClass_spec hcl; exact ⟨k9, h9⟩) x' S'
    (by simp only [covers, Bool.and_eq_true, decide_eq_true_eq]; exact ⟨hx1, hx2⟩) h0 hcl5 hasg P ((T.setTop (F0 m pc ls rest)).pushFrame (.throwing q)) X.warmed (by show T.heap[q]? = _; rw [hT]; exact hce)
    (fun y hy => by
      have hy' : (y.startPc, y.endPc, y.handlerPc, y.catchType) ∈ pre := by rw [← hP]; exact List.mem_map.mpr ⟨y, hy, rfl⟩
      obtain ⟨hz0, E', hE', hne, hlk⟩ := hpass _ hy'
      obtain ⟨c6, hc6, hcl6⟩ := Cond.classLink_spec hown (hts _ hlk) e.platform hpl
      obtain ⟨a8, b8, h1, h2, h3⟩ := G.2.2.2.2.1.2.2.2.2.2.2.2 E E' hE hE' hne
      cases Option.some.inj (h1.symm.trans hcl)
      cases Option.some.inj (h2.symm.trans hc6)
      exact Or.inr ⟨hz0, _, hcl6, h3⟩)
  obtain ⟨t, a1, b1⟩ := k q p e R s m args below meth c H locs cells slots ls F G hl (T.setVm vm') hT (X.noted hW')
  refine ⟨t, rx_caught (g := F0 m pc ls rest) X.here (vm' := vm') (pc := x'.handlerPc) (fun Q9 K9 d9 acts9 => ?_) a1, b1⟩
  rw [W.findHandler_eq X.method' X.code, hPZ]
  exact hq Q9 K9 d9 acts9
end
section
/-! links, by program (wip/lay.py) -/
theorem fl_SR_14 : rx_fl "ScoreRoads" 14 0 0 := ⟨_, _, _, rfl, by decide, w_SR, rx_in 179 (by decide +kernel) (by decide +kernel)⟩
theorem fw_SR_14 {M : rx_T} (hM : M.1.cls = "ScoreRoads") (hI : M.1.name = "<init>") : rx_fw M 14 0 0 (.object "ScoreRoads$Page") := ⟨_, F_SR, 7, t_SR, rfl, by decide, w_SR, by rw [hM]; exact rx_in 179 (by decide +kernel) (by decide +kernel), t_SR_ok, n_SR, by decide +kernel, Or.inr ⟨rfl, hI, hM.symm⟩⟩
theorem fl_SR_21 : rx_fl "ScoreRoads" 21 0 1 := ⟨_, _, _, rfl, by decide, w_SR, rx_in 180 (by decide +kernel) (by decide +kernel)⟩
theorem fw_SR_21 {M : rx_T} (hM : M.1.cls = "ScoreRoads") (hI : M.1.name = "<init>") : rx_fw M 21 0 1 (.object "ScoreRoads$Notes") := ⟨_, F_SR, 7, t_SR, rfl, by decide, w_SR, by rw [hM]; exact rx_in 180 (by decide +kernel) (by decide +kernel), t_SR_ok, n_SR, by decide +kernel, Or.inr ⟨rfl, hI, hM.symm⟩⟩
theorem fl_SR_28 : rx_fl "ScoreRoads" 28 0 2 := ⟨_, _, _, rfl, by decide, w_SR, rx_in 181 (by decide +kernel) (by decide +kernel)⟩
theorem fw_SR_28 {M : rx_T} (hM : M.1.cls = "ScoreRoads") (hI : M.1.name = "<init>") : rx_fw M 28 0 2 (.object "ScoreRoads$Repeats") := ⟨_, F_SR, 7, t_SR, rfl, by decide, w_SR, by rw [hM]; exact rx_in 181 (by decide +kernel) (by decide +kernel), t_SR_ok, n_SR, by decide +kernel, Or.inr ⟨rfl, hI, hM.symm⟩⟩
theorem fl_SR_35 : rx_fl "ScoreRoads" 35 0 3 := ⟨_, _, _, rfl, by decide, w_SR, rx_in 182 (by decide +kernel) (by decide +kernel)⟩
theorem fw_SR_35 {M : rx_T} (hM : M.1.cls = "ScoreRoads") (hI : M.1.name = "<init>") : rx_fw M 35 0 3 (.object "ScoreRoads$Road") := ⟨_, F_SR, 7, t_SR, rfl, by decide, w_SR, by rw [hM]; exact rx_in 182 (by decide +kernel) (by decide +kernel), t_SR_ok, n_SR, by decide +kernel, Or.inr ⟨rfl, hI, hM.symm⟩⟩
theorem fl_SR_42 : rx_fl "ScoreRoads" 42 0 4 := ⟨_, _, _, rfl, by decide, w_SR, rx_in 183 (by decide +kernel) (by decide +kernel)⟩
theorem fw_SR_42 {M : rx_T} (hM : M.1.cls = "ScoreRoads") (hI : M.1.name = "<init>") : rx_fw M 42 0 4 (.object "ScoreRoads$Sounding") := ⟨_, F_SR, 7, t_SR, rfl, by decide, w_SR, by rw [hM]; exact rx_in 183 (by decide +kernel) (by decide +kernel), t_SR_ok, n_SR, by decide +kernel, Or.inr ⟨rfl, hI, hM.symm⟩⟩
theorem fl_SR_95 : rx_fl "ScoreRoads" 95 0 5 := ⟨_, _, _, rfl, by decide, w_SR, rx_in 184 (by decide +kernel) (by decide +kernel)⟩
theorem fw_SR_95 {M : rx_T} (hM : M.1.cls = "ScoreRoads") : rx_fw M 95 0 5 .boolean := ⟨_, F_SR, 7, t_SR, rfl, by decide, w_SR, by rw [hM]; exact rx_in 184 (by decide +kernel) (by decide +kernel), t_SR_ok, n_SR, by decide +kernel, Or.inl rfl⟩
theorem fl_SR_128 : rx_fl "ScoreRoads" 128 2 1 := ⟨_, _, _, rfl, by decide, w_Notes, rx_in 65 (by decide +kernel) (by decide +kernel)⟩
theorem fw_SR_128 {M : rx_T} (hM : M.1.cls = "ScoreRoads") : rx_fw M 128 2 1 .int := ⟨_, F_Notes, 2, t_Notes, rfl, by decide, w_Notes, by rw [hM]; exact rx_in 65 (by decide +kernel) (by decide +kernel), t_Notes_ok, n_Notes, by decide +kernel, Or.inl rfl⟩
theorem fl_SR_143 : rx_fl "ScoreRoads" 143 0 6 := ⟨_, _, _, rfl, by decide, w_SR, rx_in 185 (by decide +kernel) (by decide +kernel)⟩
theorem fw_SR_143 {M : rx_T} (hM : M.1.cls = "ScoreRoads") : rx_fw M 143 0 6 .int := ⟨_, F_SR, 7, t_SR, rfl, by decide, w_SR, by rw [hM]; exact rx_in 185 (by decide +kernel) (by decide +kernel), t_SR_ok, n_SR, by decide +kernel, Or.inl rfl⟩
theorem fl_SR_146 : rx_fl "ScoreRoads" 146 5 1 := ⟨_, _, _, rfl, by decide, w_Road, rx_in 140 (by decide +kernel) (by decide +kernel)⟩
theorem fw_SR_146 {M : rx_T} (hM : M.1.cls = "ScoreRoads") : rx_fw M 146 5 1 .int := ⟨_, F_Road, 6, t_Road, rfl, by decide, w_Road, by rw [hM]; exact rx_in 140 (by decide +kernel) (by decide +kernel), t_Road_ok, n_Road, by decide +kernel, Or.inl rfl⟩
theorem fl_SR_175 : rx_fl "ScoreRoads" 175 6 2 := ⟨_, _, _, rfl, by decide, w_Sounding, rx_in 168 (by decide +kernel) (by decide +kernel)⟩
theorem fw_SR_175 {M : rx_T} (hM : M.1.cls = "ScoreRoads") : rx_fw M 175 6 2 .int := ⟨_, F_Sounding, 4, t_Sounding, rfl, by decide, w_Sounding, by rw [hM]; exact rx_in 168 (by decide +kernel) (by decide +kernel), t_Sounding_ok, n_Sounding, by decide +kernel, Or.inl rfl⟩
theorem fl_SR_188 : rx_fl "ScoreRoads" 188 1 0 := ⟨_, _, _, rfl, by decide, w_Page, rx_in 40 (by decide +kernel) (by decide +kernel)⟩
theorem fl_Faults_11 : rx_fl "ScoreRoads$Faults" 11 1 0 := ⟨_, _, _, rfl, by decide, w_Page, rx_in 38 (by decide +kernel) (by decide +kernel)⟩
theorem fl_Faults_59 : rx_fl "ScoreRoads$Faults" 59 4 1 := ⟨_, _, _, rfl, by decide, w_Repeat, rx_in 88 (by decide +kernel) (by decide +kernel)⟩
theorem fw_Faults_59 {M : rx_T} (hM : M.1.cls = "ScoreRoads$Faults") : rx_fw M 59 4 1 .int := ⟨_, F_Repeat, 7, t_Repeat, rfl, by decide, w_Repeat, by rw [hM]; exact rx_in 88 (by decide +kernel) (by decide +kernel), t_Repeat_ok, n_Repeat, by decide +kernel, Or.inl rfl⟩
theorem fl_Faults_64 : rx_fl "ScoreRoads$Faults" 64 4 3 := ⟨_, _, _, rfl, by decide, w_Repeat, rx_in 93 (by decide +kernel) (by decide +kernel)⟩
theorem fw_Faults_64 {M : rx_T} (hM : M.1.cls = "ScoreRoads$Faults") : rx_fw M 64 4 3 .int := ⟨_, F_Repeat, 7, t_Repeat, rfl, by decide, w_Repeat, by rw [hM]; exact rx_in 93 (by decide +kernel) (by decide +kernel), t_Repeat_ok, n_Repeat, by decide +kernel, Or.inl rfl⟩
theorem fl_Faults_78 : rx_fl "ScoreRoads$Faults" 78 4 5 := ⟨_, _, _, rfl, by decide, w_Repeat, rx_in 100 (by decide +kernel) (by decide +kernel)⟩
theorem fw_Faults_78 {M : rx_T} (hM : M.1.cls = "ScoreRoads$Faults") : rx_fw M 78 4 5 .int := ⟨_, F_Repeat, 7, t_Repeat, rfl, by decide, w_Repeat, by rw [hM]; exact rx_in 100 (by decide +kernel) (by decide +kernel), t_Repeat_ok, n_Repeat, by decide +kernel, Or.inl rfl⟩
theorem fl_Faults_84 : rx_fl "ScoreRoads$Faults" 84 4 0 := ⟨_, _, _, rfl, by decide, w_Repeat, rx_in 87 (by decide +kernel) (by decide +kernel)⟩
theorem fw_Faults_84 {M : rx_T} (hM : M.1.cls = "ScoreRoads$Faults") : rx_fw M 84 4 0 .int := ⟨_, F_Repeat, 7, t_Repeat, rfl, by decide, w_Repeat, by rw [hM]; exact rx_in 87 (by decide +kernel) (by decide +kernel), t_Repeat_ok, n_Repeat, by decide +kernel, Or.inl rfl⟩
theorem fl_Faults_87 : rx_fl "ScoreRoads$Faults" 87 4 4 := ⟨_, _, _, rfl, by decide, w_Repeat, rx_in 97 (by decide +kernel) (by decide +kernel)⟩
theorem fw_Faults_87 {M : rx_T} (hM : M.1.cls = "ScoreRoads$Faults") : rx_fw M 87 4 4 .int := ⟨_, F_Repeat, 7, t_Repeat, rfl, by decide, w_Repeat, by rw [hM]; exact rx_in 97 (by decide +kernel) (by decide +kernel), t_Repeat_ok, n_Repeat, by decide +kernel, Or.inl rfl⟩
theorem fl_Note_7 : rx_fl "ScoreRoads$Note" 7 7 0 := ⟨_, _, _, rfl, by decide, w_Note, rx_in 548 (by decide +kernel) (by decide +kernel)⟩
theorem fw_Note_7 {M : rx_T} (hM : M.1.cls = "ScoreRoads$Note") (hI : M.1.name = "<init>") : rx_fw M 7 7 0 .int := ⟨_, F_Note, 6, t_Note, rfl, by decide, w_Note, by rw [hM]; exact rx_in 548 (by decide +kernel) (by decide +kernel), t_Note_ok, n_Note, by decide +kernel, Or.inr ⟨rfl, hI, hM.symm⟩⟩
theorem fl_Note_13 : rx_fl "ScoreRoads$Note" 13 7 1 := ⟨_, _, _, rfl, by decide, w_Note, rx_in 550 (by decide +kernel) (by decide +kernel)⟩
theorem fw_Note_13 {M : rx_T} (hM : M.1.cls = "ScoreRoads$Note") (hI : M.1.name = "<init>") : rx_fw M 13 7 1 .int := ⟨_, F_Note, 6, t_Note, rfl, by decide, w_Note, by rw [hM]; exact rx_in 550 (by decide +kernel) (by decide +kernel), t_Note_ok, n_Note, by decide +kernel, Or.inr ⟨rfl, hI, hM.symm⟩⟩
theorem fl_Note_16 : rx_fl "ScoreRoads$Note" 16 7 2 := ⟨_, _, _, rfl, by decide, w_Note, rx_in 553 (by decide +kernel) (by decide +kernel)⟩
theorem fw_Note_16 {M : rx_T} (hM : M.1.cls = "ScoreRoads$Note") (hI : M.1.name = "<init>") : rx_fw M 16 7 2 .int := ⟨_, F_Note, 6, t_Note, rfl, by decide, w_Note, by rw [hM]; exact rx_in 553 (by decide +kernel) (by decide +kernel), t_Note_ok, n_Note, by decide +kernel, Or.inr ⟨rfl, hI, hM.symm⟩⟩
theorem fl_Note_19 : rx_fl "ScoreRoads$Note" 19 7 3 := ⟨_, _, _, rfl, by decide, w_Note, rx_in 556 (by decide +kernel) (by decide +kernel)⟩
theorem fw_Note_19 {M : rx_T} (hM : M.1.cls = "ScoreRoads$Note") (hI : M.1.name = "<init>") : rx_fw M 19 7 3 .int := ⟨_, F_Note, 6, t_Note, rfl, by decide, w_Note, by rw [hM]; exact rx_in 556 (by decide +kernel) (by decide +kernel), t_Note_ok, n_Note, by decide +kernel, Or.inr ⟨rfl, hI, hM.symm⟩⟩
theorem fl_Note_22 : rx_fl "ScoreRoads$Note" 22 7 4 := ⟨_, _, _, rfl, by decide, w_Note, rx_in 558 (by decide +kernel) (by decide +kernel)⟩
theorem fw_Note_22 {M : rx_T} (hM : M.1.cls = "ScoreRoads$Note") : rx_fw M 22 7 4 .int := ⟨_, F_Note, 6, t_Note, rfl, by decide, w_Note, by rw [hM]; exact rx_in 558 (by decide +kernel) (by decide +kernel), t_Note_ok, n_Note, by decide +kernel, Or.inl rfl⟩
theorem fl_Note_25 : rx_fl "ScoreRoads$Note" 25 7 5 := ⟨_, _, _, rfl, by decide, w_Note, rx_in 561 (by decide +kernel) (by decide +kernel)⟩
theorem fw_Note_25 {M : rx_T} (hM : M.1.cls = "ScoreRoads$Note") (hI : M.1.name = "<init>") : rx_fw M 25 7 5 .boolean := ⟨_, F_Note, 6, t_Note, rfl, by decide, w_Note, by rw [hM]; exact rx_in 561 (by decide +kernel) (by decide +kernel), t_Note_ok, n_Note, by decide +kernel, Or.inr ⟨rfl, hI, hM.symm⟩⟩
theorem fl_Notes_11 : rx_fl "ScoreRoads$Notes" 11 2 0 := ⟨_, _, _, rfl, by decide, w_Notes, rx_in 62 (by decide +kernel) (by decide +kernel)⟩
theorem fw_Notes_11 {M : rx_T} (hM : M.1.cls = "ScoreRoads$Notes") (hI : M.1.name = "<init>") : rx_fw M 11 2 0 (.array (.object "ScoreRoads$Note")) := ⟨_, F_Notes, 2, t_Notes, rfl, by decide, w_Notes, by rw [hM]; exact rx_in 62 (by decide +kernel) (by decide +kernel), t_Notes_ok, n_Notes, by decide +kernel, Or.inr ⟨rfl, hI, hM.symm⟩⟩
theorem fl_Notes_17 : rx_fl "ScoreRoads$Notes" 17 2 1 := ⟨_, _, _, rfl, by decide, w_Notes, rx_in 63 (by decide +kernel) (by decide +kernel)⟩
theorem fw_Notes_17 {M : rx_T} (hM : M.1.cls = "ScoreRoads$Notes") : rx_fw M 17 2 1 .int := ⟨_, F_Notes, 2, t_Notes, rfl, by decide, w_Notes, by rw [hM]; exact rx_in 63 (by decide +kernel) (by decide +kernel), t_Notes_ok, n_Notes, by decide +kernel, Or.inl rfl⟩
theorem fl_Notes_37 : rx_fl "ScoreRoads$Notes" 37 7 2 := ⟨_, _, _, rfl, by decide, w_Note, rx_in 554 (by decide +kernel) (by decide +kernel)⟩
theorem fl_Notes_40 : rx_fl "ScoreRoads$Notes" 40 7 4 := ⟨_, _, _, rfl, by decide, w_Note, rx_in 559 (by decide +kernel) (by decide +kernel)⟩
theorem fw_Notes_40 {M : rx_T} (hM : M.1.cls = "ScoreRoads$Notes") : rx_fw M 40 7 4 .int := ⟨_, F_Note, 6, t_Note, rfl, by decide, w_Note, by rw [hM]; exact rx_in 559 (by decide +kernel) (by decide +kernel), t_Note_ok, n_Note, by decide +kernel, Or.inl rfl⟩
theorem fl_Notes_43 : rx_fl "ScoreRoads$Notes" 43 7 1 := ⟨_, _, _, rfl, by decide, w_Note, rx_in 552 (by decide +kernel) (by decide +kernel)⟩
theorem fl_Notes_56 : rx_fl "ScoreRoads$Notes" 56 7 0 := ⟨_, _, _, rfl, by decide, w_Note, rx_in 549 (by decide +kernel) (by decide +kernel)⟩
theorem fl_Page_9 : rx_fl "ScoreRoads$Page" 9 1 0 := ⟨_, _, _, rfl, by decide, w_Page, rx_in 37 (by decide +kernel) (by decide +kernel)⟩
theorem fw_Page_9 {M : rx_T} (hM : M.1.cls = "ScoreRoads$Page") (hI : M.1.name = "<init>") : rx_fw M 9 1 0 .int := ⟨_, F_Page, 4, t_Page, rfl, by decide, w_Page, by rw [hM]; exact rx_in 37 (by decide +kernel) (by decide +kernel), t_Page_ok, n_Page, by decide +kernel, Or.inr ⟨rfl, hI, hM.symm⟩⟩
theorem fl_Page_15 : rx_fl "ScoreRoads$Page" 15 1 1 := ⟨_, _, _, rfl, by decide, w_Page, rx_in 41 (by decide +kernel) (by decide +kernel)⟩
theorem fw_Page_15 {M : rx_T} (hM : M.1.cls = "ScoreRoads$Page") (hI : M.1.name = "<init>") : rx_fw M 15 1 1 (.array .int) := ⟨_, F_Page, 4, t_Page, rfl, by decide, w_Page, by rw [hM]; exact rx_in 41 (by decide +kernel) (by decide +kernel), t_Page_ok, n_Page, by decide +kernel, Or.inr ⟨rfl, hI, hM.symm⟩⟩
theorem fl_Page_19 : rx_fl "ScoreRoads$Page" 19 1 2 := ⟨_, _, _, rfl, by decide, w_Page, rx_in 42 (by decide +kernel) (by decide +kernel)⟩
theorem fw_Page_19 {M : rx_T} (hM : M.1.cls = "ScoreRoads$Page") (hI : M.1.name = "<init>") : rx_fw M 19 1 2 (.array .int) := ⟨_, F_Page, 4, t_Page, rfl, by decide, w_Page, by rw [hM]; exact rx_in 42 (by decide +kernel) (by decide +kernel), t_Page_ok, n_Page, by decide +kernel, Or.inr ⟨rfl, hI, hM.symm⟩⟩
theorem fl_Page_22 : rx_fl "ScoreRoads$Page" 22 1 3 := ⟨_, _, _, rfl, by decide, w_Page, rx_in 43 (by decide +kernel) (by decide +kernel)⟩
theorem fw_Page_22 {M : rx_T} (hM : M.1.cls = "ScoreRoads$Page") (hI : M.1.name = "<init>") : rx_fw M 22 1 3 (.array .int) := ⟨_, F_Page, 4, t_Page, rfl, by decide, w_Page, by rw [hM]; exact rx_in 43 (by decide +kernel) (by decide +kernel), t_Page_ok, n_Page, by decide +kernel, Or.inr ⟨rfl, hI, hM.symm⟩⟩
theorem fl_Repeat_9 : rx_fl "ScoreRoads$Repeat" 9 4 3 := ⟨_, _, _, rfl, by decide, w_Repeat, rx_in 92 (by decide +kernel) (by decide +kernel)⟩
theorem fw_Repeat_9 {M : rx_T} (hM : M.1.cls = "ScoreRoads$Repeat") : rx_fw M 9 4 3 .int := ⟨_, F_Repeat, 7, t_Repeat, rfl, by decide, w_Repeat, by rw [hM]; exact rx_in 92 (by decide +kernel) (by decide +kernel), t_Repeat_ok, n_Repeat, by decide +kernel, Or.inl rfl⟩
theorem fl_Repeat_15 : rx_fl "ScoreRoads$Repeat" 15 4 0 := ⟨_, _, _, rfl, by decide, w_Repeat, rx_in 84 (by decide +kernel) (by decide +kernel)⟩
theorem fw_Repeat_15 {M : rx_T} (hM : M.1.cls = "ScoreRoads$Repeat") : rx_fw M 15 4 0 .int := ⟨_, F_Repeat, 7, t_Repeat, rfl, by decide, w_Repeat, by rw [hM]; exact rx_in 84 (by decide +kernel) (by decide +kernel), t_Repeat_ok, n_Repeat, by decide +kernel, Or.inl rfl⟩
theorem fl_Repeat_18 : rx_fl "ScoreRoads$Repeat" 18 4 2 := ⟨_, _, _, rfl, by decide, w_Repeat, rx_in 90 (by decide +kernel) (by decide +kernel)⟩
theorem fw_Repeat_18 {M : rx_T} (hM : M.1.cls = "ScoreRoads$Repeat") : rx_fw M 18 4 2 .int := ⟨_, F_Repeat, 7, t_Repeat, rfl, by decide, w_Repeat, by rw [hM]; exact rx_in 90 (by decide +kernel) (by decide +kernel), t_Repeat_ok, n_Repeat, by decide +kernel, Or.inl rfl⟩
theorem fl_Repeats_11 : rx_fl "ScoreRoads$Repeats" 11 3 0 := ⟨_, _, _, rfl, by decide, w_Repeats, rx_in 118 (by decide +kernel) (by decide +kernel)⟩
theorem fw_Repeats_11 {M : rx_T} (hM : M.1.cls = "ScoreRoads$Repeats") (hI : M.1.name = "<init>") : rx_fw M 11 3 0 (.array (.object "ScoreRoads$Repeat")) := ⟨_, F_Repeats, 4, t_Repeats, rfl, by decide, w_Repeats, by rw [hM]; exact rx_in 118 (by decide +kernel) (by decide +kernel), t_Repeats_ok, n_Repeats, by decide +kernel, Or.inr ⟨rfl, hI, hM.symm⟩⟩
theorem fl_Repeats_17 : rx_fl "ScoreRoads$Repeats" 17 3 1 := ⟨_, _, _, rfl, by decide, w_Repeats, rx_in 119 (by decide +kernel) (by decide +kernel)⟩
theorem fw_Repeats_17 {M : rx_T} (hM : M.1.cls = "ScoreRoads$Repeats") (hI : M.1.name = "<init>") : rx_fw M 17 3 1 (.array (.object "ScoreRoads$Repeat")) := ⟨_, F_Repeats, 4, t_Repeats, rfl, by decide, w_Repeats, by rw [hM]; exact rx_in 119 (by decide +kernel) (by decide +kernel), t_Repeats_ok, n_Repeats, by decide +kernel, Or.inr ⟨rfl, hI, hM.symm⟩⟩
theorem fl_Repeats_20 : rx_fl "ScoreRoads$Repeats" 20 3 2 := ⟨_, _, _, rfl, by decide, w_Repeats, rx_in 120 (by decide +kernel) (by decide +kernel)⟩
theorem fw_Repeats_20 {M : rx_T} (hM : M.1.cls = "ScoreRoads$Repeats") (hI : M.1.name = "<init>") : rx_fw M 20 3 2 (.array (.object "ScoreRoads$Repeat")) := ⟨_, F_Repeats, 4, t_Repeats, rfl, by decide, w_Repeats, by rw [hM]; exact rx_in 120 (by decide +kernel) (by decide +kernel), t_Repeats_ok, n_Repeats, by decide +kernel, Or.inr ⟨rfl, hI, hM.symm⟩⟩
theorem fl_Repeats_24 : rx_fl "ScoreRoads$Repeats" 24 3 3 := ⟨_, _, _, rfl, by decide, w_Repeats, rx_in 121 (by decide +kernel) (by decide +kernel)⟩
theorem fw_Repeats_24 {M : rx_T} (hM : M.1.cls = "ScoreRoads$Repeats") : rx_fw M 24 3 3 .int := ⟨_, F_Repeats, 4, t_Repeats, rfl, by decide, w_Repeats, by rw [hM]; exact rx_in 121 (by decide +kernel) (by decide +kernel), t_Repeats_ok, n_Repeats, by decide +kernel, Or.inl rfl⟩
theorem fl_Repeats_46 : rx_fl "ScoreRoads$Repeats" 46 4 2 := ⟨_, _, _, rfl, by decide, w_Repeat, rx_in 91 (by decide +kernel) (by decide +kernel)⟩
theorem fw_Repeats_46 {M : rx_T} (hM : M.1.cls = "ScoreRoads$Repeats") : rx_fw M 46 4 2 .int := ⟨_, F_Repeat, 7, t_Repeat, rfl, by decide, w_Repeat, by rw [hM]; exact rx_in 91 (by decide +kernel) (by decide +kernel), t_Repeat_ok, n_Repeat, by decide +kernel, Or.inl rfl⟩
theorem fl_Repeats_57 : rx_fl "ScoreRoads$Repeats" 57 4 0 := ⟨_, _, _, rfl, by decide, w_Repeat, rx_in 85 (by decide +kernel) (by decide +kernel)⟩
theorem fw_Repeats_57 {M : rx_T} (hM : M.1.cls = "ScoreRoads$Repeats") : rx_fw M 57 4 0 .int := ⟨_, F_Repeat, 7, t_Repeat, rfl, by decide, w_Repeat, by rw [hM]; exact rx_in 85 (by decide +kernel) (by decide +kernel), t_Repeat_ok, n_Repeat, by decide +kernel, Or.inl rfl⟩
theorem fl_Repeats_60 : rx_fl "ScoreRoads$Repeats" 60 4 1 := ⟨_, _, _, rfl, by decide, w_Repeat, rx_in 89 (by decide +kernel) (by decide +kernel)⟩
theorem fw_Repeats_60 {M : rx_T} (hM : M.1.cls = "ScoreRoads$Repeats") : rx_fw M 60 4 1 .int := ⟨_, F_Repeat, 7, t_Repeat, rfl, by decide, w_Repeat, by rw [hM]; exact rx_in 89 (by decide +kernel) (by decide +kernel), t_Repeat_ok, n_Repeat, by decide +kernel, Or.inl rfl⟩
theorem fl_Repeats_63 : rx_fl "ScoreRoads$Repeats" 63 4 3 := ⟨_, _, _, rfl, by decide, w_Repeat, rx_in 94 (by decide +kernel) (by decide +kernel)⟩
theorem fw_Repeats_63 {M : rx_T} (hM : M.1.cls = "ScoreRoads$Repeats") : rx_fw M 63 4 3 .int := ⟨_, F_Repeat, 7, t_Repeat, rfl, by decide, w_Repeat, by rw [hM]; exact rx_in 94 (by decide +kernel) (by decide +kernel), t_Repeat_ok, n_Repeat, by decide +kernel, Or.inl rfl⟩
theorem fl_Repeats_66 : rx_fl "ScoreRoads$Repeats" 66 4 4 := ⟨_, _, _, rfl, by decide, w_Repeat, rx_in 96 (by decide +kernel) (by decide +kernel)⟩
theorem fw_Repeats_66 {M : rx_T} (hM : M.1.cls = "ScoreRoads$Repeats") : rx_fw M 66 4 4 .int := ⟨_, F_Repeat, 7, t_Repeat, rfl, by decide, w_Repeat, by rw [hM]; exact rx_in 96 (by decide +kernel) (by decide +kernel), t_Repeat_ok, n_Repeat, by decide +kernel, Or.inl rfl⟩
theorem fl_Repeats_73 : rx_fl "ScoreRoads$Repeats" 73 4 5 := ⟨_, _, _, rfl, by decide, w_Repeat, rx_in 99 (by decide +kernel) (by decide +kernel)⟩
theorem fw_Repeats_73 {M : rx_T} (hM : M.1.cls = "ScoreRoads$Repeats") : rx_fw M 73 4 5 .int := ⟨_, F_Repeat, 7, t_Repeat, rfl, by decide, w_Repeat, by rw [hM]; exact rx_in 99 (by decide +kernel) (by decide +kernel), t_Repeat_ok, n_Repeat, by decide +kernel, Or.inl rfl⟩
theorem fl_Repeats_92 : rx_fl "ScoreRoads$Repeats" 92 4 6 := ⟨_, _, _, rfl, by decide, w_Repeat, rx_in 102 (by decide +kernel) (by decide +kernel)⟩
theorem fw_Repeats_92 {M : rx_T} (hM : M.1.cls = "ScoreRoads$Repeats") : rx_fw M 92 4 6 .int := ⟨_, F_Repeat, 7, t_Repeat, rfl, by decide, w_Repeat, by rw [hM]; exact rx_in 102 (by decide +kernel) (by decide +kernel), t_Repeat_ok, n_Repeat, by decide +kernel, Or.inl rfl⟩
theorem fl_Road_9 : rx_fl "ScoreRoads$Road" 9 5 0 := ⟨_, _, _, rfl, by decide, w_Road, rx_in 137 (by decide +kernel) (by decide +kernel)⟩
theorem fw_Road_9 {M : rx_T} (hM : M.1.cls = "ScoreRoads$Road") (hI : M.1.name = "<init>") : rx_fw M 9 5 0 (.array .int) := ⟨_, F_Road, 6, t_Road, rfl, by decide, w_Road, by rw [hM]; exact rx_in 137 (by decide +kernel) (by decide +kernel), t_Road_ok, n_Road, by decide +kernel, Or.inr ⟨rfl, hI, hM.symm⟩⟩
theorem fl_Road_15 : rx_fl "ScoreRoads$Road" 15 5 1 := ⟨_, _, _, rfl, by decide, w_Road, rx_in 138 (by decide +kernel) (by decide +kernel)⟩
theorem fw_Road_15 {M : rx_T} (hM : M.1.cls = "ScoreRoads$Road") : rx_fw M 15 5 1 .int := ⟨_, F_Road, 6, t_Road, rfl, by decide, w_Road, by rw [hM]; exact rx_in 138 (by decide +kernel) (by decide +kernel), t_Road_ok, n_Road, by decide +kernel, Or.inl rfl⟩
theorem fl_Road_19 : rx_fl "ScoreRoads$Road" 19 5 2 := ⟨_, _, _, rfl, by decide, w_Road, rx_in 141 (by decide +kernel) (by decide +kernel)⟩
theorem fw_Road_19 {M : rx_T} (hM : M.1.cls = "ScoreRoads$Road") : rx_fw M 19 5 2 .boolean := ⟨_, F_Road, 6, t_Road, rfl, by decide, w_Road, by rw [hM]; exact rx_in 141 (by decide +kernel) (by decide +kernel), t_Road_ok, n_Road, by decide +kernel, Or.inl rfl⟩
theorem fl_Road_23 : rx_fl "ScoreRoads$Road" 23 5 3 := ⟨_, _, _, rfl, by decide, w_Road, rx_in 142 (by decide +kernel) (by decide +kernel)⟩
theorem fw_Road_23 {M : rx_T} (hM : M.1.cls = "ScoreRoads$Road") : rx_fw M 23 5 3 .boolean := ⟨_, F_Road, 6, t_Road, rfl, by decide, w_Road, by rw [hM]; exact rx_in 142 (by decide +kernel) (by decide +kernel), t_Road_ok, n_Road, by decide +kernel, Or.inl rfl⟩
theorem fl_Road_26 : rx_fl "ScoreRoads$Road" 26 5 4 := ⟨_, _, _, rfl, by decide, w_Road, rx_in 143 (by decide +kernel) (by decide +kernel)⟩
theorem fw_Road_26 {M : rx_T} (hM : M.1.cls = "ScoreRoads$Road") : rx_fw M 26 5 4 .int := ⟨_, F_Road, 6, t_Road, rfl, by decide, w_Road, by rw [hM]; exact rx_in 143 (by decide +kernel) (by decide +kernel), t_Road_ok, n_Road, by decide +kernel, Or.inl rfl⟩
theorem fl_Road_29 : rx_fl "ScoreRoads$Road" 29 5 5 := ⟨_, _, _, rfl, by decide, w_Road, rx_in 144 (by decide +kernel) (by decide +kernel)⟩
theorem fw_Road_29 {M : rx_T} (hM : M.1.cls = "ScoreRoads$Road") : rx_fw M 29 5 5 .boolean := ⟨_, F_Road, 6, t_Road, rfl, by decide, w_Road, by rw [hM]; exact rx_in 144 (by decide +kernel) (by decide +kernel), t_Road_ok, n_Road, by decide +kernel, Or.inl rfl⟩
theorem fl_Road_57 : rx_fl "ScoreRoads$Road" 57 4 6 := ⟨_, _, _, rfl, by decide, w_Repeat, rx_in 101 (by decide +kernel) (by decide +kernel)⟩
theorem fw_Road_57 {M : rx_T} (hM : M.1.cls = "ScoreRoads$Road") : rx_fw M 57 4 6 .int := ⟨_, F_Repeat, 7, t_Repeat, rfl, by decide, w_Repeat, by rw [hM]; exact rx_in 101 (by decide +kernel) (by decide +kernel), t_Repeat_ok, n_Repeat, by decide +kernel, Or.inl rfl⟩
theorem fl_Road_62 : rx_fl "ScoreRoads$Road" 62 4 5 := ⟨_, _, _, rfl, by decide, w_Repeat, rx_in 98 (by decide +kernel) (by decide +kernel)⟩
theorem fw_Road_62 {M : rx_T} (hM : M.1.cls = "ScoreRoads$Road") : rx_fw M 62 4 5 .int := ⟨_, F_Repeat, 7, t_Repeat, rfl, by decide, w_Repeat, by rw [hM]; exact rx_in 98 (by decide +kernel) (by decide +kernel), t_Repeat_ok, n_Repeat, by decide +kernel, Or.inl rfl⟩
theorem fl_Road_65 : rx_fl "ScoreRoads$Road" 65 4 4 := ⟨_, _, _, rfl, by decide, w_Repeat, rx_in 95 (by decide +kernel) (by decide +kernel)⟩
theorem fw_Road_65 {M : rx_T} (hM : M.1.cls = "ScoreRoads$Road") : rx_fw M 65 4 4 .int := ⟨_, F_Repeat, 7, t_Repeat, rfl, by decide, w_Repeat, by rw [hM]; exact rx_in 95 (by decide +kernel) (by decide +kernel), t_Repeat_ok, n_Repeat, by decide +kernel, Or.inl rfl⟩
theorem fl_Road_80 : rx_fl "ScoreRoads$Road" 80 4 0 := ⟨_, _, _, rfl, by decide, w_Repeat, rx_in 86 (by decide +kernel) (by decide +kernel)⟩
theorem fw_Road_80 {M : rx_T} (hM : M.1.cls = "ScoreRoads$Road") : rx_fw M 80 4 0 .int := ⟨_, F_Repeat, 7, t_Repeat, rfl, by decide, w_Repeat, by rw [hM]; exact rx_in 86 (by decide +kernel) (by decide +kernel), t_Repeat_ok, n_Repeat, by decide +kernel, Or.inl rfl⟩
theorem fl_Road_88 : rx_fl "ScoreRoads$Road" 88 1 0 := ⟨_, _, _, rfl, by decide, w_Page, rx_in 39 (by decide +kernel) (by decide +kernel)⟩
theorem fl_Sounding_11 : rx_fl "ScoreRoads$Sounding" 11 6 0 := ⟨_, _, _, rfl, by decide, w_Sounding, rx_in 165 (by decide +kernel) (by decide +kernel)⟩
theorem fw_Sounding_11 {M : rx_T} (hM : M.1.cls = "ScoreRoads$Sounding") (hI : M.1.name = "<init>") : rx_fw M 11 6 0 (.array (.object "ScoreRoads$Note")) := ⟨_, F_Sounding, 4, t_Sounding, rfl, by decide, w_Sounding, by rw [hM]; exact rx_in 165 (by decide +kernel) (by decide +kernel), t_Sounding_ok, n_Sounding, by decide +kernel, Or.inr ⟨rfl, hI, hM.symm⟩⟩
theorem fl_Sounding_17 : rx_fl "ScoreRoads$Sounding" 17 6 1 := ⟨_, _, _, rfl, by decide, w_Sounding, rx_in 166 (by decide +kernel) (by decide +kernel)⟩
theorem fw_Sounding_17 {M : rx_T} (hM : M.1.cls = "ScoreRoads$Sounding") (hI : M.1.name = "<init>") : rx_fw M 17 6 1 (.array .int) := ⟨_, F_Sounding, 4, t_Sounding, rfl, by decide, w_Sounding, by rw [hM]; exact rx_in 166 (by decide +kernel) (by decide +kernel), t_Sounding_ok, n_Sounding, by decide +kernel, Or.inr ⟨rfl, hI, hM.symm⟩⟩
theorem fl_Sounding_21 : rx_fl "ScoreRoads$Sounding" 21 6 3 := ⟨_, _, _, rfl, by decide, w_Sounding, rx_in 169 (by decide +kernel) (by decide +kernel)⟩
theorem fw_Sounding_21 {M : rx_T} (hM : M.1.cls = "ScoreRoads$Sounding") : rx_fw M 21 6 3 .int := ⟨_, F_Sounding, 4, t_Sounding, rfl, by decide, w_Sounding, by rw [hM]; exact rx_in 169 (by decide +kernel) (by decide +kernel), t_Sounding_ok, n_Sounding, by decide +kernel, Or.inl rfl⟩
theorem fl_Sounding_25 : rx_fl "ScoreRoads$Sounding" 25 6 2 := ⟨_, _, _, rfl, by decide, w_Sounding, rx_in 167 (by decide +kernel) (by decide +kernel)⟩
theorem fw_Sounding_25 {M : rx_T} (hM : M.1.cls = "ScoreRoads$Sounding") : rx_fw M 25 6 2 .int := ⟨_, F_Sounding, 4, t_Sounding, rfl, by decide, w_Sounding, by rw [hM]; exact rx_in 167 (by decide +kernel) (by decide +kernel), t_Sounding_ok, n_Sounding, by decide +kernel, Or.inl rfl⟩
theorem fl_Sounding_28 : rx_fl "ScoreRoads$Sounding" 28 5 1 := ⟨_, _, _, rfl, by decide, w_Road, rx_in 139 (by decide +kernel) (by decide +kernel)⟩
theorem fw_Sounding_28 {M : rx_T} (hM : M.1.cls = "ScoreRoads$Sounding") : rx_fw M 28 5 1 .int := ⟨_, F_Road, 6, t_Road, rfl, by decide, w_Road, by rw [hM]; exact rx_in 139 (by decide +kernel) (by decide +kernel), t_Road_ok, n_Road, by decide +kernel, Or.inl rfl⟩
theorem fl_Sounding_35 : rx_fl "ScoreRoads$Sounding" 35 2 1 := ⟨_, _, _, rfl, by decide, w_Notes, rx_in 64 (by decide +kernel) (by decide +kernel)⟩
theorem fw_Sounding_35 {M : rx_T} (hM : M.1.cls = "ScoreRoads$Sounding") : rx_fw M 35 2 1 .int := ⟨_, F_Notes, 2, t_Notes, rfl, by decide, w_Notes, by rw [hM]; exact rx_in 64 (by decide +kernel) (by decide +kernel), t_Notes_ok, n_Notes, by decide +kernel, Or.inl rfl⟩
theorem fl_Sounding_67 : rx_fl "ScoreRoads$Sounding" 67 7 2 := ⟨_, _, _, rfl, by decide, w_Note, rx_in 555 (by decide +kernel) (by decide +kernel)⟩
theorem fl_Sounding_70 : rx_fl "ScoreRoads$Sounding" 70 7 1 := ⟨_, _, _, rfl, by decide, w_Note, rx_in 551 (by decide +kernel) (by decide +kernel)⟩
theorem fl_Sounding_78 : rx_fl "ScoreRoads$Sounding" 78 7 4 := ⟨_, _, _, rfl, by decide, w_Note, rx_in 560 (by decide +kernel) (by decide +kernel)⟩
theorem fw_Sounding_78 {M : rx_T} (hM : M.1.cls = "ScoreRoads$Sounding") : rx_fw M 78 7 4 .int := ⟨_, F_Note, 6, t_Note, rfl, by decide, w_Note, by rw [hM]; exact rx_in 560 (by decide +kernel) (by decide +kernel), t_Note_ok, n_Note, by decide +kernel, Or.inl rfl⟩
theorem fl_Sounding_81 : rx_fl "ScoreRoads$Sounding" 81 7 3 := ⟨_, _, _, rfl, by decide, w_Note, rx_in 557 (by decide +kernel) (by decide +kernel)⟩
theorem fl_Mo_7 : rx_fl "ScoreRoadsModel" 7 8 0 := ⟨_, _, _, rfl, by decide, w_Mo, rx_in 795 (by decide +kernel) (by decide +kernel)⟩
theorem fw_Mo_7 {M : rx_T} (hM : M.1.cls = "ScoreRoadsModel") (hI : M.1.name = "<init>") : rx_fw M 7 8 0 (.array .int) := ⟨_, F_Mo, 29, t_Mo, rfl, by decide, w_Mo, by rw [hM]; exact rx_in 795 (by decide +kernel) (by decide +kernel), t_Mo_ok, n_Mo, by decide +kernel, Or.inr ⟨rfl, hI, hM.symm⟩⟩
theorem fl_Mo_13 : rx_fl "ScoreRoadsModel" 13 8 3 := ⟨_, _, _, rfl, by decide, w_Mo, rx_in 798 (by decide +kernel) (by decide +kernel)⟩
theorem fw_Mo_13 {M : rx_T} (hM : M.1.cls = "ScoreRoadsModel") (hI : M.1.name = "<init>") : rx_fw M 13 8 3 (.array .int) := ⟨_, F_Mo, 29, t_Mo, rfl, by decide, w_Mo, by rw [hM]; exact rx_in 798 (by decide +kernel) (by decide +kernel), t_Mo_ok, n_Mo, by decide +kernel, Or.inr ⟨rfl, hI, hM.symm⟩⟩
theorem fl_Mo_16 : rx_fl "ScoreRoadsModel" 16 8 4 := ⟨_, _, _, rfl, by decide, w_Mo, rx_in 799 (by decide +kernel) (by decide +kernel)⟩
theorem fw_Mo_16 {M : rx_T} (hM : M.1.cls = "ScoreRoadsModel") (hI : M.1.name = "<init>") : rx_fw M 16 8 4 (.array .int) := ⟨_, F_Mo, 29, t_Mo, rfl, by decide, w_Mo, by rw [hM]; exact rx_in 799 (by decide +kernel) (by decide +kernel), t_Mo_ok, n_Mo, by decide +kernel, Or.inr ⟨rfl, hI, hM.symm⟩⟩
theorem fl_Mo_19 : rx_fl "ScoreRoadsModel" 19 8 5 := ⟨_, _, _, rfl, by decide, w_Mo, rx_in 800 (by decide +kernel) (by decide +kernel)⟩
theorem fw_Mo_19 {M : rx_T} (hM : M.1.cls = "ScoreRoadsModel") (hI : M.1.name = "<init>") : rx_fw M 19 8 5 (.array .int) := ⟨_, F_Mo, 29, t_Mo, rfl, by decide, w_Mo, by rw [hM]; exact rx_in 800 (by decide +kernel) (by decide +kernel), t_Mo_ok, n_Mo, by decide +kernel, Or.inr ⟨rfl, hI, hM.symm⟩⟩
theorem fl_Mo_22 : rx_fl "ScoreRoadsModel" 22 8 7 := ⟨_, _, _, rfl, by decide, w_Mo, rx_in 802 (by decide +kernel) (by decide +kernel)⟩
theorem fw_Mo_22 {M : rx_T} (hM : M.1.cls = "ScoreRoadsModel") (hI : M.1.name = "<init>") : rx_fw M 22 8 7 (.array .int) := ⟨_, F_Mo, 29, t_Mo, rfl, by decide, w_Mo, by rw [hM]; exact rx_in 802 (by decide +kernel) (by decide +kernel), t_Mo_ok, n_Mo, by decide +kernel, Or.inr ⟨rfl, hI, hM.symm⟩⟩
theorem fl_Mo_25 : rx_fl "ScoreRoadsModel" 25 8 8 := ⟨_, _, _, rfl, by decide, w_Mo, rx_in 803 (by decide +kernel) (by decide +kernel)⟩
theorem fw_Mo_25 {M : rx_T} (hM : M.1.cls = "ScoreRoadsModel") (hI : M.1.name = "<init>") : rx_fw M 25 8 8 (.array .int) := ⟨_, F_Mo, 29, t_Mo, rfl, by decide, w_Mo, by rw [hM]; exact rx_in 803 (by decide +kernel) (by decide +kernel), t_Mo_ok, n_Mo, by decide +kernel, Or.inr ⟨rfl, hI, hM.symm⟩⟩
theorem fl_Mo_28 : rx_fl "ScoreRoadsModel" 28 8 9 := ⟨_, _, _, rfl, by decide, w_Mo, rx_in 804 (by decide +kernel) (by decide +kernel)⟩
theorem fw_Mo_28 {M : rx_T} (hM : M.1.cls = "ScoreRoadsModel") (hI : M.1.name = "<init>") : rx_fw M 28 8 9 (.array .int) := ⟨_, F_Mo, 29, t_Mo, rfl, by decide, w_Mo, by rw [hM]; exact rx_in 804 (by decide +kernel) (by decide +kernel), t_Mo_ok, n_Mo, by decide +kernel, Or.inr ⟨rfl, hI, hM.symm⟩⟩
theorem fl_Mo_31 : rx_fl "ScoreRoadsModel" 31 8 10 := ⟨_, _, _, rfl, by decide, w_Mo, rx_in 805 (by decide +kernel) (by decide +kernel)⟩
theorem fw_Mo_31 {M : rx_T} (hM : M.1.cls = "ScoreRoadsModel") (hI : M.1.name = "<init>") : rx_fw M 31 8 10 (.array .int) := ⟨_, F_Mo, 29, t_Mo, rfl, by decide, w_Mo, by rw [hM]; exact rx_in 805 (by decide +kernel) (by decide +kernel), t_Mo_ok, n_Mo, by decide +kernel, Or.inr ⟨rfl, hI, hM.symm⟩⟩
theorem fl_Mo_34 : rx_fl "ScoreRoadsModel" 34 8 11 := ⟨_, _, _, rfl, by decide, w_Mo, rx_in 806 (by decide +kernel) (by decide +kernel)⟩
theorem fw_Mo_34 {M : rx_T} (hM : M.1.cls = "ScoreRoadsModel") (hI : M.1.name = "<init>") : rx_fw M 34 8 11 (.array .int) := ⟨_, F_Mo, 29, t_Mo, rfl, by decide, w_Mo, by rw [hM]; exact rx_in 806 (by decide +kernel) (by decide +kernel), t_Mo_ok, n_Mo, by decide +kernel, Or.inr ⟨rfl, hI, hM.symm⟩⟩
theorem fl_Mo_37 : rx_fl "ScoreRoadsModel" 37 8 12 := ⟨_, _, _, rfl, by decide, w_Mo, rx_in 807 (by decide +kernel) (by decide +kernel)⟩
theorem fw_Mo_37 {M : rx_T} (hM : M.1.cls = "ScoreRoadsModel") (hI : M.1.name = "<init>") : rx_fw M 37 8 12 (.array .boolean) := ⟨_, F_Mo, 29, t_Mo, rfl, by decide, w_Mo, by rw [hM]; exact rx_in 807 (by decide +kernel) (by decide +kernel), t_Mo_ok, n_Mo, by decide +kernel, Or.inr ⟨rfl, hI, hM.symm⟩⟩
theorem fl_Mo_41 : rx_fl "ScoreRoadsModel" 41 8 14 := ⟨_, _, _, rfl, by decide, w_Mo, rx_in 809 (by decide +kernel) (by decide +kernel)⟩
theorem fw_Mo_41 {M : rx_T} (hM : M.1.cls = "ScoreRoadsModel") (hI : M.1.name = "<init>") : rx_fw M 41 8 14 (.array .int) := ⟨_, F_Mo, 29, t_Mo, rfl, by decide, w_Mo, by rw [hM]; exact rx_in 809 (by decide +kernel) (by decide +kernel), t_Mo_ok, n_Mo, by decide +kernel, Or.inr ⟨rfl, hI, hM.symm⟩⟩
theorem fl_Mo_44 : rx_fl "ScoreRoadsModel" 44 8 15 := ⟨_, _, _, rfl, by decide, w_Mo, rx_in 810 (by decide +kernel) (by decide +kernel)⟩
theorem fw_Mo_44 {M : rx_T} (hM : M.1.cls = "ScoreRoadsModel") (hI : M.1.name = "<init>") : rx_fw M 44 8 15 (.array .int) := ⟨_, F_Mo, 29, t_Mo, rfl, by decide, w_Mo, by rw [hM]; exact rx_in 810 (by decide +kernel) (by decide +kernel), t_Mo_ok, n_Mo, by decide +kernel, Or.inr ⟨rfl, hI, hM.symm⟩⟩
theorem fl_Mo_47 : rx_fl "ScoreRoadsModel" 47 8 16 := ⟨_, _, _, rfl, by decide, w_Mo, rx_in 811 (by decide +kernel) (by decide +kernel)⟩
theorem fw_Mo_47 {M : rx_T} (hM : M.1.cls = "ScoreRoadsModel") (hI : M.1.name = "<init>") : rx_fw M 47 8 16 (.array .int) := ⟨_, F_Mo, 29, t_Mo, rfl, by decide, w_Mo, by rw [hM]; exact rx_in 811 (by decide +kernel) (by decide +kernel), t_Mo_ok, n_Mo, by decide +kernel, Or.inr ⟨rfl, hI, hM.symm⟩⟩
theorem fl_Mo_50 : rx_fl "ScoreRoadsModel" 50 8 17 := ⟨_, _, _, rfl, by decide, w_Mo, rx_in 812 (by decide +kernel) (by decide +kernel)⟩
theorem fw_Mo_50 {M : rx_T} (hM : M.1.cls = "ScoreRoadsModel") (hI : M.1.name = "<init>") : rx_fw M 50 8 17 (.array .int) := ⟨_, F_Mo, 29, t_Mo, rfl, by decide, w_Mo, by rw [hM]; exact rx_in 812 (by decide +kernel) (by decide +kernel), t_Mo_ok, n_Mo, by decide +kernel, Or.inr ⟨rfl, hI, hM.symm⟩⟩
theorem fl_Mo_53 : rx_fl "ScoreRoadsModel" 53 8 18 := ⟨_, _, _, rfl, by decide, w_Mo, rx_in 813 (by decide +kernel) (by decide +kernel)⟩
theorem fw_Mo_53 {M : rx_T} (hM : M.1.cls = "ScoreRoadsModel") (hI : M.1.name = "<init>") : rx_fw M 53 8 18 (.array .int) := ⟨_, F_Mo, 29, t_Mo, rfl, by decide, w_Mo, by rw [hM]; exact rx_in 813 (by decide +kernel) (by decide +kernel), t_Mo_ok, n_Mo, by decide +kernel, Or.inr ⟨rfl, hI, hM.symm⟩⟩
theorem fl_Mo_56 : rx_fl "ScoreRoadsModel" 56 8 25 := ⟨_, _, _, rfl, by decide, w_Mo, rx_in 820 (by decide +kernel) (by decide +kernel)⟩
theorem fw_Mo_56 {M : rx_T} (hM : M.1.cls = "ScoreRoadsModel") (hI : M.1.name = "<init>") : rx_fw M 56 8 25 (.array .int) := ⟨_, F_Mo, 29, t_Mo, rfl, by decide, w_Mo, by rw [hM]; exact rx_in 820 (by decide +kernel) (by decide +kernel), t_Mo_ok, n_Mo, by decide +kernel, Or.inr ⟨rfl, hI, hM.symm⟩⟩
theorem fl_Mo_59 : rx_fl "ScoreRoadsModel" 59 8 2 := ⟨_, _, _, rfl, by decide, w_Mo, rx_in 797 (by decide +kernel) (by decide +kernel)⟩
theorem fw_Mo_59 {M : rx_T} (hM : M.1.cls = "ScoreRoadsModel") (hI : M.1.name = "<init>") : rx_fw M 59 8 2 .int := ⟨_, F_Mo, 29, t_Mo, rfl, by decide, w_Mo, by rw [hM]; exact rx_in 797 (by decide +kernel) (by decide +kernel), t_Mo_ok, n_Mo, by decide +kernel, Or.inr ⟨rfl, hI, hM.symm⟩⟩
theorem fl_Mo_63 : rx_fl "ScoreRoadsModel" 63 8 1 := ⟨_, _, _, rfl, by decide, w_Mo, rx_in 796 (by decide +kernel) (by decide +kernel)⟩
theorem fw_Mo_63 {M : rx_T} (hM : M.1.cls = "ScoreRoadsModel") : rx_fw M 63 8 1 .int := ⟨_, F_Mo, 29, t_Mo, rfl, by decide, w_Mo, by rw [hM]; exact rx_in 796 (by decide +kernel) (by decide +kernel), t_Mo_ok, n_Mo, by decide +kernel, Or.inl rfl⟩
theorem fl_Mo_78 : rx_fl "ScoreRoadsModel" 78 8 6 := ⟨_, _, _, rfl, by decide, w_Mo, rx_in 801 (by decide +kernel) (by decide +kernel)⟩
theorem fw_Mo_78 {M : rx_T} (hM : M.1.cls = "ScoreRoadsModel") : rx_fw M 78 8 6 .int := ⟨_, F_Mo, 29, t_Mo, rfl, by decide, w_Mo, by rw [hM]; exact rx_in 801 (by decide +kernel) (by decide +kernel), t_Mo_ok, n_Mo, by decide +kernel, Or.inl rfl⟩
theorem fl_Mo_97 : rx_fl "ScoreRoadsModel" 97 8 13 := ⟨_, _, _, rfl, by decide, w_Mo, rx_in 808 (by decide +kernel) (by decide +kernel)⟩
theorem fw_Mo_97 {M : rx_T} (hM : M.1.cls = "ScoreRoadsModel") : rx_fw M 97 8 13 .int := ⟨_, F_Mo, 29, t_Mo, rfl, by decide, w_Mo, by rw [hM]; exact rx_in 808 (by decide +kernel) (by decide +kernel), t_Mo_ok, n_Mo, by decide +kernel, Or.inl rfl⟩
theorem fl_Mo_109 : rx_fl "ScoreRoadsModel" 109 8 19 := ⟨_, _, _, rfl, by decide, w_Mo, rx_in 814 (by decide +kernel) (by decide +kernel)⟩
theorem fw_Mo_109 {M : rx_T} (hM : M.1.cls = "ScoreRoadsModel") : rx_fw M 109 8 19 .int := ⟨_, F_Mo, 29, t_Mo, rfl, by decide, w_Mo, by rw [hM]; exact rx_in 814 (by decide +kernel) (by decide +kernel), t_Mo_ok, n_Mo, by decide +kernel, Or.inl rfl⟩
theorem fl_Mo_145 : rx_fl "ScoreRoadsModel" 145 8 22 := ⟨_, _, _, rfl, by decide, w_Mo, rx_in 817 (by decide +kernel) (by decide +kernel)⟩
theorem fw_Mo_145 {M : rx_T} (hM : M.1.cls = "ScoreRoadsModel") : rx_fw M 145 8 22 .int := ⟨_, F_Mo, 29, t_Mo, rfl, by decide, w_Mo, by rw [hM]; exact rx_in 817 (by decide +kernel) (by decide +kernel), t_Mo_ok, n_Mo, by decide +kernel, Or.inl rfl⟩
theorem fl_Mo_148 : rx_fl "ScoreRoadsModel" 148 8 20 := ⟨_, _, _, rfl, by decide, w_Mo, rx_in 815 (by decide +kernel) (by decide +kernel)⟩
theorem fw_Mo_148 {M : rx_T} (hM : M.1.cls = "ScoreRoadsModel") : rx_fw M 148 8 20 .int := ⟨_, F_Mo, 29, t_Mo, rfl, by decide, w_Mo, by rw [hM]; exact rx_in 815 (by decide +kernel) (by decide +kernel), t_Mo_ok, n_Mo, by decide +kernel, Or.inl rfl⟩
theorem fl_Mo_155 : rx_fl "ScoreRoadsModel" 155 8 21 := ⟨_, _, _, rfl, by decide, w_Mo, rx_in 816 (by decide +kernel) (by decide +kernel)⟩
theorem fw_Mo_155 {M : rx_T} (hM : M.1.cls = "ScoreRoadsModel") : rx_fw M 155 8 21 .boolean := ⟨_, F_Mo, 29, t_Mo, rfl, by decide, w_Mo, by rw [hM]; exact rx_in 816 (by decide +kernel) (by decide +kernel), t_Mo_ok, n_Mo, by decide +kernel, Or.inl rfl⟩
theorem fl_Mo_159 : rx_fl "ScoreRoadsModel" 159 8 24 := ⟨_, _, _, rfl, by decide, w_Mo, rx_in 819 (by decide +kernel) (by decide +kernel)⟩
theorem fw_Mo_159 {M : rx_T} (hM : M.1.cls = "ScoreRoadsModel") : rx_fw M 159 8 24 .int := ⟨_, F_Mo, 29, t_Mo, rfl, by decide, w_Mo, by rw [hM]; exact rx_in 819 (by decide +kernel) (by decide +kernel), t_Mo_ok, n_Mo, by decide +kernel, Or.inl rfl⟩
theorem fl_Mo_174 : rx_fl "ScoreRoadsModel" 174 8 23 := ⟨_, _, _, rfl, by decide, w_Mo, rx_in 818 (by decide +kernel) (by decide +kernel)⟩
theorem fw_Mo_174 {M : rx_T} (hM : M.1.cls = "ScoreRoadsModel") : rx_fw M 174 8 23 .boolean := ⟨_, F_Mo, 29, t_Mo, rfl, by decide, w_Mo, by rw [hM]; exact rx_in 818 (by decide +kernel) (by decide +kernel), t_Mo_ok, n_Mo, by decide +kernel, Or.inl rfl⟩
theorem fl_Mo_196 : rx_fl "ScoreRoadsModel" 196 8 26 := ⟨_, _, _, rfl, by decide, w_Mo, rx_in 821 (by decide +kernel) (by decide +kernel)⟩
theorem fw_Mo_196 {M : rx_T} (hM : M.1.cls = "ScoreRoadsModel") : rx_fw M 196 8 26 .long := ⟨_, F_Mo, 29, t_Mo, rfl, by decide, w_Mo, by rw [hM]; exact rx_in 821 (by decide +kernel) (by decide +kernel), t_Mo_ok, n_Mo, by decide +kernel, Or.inl rfl⟩
theorem fl_Mo_200 : rx_fl "ScoreRoadsModel" 200 8 27 := ⟨_, _, _, rfl, by decide, w_Mo, rx_in 822 (by decide +kernel) (by decide +kernel)⟩
theorem fw_Mo_200 {M : rx_T} (hM : M.1.cls = "ScoreRoadsModel") : rx_fw M 200 8 27 .long := ⟨_, F_Mo, 29, t_Mo, rfl, by decide, w_Mo, by rw [hM]; exact rx_in 822 (by decide +kernel) (by decide +kernel), t_Mo_ok, n_Mo, by decide +kernel, Or.inl rfl⟩
theorem fl_Mo_203 : rx_fl "ScoreRoadsModel" 203 8 28 := ⟨_, _, _, rfl, by decide, w_Mo, rx_in 823 (by decide +kernel) (by decide +kernel)⟩
theorem fw_Mo_203 {M : rx_T} (hM : M.1.cls = "ScoreRoadsModel") : rx_fw M 203 8 28 .long := ⟨_, F_Mo, 29, t_Mo, rfl, by decide, w_Mo, by rw [hM]; exact rx_in 823 (by decide +kernel) (by decide +kernel), t_Mo_ok, n_Mo, by decide +kernel, Or.inl rfl⟩
theorem ml_SR_11 : Cond.methodLink "ScoreRoads" 11 m_Page_init.1 ∈ rx_tbl := rx_in 30 (by decide +kernel) (by decide +kernel)
theorem ml_SR_20 : Cond.methodLink "ScoreRoads" 20 m_Notes_init.1 ∈ rx_tbl := rx_in 56 (by decide +kernel) (by decide +kernel)
theorem ml_SR_27 : Cond.methodLink "ScoreRoads" 27 m_Repeats_init.1 ∈ rx_tbl := rx_in 73 (by decide +kernel) (by decide +kernel)
theorem ml_SR_34 : Cond.methodLink "ScoreRoads" 34 m_Road_init.1 ∈ rx_tbl := rx_in 133 (by decide +kernel) (by decide +kernel)
theorem ml_SR_41 : Cond.methodLink "ScoreRoads" 41 m_Sounding_init.1 ∈ rx_tbl := rx_in 160 (by decide +kernel) (by decide +kernel)
theorem ml_SR_46 : Cond.methodLink "ScoreRoads" 46 m_Page_hasBar.1 ∈ rx_tbl := rx_in 382 (by decide +kernel) (by decide +kernel)
theorem ml_SR_50 : Cond.methodLink "ScoreRoads" 50 m_SR_isWithin.1 ∈ rx_tbl := rx_in 383 (by decide +kernel) (by decide +kernel)
theorem ml_SR_61 : Cond.methodLink "ScoreRoads" 61 m_Notes_endIn.1 ∈ rx_tbl := rx_in 454 (by decide +kernel) (by decide +kernel)
theorem ml_SR_70 : Cond.methodLink "ScoreRoads" 70 m_Page_shape.1 ∈ rx_tbl := rx_in 479 (by decide +kernel) (by decide +kernel)
theorem ml_SR_74 : Cond.methodLink "ScoreRoads" 74 m_Sounding_forget.1 ∈ rx_tbl := rx_in 484 (by decide +kernel) (by decide +kernel)
theorem ml_SR_77 : Cond.methodLink "ScoreRoads" 77 m_SR_isKind.1 ∈ rx_tbl := rx_in 495 (by decide +kernel) (by decide +kernel)
theorem ml_SR_80 : Cond.methodLink "ScoreRoads" 80 m_SR_isValue.1 ∈ rx_tbl := rx_in 498 (by decide +kernel) (by decide +kernel)
theorem ml_SR_86 : Cond.methodLink "ScoreRoads" 86 m_Page_value.1 ∈ rx_tbl := rx_in 205 (by decide +kernel) (by decide +kernel)
theorem ml_SR_92 : Cond.methodLink "ScoreRoads" 92 m_Page_put.1 ∈ rx_tbl := rx_in 507 (by decide +kernel) (by decide +kernel)
theorem ml_SR_99 : Cond.methodLink "ScoreRoads" 99 m_SR_needPart.1 ∈ rx_tbl := rx_in 519 (by decide +kernel) (by decide +kernel)
theorem ml_SR_104 : Cond.methodLink "ScoreRoads" 104 m_Page_lengthOf.1 ∈ rx_tbl := rx_in 524 (by decide +kernel) (by decide +kernel)
theorem ml_SR_109 : Cond.methodLink "ScoreRoads" 109 m_Notes_isFull.1 ∈ rx_tbl := rx_in 529 (by decide +kernel) (by decide +kernel)
theorem ml_SR_113 : Cond.methodLink "ScoreRoads" 113 m_Notes_seek.1 ∈ rx_tbl := rx_in 533 (by decide +kernel) (by decide +kernel)
theorem ml_SR_121 : Cond.methodLink "ScoreRoads" 121 m_Note_init.1 ∈ rx_tbl := rx_in 544 (by decide +kernel) (by decide +kernel)
theorem ml_SR_124 : Cond.methodLink "ScoreRoads" 124 m_Notes_add.1 ∈ rx_tbl := rx_in 575 (by decide +kernel) (by decide +kernel)
theorem ml_SR_132 : Cond.methodLink "ScoreRoads" 132 m_Notes_canShift.1 ∈ rx_tbl := rx_in 591 (by decide +kernel) (by decide +kernel)
theorem ml_SR_137 : Cond.methodLink "ScoreRoads" 137 m_Notes_shift.1 ∈ rx_tbl := rx_in 597 (by decide +kernel) (by decide +kernel)
theorem ml_SR_140 : Cond.methodLink "ScoreRoads" 140 m_SR_knowRoad.1 ∈ rx_tbl := rx_in 213 (by decide +kernel) (by decide +kernel)
theorem ml_SR_147 : Cond.methodLink "ScoreRoads" 147 m_SR_needRoad.1 ∈ rx_tbl := rx_in 609 (by decide +kernel) (by decide +kernel)
theorem ml_SR_150 : Cond.methodLink "ScoreRoads" 150 m_SR_needPlayed.1 ∈ rx_tbl := rx_in 614 (by decide +kernel) (by decide +kernel)
theorem ml_SR_154 : Cond.methodLink "ScoreRoads" 154 m_Road_barOf.1 ∈ rx_tbl := rx_in 633 (by decide +kernel) (by decide +kernel)
theorem ml_SR_157 : Cond.methodLink "ScoreRoads" 157 m_Road_timesUpTo.1 ∈ rx_tbl := rx_in 645 (by decide +kernel) (by decide +kernel)
theorem ml_SR_160 : Cond.methodLink "ScoreRoads" 160 m_Road_indexOf.1 ∈ rx_tbl := rx_in 657 (by decide +kernel) (by decide +kernel)
theorem ml_SR_163 : Cond.methodLink "ScoreRoads" 163 m_Road_ticksTo.1 ∈ rx_tbl := rx_in 668 (by decide +kernel) (by decide +kernel)
theorem ml_SR_167 : Cond.methodLink "ScoreRoads" 167 m_Road_indexAt.1 ∈ rx_tbl := rx_in 687 (by decide +kernel) (by decide +kernel)
theorem ml_SR_171 : Cond.methodLink "ScoreRoads" 171 m_Sounding_know.1 ∈ rx_tbl := rx_in 698 (by decide +kernel) (by decide +kernel)
theorem ml_SR_178 : Cond.methodLink "ScoreRoads" 178 m_Sounding_beginOf.1 ∈ rx_tbl := rx_in 731 (by decide +kernel) (by decide +kernel)
theorem ml_SR_182 : Cond.methodLink "ScoreRoads" 182 m_Sounding_pitchOf.1 ∈ rx_tbl := rx_in 743 (by decide +kernel) (by decide +kernel)
theorem ml_SR_185 : Cond.methodLink "ScoreRoads" 185 m_Sounding_lengthOf.1 ∈ rx_tbl := rx_in 747 (by decide +kernel) (by decide +kernel)
theorem ml_SR_191 : Cond.methodLink "ScoreRoads" 191 m_Notes_isRest.1 ∈ rx_tbl := rx_in 763 (by decide +kernel) (by decide +kernel)
theorem ml_SR_194 : Cond.methodLink "ScoreRoads" 194 m_SR_goesOnResting.1 ∈ rx_tbl := rx_in 767 (by decide +kernel) (by decide +kernel)
theorem ml_SR_197 : Cond.methodLink "ScoreRoads" 197 m_SR_restBars.1 ∈ rx_tbl := rx_in 785 (by decide +kernel) (by decide +kernel)
theorem ml_SR_200 : Cond.methodLink "ScoreRoads" 200 m_Page_isCutBefore.1 ∈ rx_tbl := rx_in 771 (by decide +kernel) (by decide +kernel)
theorem ml_SR_203 : Cond.methodLink "ScoreRoads" 203 m_Repeats_gather.1 ∈ rx_tbl := rx_in 217 (by decide +kernel) (by decide +kernel)
theorem ml_SR_207 : Cond.methodLink "ScoreRoads" 207 m_Faults_least.1 ∈ rx_tbl := rx_in 264 (by decide +kernel) (by decide +kernel)
theorem ml_SR_213 : Cond.methodLink "ScoreRoads" 213 m_Road_walk.1 ∈ rx_tbl := rx_in 323 (by decide +kernel) (by decide +kernel)
theorem ml_Faults_17 : Cond.methodLink "ScoreRoads$Faults" 17 m_Faults_isThere.1 ∈ rx_tbl := rx_in 267 (by decide +kernel) (by decide +kernel)
theorem ml_Faults_21 : Cond.methodLink "ScoreRoads$Faults" 21 m_Page_has.1 ∈ rx_tbl := rx_in 270 (by decide +kernel) (by decide +kernel)
theorem ml_Faults_25 : Cond.methodLink "ScoreRoads$Faults" 25 m_Faults_isNeverEnded.1 ∈ rx_tbl := rx_in 271 (by decide +kernel) (by decide +kernel)
theorem ml_Faults_29 : Cond.methodLink "ScoreRoads$Faults" 29 m_Faults_isStrayEnding.1 ∈ rx_tbl := rx_in 274 (by decide +kernel) (by decide +kernel)
theorem ml_Faults_33 : Cond.methodLink "ScoreRoads$Faults" 33 m_Faults_isUnlikeItsRepeat.1 ∈ rx_tbl := rx_in 281 (by decide +kernel) (by decide +kernel)
theorem ml_Faults_37 : Cond.methodLink "ScoreRoads$Faults" 37 m_Faults_isFirstOfWrongPasses.1 ∈ rx_tbl := rx_in 287 (by decide +kernel) (by decide +kernel)
theorem ml_Faults_40 : Cond.methodLink "ScoreRoads$Faults" 40 m_Faults_isSecond.1 ∈ rx_tbl := rx_in 305 (by decide +kernel) (by decide +kernel)
theorem ml_Faults_44 : Cond.methodLink "ScoreRoads$Faults" 44 m_Jump_target.1 ∈ rx_tbl := rx_in 309 (by decide +kernel) (by decide +kernel)
theorem ml_Faults_50 : Cond.methodLink "ScoreRoads$Faults" 50 m_Faults_lacksItsWay.1 ∈ rx_tbl := rx_in 317 (by decide +kernel) (by decide +kernel)
theorem ml_Faults_53 : Cond.methodLink "ScoreRoads$Faults" 53 m_Repeats_ofEnding.1 ∈ rx_tbl := rx_in 277 (by decide +kernel) (by decide +kernel)
theorem ml_Faults_67 : Cond.methodLink "ScoreRoads$Faults" 67 m_Repeats_ofEnd.1 ∈ rx_tbl := rx_in 284 (by decide +kernel) (by decide +kernel)
theorem ml_Faults_70 : Cond.methodLink "ScoreRoads$Faults" 70 m_Repeat_hasEndings.1 ∈ rx_tbl := rx_in 285 (by decide +kernel) (by decide +kernel)
theorem ml_Faults_74 : Cond.methodLink "ScoreRoads$Faults" 74 m_Page_value.1 ∈ rx_tbl := rx_in 286 (by decide +kernel) (by decide +kernel)
theorem ml_Faults_81 : Cond.methodLink "ScoreRoads$Faults" 81 m_Repeats_around.1 ∈ rx_tbl := rx_in 290 (by decide +kernel) (by decide +kernel)
theorem ml_Faults_90 : Cond.methodLink "ScoreRoads$Faults" 90 m_Page_hasPass.1 ∈ rx_tbl := rx_in 298 (by decide +kernel) (by decide +kernel)
theorem ml_Faults_93 : Cond.methodLink "ScoreRoads$Faults" 93 m_Page_lastWith.1 ∈ rx_tbl := rx_in 308 (by decide +kernel) (by decide +kernel)
theorem ml_Faults_97 : Cond.methodLink "ScoreRoads$Faults" 97 m_Jump_way.1 ∈ rx_tbl := rx_in 320 (by decide +kernel) (by decide +kernel)
theorem ml_Jump_9 : Cond.methodLink "ScoreRoads$Jump" 9 m_Page_value.1 ∈ rx_tbl := rx_in 312 (by decide +kernel) (by decide +kernel)
theorem ml_Jump_15 : Cond.methodLink "ScoreRoads$Jump" 15 m_Jump_isToSegno.1 ∈ rx_tbl := rx_in 313 (by decide +kernel) (by decide +kernel)
theorem ml_Jump_21 : Cond.methodLink "ScoreRoads$Jump" 21 m_Page_lastWith.1 ∈ rx_tbl := rx_in 316 (by decide +kernel) (by decide +kernel)
theorem ml_Note_29 : Cond.methodLink "ScoreRoads$Note" 29 m_Note_end.1 ∈ rx_tbl := rx_in 721 (by decide +kernel) (by decide +kernel)
theorem ml_Note_33 : Cond.methodLink "ScoreRoads$Note" 33 m_Page_lengthOf.1 ∈ rx_tbl := rx_in 722 (by decide +kernel) (by decide +kernel)
theorem ml_Notes_21 : Cond.methodLink "ScoreRoads$Notes" 21 m_Notes_isFull.1 ∈ rx_tbl := rx_in 579 (by decide +kernel) (by decide +kernel)
theorem ml_Notes_25 : Cond.methodLink "ScoreRoads$Notes" 25 m_Note_isBehind.1 ∈ rx_tbl := rx_in 580 (by decide +kernel) (by decide +kernel)
theorem ml_Notes_33 : Cond.methodLink "ScoreRoads$Notes" 33 m_Note_isIn.1 ∈ rx_tbl := rx_in 537 (by decide +kernel) (by decide +kernel)
theorem ml_Notes_46 : Cond.methodLink "ScoreRoads$Notes" 46 m_Note_end.1 ∈ rx_tbl := rx_in 458 (by decide +kernel) (by decide +kernel)
theorem ml_Notes_50 : Cond.methodLink "ScoreRoads$Notes" 50 m_JM_max.1 ∈ rx_tbl := rx_in 462 (by decide +kernel) (by decide +kernel)
theorem ml_Notes_61 : Cond.methodLink "ScoreRoads$Notes" 61 m_Note_reachesOver.1 ∈ rx_tbl := rx_in 717 (by decide +kernel) (by decide +kernel)
theorem ml_Notes_65 : Cond.methodLink "ScoreRoads$Notes" 65 m_Notes_seek.1 ∈ rx_tbl := rx_in 755 (by decide +kernel) (by decide +kernel)
theorem ml_Page_25 : Cond.methodLink "ScoreRoads$Page" 25 m_JA_fill.1 ∈ rx_tbl := rx_in 34 (by decide +kernel) (by decide +kernel)
theorem ml_Page_31 : Cond.methodLink "ScoreRoads$Page" 31 m_Page_hasBar.1 ∈ rx_tbl := rx_in 483 (by decide +kernel) (by decide +kernel)
theorem ml_Page_38 : Cond.methodLink "ScoreRoads$Page" 38 m_Page_value.1 ∈ rx_tbl := rx_in 229 (by decide +kernel) (by decide +kernel)
theorem ml_Page_42 : Cond.methodLink "ScoreRoads$Page" 42 m_Page_passBit.1 ∈ rx_tbl := rx_in 302 (by decide +kernel) (by decide +kernel)
theorem ml_Page_46 : Cond.methodLink "ScoreRoads$Page" 46 m_JM_min.1 ∈ rx_tbl := rx_in 238 (by decide +kernel) (by decide +kernel)
theorem ml_Page_51 : Cond.methodLink "ScoreRoads$Page" 51 m_JM_max.1 ∈ rx_tbl := rx_in 241 (by decide +kernel) (by decide +kernel)
theorem ml_Page_54 : Cond.methodLink "ScoreRoads$Page" 54 m_Page_opensCut.1 ∈ rx_tbl := rx_in 775 (by decide +kernel) (by decide +kernel)
theorem ml_Page_57 : Cond.methodLink "ScoreRoads$Page" 57 m_Page_closesCut.1 ∈ rx_tbl := rx_in 780 (by decide +kernel) (by decide +kernel)
theorem ml_Page_60 : Cond.methodLink "ScoreRoads$Page" 60 m_Page_lengthOf.1 ∈ rx_tbl := rx_in 784 (by decide +kernel) (by decide +kernel)
theorem ml_Page_63 : Cond.methodLink "ScoreRoads$Page" 63 m_Page_has.1 ∈ rx_tbl := rx_in 779 (by decide +kernel) (by decide +kernel)
theorem ml_Repeats_28 : Cond.methodLink "ScoreRoads$Repeats" 28 m_Repeats_gatherEnds.1 ∈ rx_tbl := rx_in 221 (by decide +kernel) (by decide +kernel)
theorem ml_Repeats_32 : Cond.methodLink "ScoreRoads$Repeats" 32 m_Repeats_gatherEndings.1 ∈ rx_tbl := rx_in 248 (by decide +kernel) (by decide +kernel)
theorem ml_Repeats_36 : Cond.methodLink "ScoreRoads$Repeats" 36 m_Page_has.1 ∈ rx_tbl := rx_in 225 (by decide +kernel) (by decide +kernel)
theorem ml_Repeats_42 : Cond.methodLink "ScoreRoads$Repeats" 42 m_Repeats_begin.1 ∈ rx_tbl := rx_in 230 (by decide +kernel) (by decide +kernel)
theorem ml_Repeats_49 : Cond.methodLink "ScoreRoads$Repeats" 49 m_Repeats_goesOn.1 ∈ rx_tbl := rx_in 245 (by decide +kernel) (by decide +kernel)
theorem ml_Repeats_53 : Cond.methodLink "ScoreRoads$Repeats" 53 m_Page_lastWith.1 ∈ rx_tbl := rx_in 234 (by decide +kernel) (by decide +kernel)
theorem ml_Repeats_69 : Cond.methodLink "ScoreRoads$Repeats" 69 m_Page_value.1 ∈ rx_tbl := rx_in 244 (by decide +kernel) (by decide +kernel)
theorem ml_Repeats_76 : Cond.methodLink "ScoreRoads$Repeats" 76 m_Repeats_takeEnding.1 ∈ rx_tbl := rx_in 252 (by decide +kernel) (by decide +kernel)
theorem ml_Repeats_80 : Cond.methodLink "ScoreRoads$Repeats" 80 m_Repeat_hasEndings.1 ∈ rx_tbl := rx_in 256 (by decide +kernel) (by decide +kernel)
theorem ml_Repeats_84 : Cond.methodLink "ScoreRoads$Repeats" 84 m_Repeats_ofEnd.1 ∈ rx_tbl := rx_in 260 (by decide +kernel) (by decide +kernel)
theorem ml_Repeats_88 : Cond.methodLink "ScoreRoads$Repeats" 88 m_Repeat_spans.1 ∈ rx_tbl := rx_in 294 (by decide +kernel) (by decide +kernel)
theorem ml_Road_32 : Cond.methodLink "ScoreRoads$Road" 32 m_Repeats_resetPasses.1 ∈ rx_tbl := rx_in 327 (by decide +kernel) (by decide +kernel)
theorem ml_Road_37 : Cond.methodLink "ScoreRoads$Road" 37 m_Road_insteadOf.1 ∈ rx_tbl := rx_in 331 (by decide +kernel) (by decide +kernel)
theorem ml_Road_41 : Cond.methodLink "ScoreRoads$Road" 41 m_Road_isToComeAgain.1 ∈ rx_tbl := rx_in 337 (by decide +kernel) (by decide +kernel)
theorem ml_Road_45 : Cond.methodLink "ScoreRoads$Road" 45 m_Road_leaveRepeatAtLastPass.1 ∈ rx_tbl := rx_in 342 (by decide +kernel) (by decide +kernel)
theorem ml_Road_49 : Cond.methodLink "ScoreRoads$Road" 49 m_Road_behind.1 ∈ rx_tbl := rx_in 345 (by decide +kernel) (by decide +kernel)
theorem ml_Road_53 : Cond.methodLink "ScoreRoads$Road" 53 m_Repeats_ofEnding.1 ∈ rx_tbl := rx_in 335 (by decide +kernel) (by decide +kernel)
theorem ml_Road_68 : Cond.methodLink "ScoreRoads$Road" 68 m_Page_hasPass.1 ∈ rx_tbl := rx_in 336 (by decide +kernel) (by decide +kernel)
theorem ml_Road_74 : Cond.methodLink "ScoreRoads$Road" 74 m_Repeats_around.1 ∈ rx_tbl := rx_in 341 (by decide +kernel) (by decide +kernel)
theorem ml_Road_77 : Cond.methodLink "ScoreRoads$Road" 77 m_Repeats_ofEnd.1 ∈ rx_tbl := rx_in 349 (by decide +kernel) (by decide +kernel)
theorem ml_Road_85 : Cond.methodLink "ScoreRoads$Road" 85 m_Page_has.1 ∈ rx_tbl := rx_in 350 (by decide +kernel) (by decide +kernel)
theorem ml_Road_91 : Cond.methodLink "ScoreRoads$Road" 91 m_Page_lastWith.1 ∈ rx_tbl := rx_in 351 (by decide +kernel) (by decide +kernel)
theorem ml_Road_95 : Cond.methodLink "ScoreRoads$Road" 95 m_Road_jumpFrom.1 ∈ rx_tbl := rx_in 352 (by decide +kernel) (by decide +kernel)
theorem ml_Road_98 : Cond.methodLink "ScoreRoads$Road" 98 m_Page_hasBar.1 ∈ rx_tbl := rx_in 362 (by decide +kernel) (by decide +kernel)
theorem ml_Road_102 : Cond.methodLink "ScoreRoads$Road" 102 m_Page_value.1 ∈ rx_tbl := rx_in 356 (by decide +kernel) (by decide +kernel)
theorem ml_Road_106 : Cond.methodLink "ScoreRoads$Road" 106 m_Jump_way.1 ∈ rx_tbl := rx_in 357 (by decide +kernel) (by decide +kernel)
theorem ml_Road_109 : Cond.methodLink "ScoreRoads$Road" 109 m_Jump_hasRepeats.1 ∈ rx_tbl := rx_in 358 (by decide +kernel) (by decide +kernel)
theorem ml_Road_112 : Cond.methodLink "ScoreRoads$Road" 112 m_Jump_target.1 ∈ rx_tbl := rx_in 361 (by decide +kernel) (by decide +kernel)
theorem ml_Road_120 : Cond.methodLink "ScoreRoads$Road" 120 m_Road_barOf.1 ∈ rx_tbl := rx_in 649 (by decide +kernel) (by decide +kernel)
theorem ml_Road_123 : Cond.methodLink "ScoreRoads$Road" 123 m_Road_ticksOf.1 ∈ rx_tbl := rx_in 672 (by decide +kernel) (by decide +kernel)
theorem ml_Road_127 : Cond.methodLink "ScoreRoads$Road" 127 m_Page_lengthOf.1 ∈ rx_tbl := rx_in 675 (by decide +kernel) (by decide +kernel)
theorem ml_Road_130 : Cond.methodLink "ScoreRoads$Road" 130 m_Page_tempoOf.1 ∈ rx_tbl := rx_in 676 (by decide +kernel) (by decide +kernel)
theorem ml_Sounding_31 : Cond.methodLink "ScoreRoads$Sounding" 31 m_Sounding_gather.1 ∈ rx_tbl := rx_in 702 (by decide +kernel) (by decide +kernel)
theorem ml_Sounding_38 : Cond.methodLink "ScoreRoads$Sounding" 38 m_Notes_get.1 ∈ rx_tbl := rx_in 706 (by decide +kernel) (by decide +kernel)
theorem ml_Sounding_42 : Cond.methodLink "ScoreRoads$Sounding" 42 m_Road_barOf.1 ∈ rx_tbl := rx_in 711 (by decide +kernel) (by decide +kernel)
theorem ml_Sounding_46 : Cond.methodLink "ScoreRoads$Sounding" 46 m_Note_isIn.1 ∈ rx_tbl := rx_in 712 (by decide +kernel) (by decide +kernel)
theorem ml_Sounding_50 : Cond.methodLink "ScoreRoads$Sounding" 50 m_Notes_isGoingOn.1 ∈ rx_tbl := rx_in 713 (by decide +kernel) (by decide +kernel)
theorem ml_Sounding_58 : Cond.methodLink "ScoreRoads$Sounding" 58 m_Sounding_firstOf.1 ∈ rx_tbl := rx_in 735 (by decide +kernel) (by decide +kernel)
theorem ml_Sounding_63 : Cond.methodLink "ScoreRoads$Sounding" 63 m_Road_ticksTo.1 ∈ rx_tbl := rx_in 741 (by decide +kernel) (by decide +kernel)
theorem ml_Sounding_73 : Cond.methodLink "ScoreRoads$Sounding" 73 m_Page_tempoOf.1 ∈ rx_tbl := rx_in 742 (by decide +kernel) (by decide +kernel)
theorem ml_Sounding_84 : Cond.methodLink "ScoreRoads$Sounding" 84 m_Notes_goingOn.1 ∈ rx_tbl := rx_in 751 (by decide +kernel) (by decide +kernel)
theorem ml_La_7 : Cond.methodLink "ScoreRoadsLaw" 7 m_SR_bar.1 ∈ rx_tbl := rx_in 378 (by decide +kernel) (by decide +kernel)
theorem ml_La_17 : Cond.methodLink "ScoreRoadsLaw" 17 m_SR_sign.1 ∈ rx_tbl := rx_in 491 (by decide +kernel) (by decide +kernel)
theorem ml_La_21 : Cond.methodLink "ScoreRoadsLaw" 21 m_SR_note.1 ∈ rx_tbl := rx_in 515 (by decide +kernel) (by decide +kernel)
theorem ml_La_25 : Cond.methodLink "ScoreRoadsLaw" 25 m_SR_transpose.1 ∈ rx_tbl := rx_in 587 (by decide +kernel) (by decide +kernel)
theorem ml_La_29 : Cond.methodLink "ScoreRoadsLaw" 29 m_SR_played.1 ∈ rx_tbl := rx_in 605 (by decide +kernel) (by decide +kernel)
theorem ml_La_35 : Cond.methodLink "ScoreRoadsLaw" 35 m_SR_time.1 ∈ rx_tbl := rx_in 641 (by decide +kernel) (by decide +kernel)
theorem ml_La_38 : Cond.methodLink "ScoreRoadsLaw" 38 m_SR_find.1 ∈ rx_tbl := rx_in 653 (by decide +kernel) (by decide +kernel)
theorem ml_La_41 : Cond.methodLink "ScoreRoadsLaw" 41 m_SR_tick.1 ∈ rx_tbl := rx_in 664 (by decide +kernel) (by decide +kernel)
theorem ml_La_45 : Cond.methodLink "ScoreRoadsLaw" 45 m_SR_at.1 ∈ rx_tbl := rx_in 683 (by decide +kernel) (by decide +kernel)
theorem ml_La_49 : Cond.methodLink "ScoreRoadsLaw" 49 m_SR_sounds.1 ∈ rx_tbl := rx_in 694 (by decide +kernel) (by decide +kernel)
theorem ml_La_52 : Cond.methodLink "ScoreRoadsLaw" 52 m_SR_sound.1 ∈ rx_tbl := rx_in 726 (by decide +kernel) (by decide +kernel)
theorem ml_La_56 : Cond.methodLink "ScoreRoadsLaw" 56 m_SR_rest.1 ∈ rx_tbl := rx_in 759 (by decide +kernel) (by decide +kernel)
theorem ml_La_59 : Cond.methodLink "ScoreRoadsLaw" 59 m_La_cell.1 ∈ rx_tbl := rx_in 370 (by decide +kernel) (by decide +kernel)
theorem ml_La_65 : Cond.methodLink "ScoreRoadsLaw" 65 m_SR_init.1 ∈ rx_tbl := rx_in 22 (by decide +kernel) (by decide +kernel)
theorem ml_La_70 : Cond.methodLink "ScoreRoadsLaw" 70 m_Mo_init.1 ∈ rx_tbl := rx_in 791 (by decide +kernel) (by decide +kernel)
theorem ml_La_71 : Cond.methodLink "ScoreRoadsLaw" 71 m_La_bar.1 ∈ rx_tbl := rx_in 373 (by decide +kernel) (by decide +kernel)
theorem ml_La_74 : Cond.methodLink "ScoreRoadsLaw" 74 m_Mo_bar.1 ∈ rx_tbl := rx_in 888 (by decide +kernel) (by decide +kernel)
theorem ml_La_75 : Cond.methodLink "ScoreRoadsLaw" 75 m_Mo_thrown.1 ∈ rx_tbl := rx_in 884 (by decide +kernel) (by decide +kernel)
theorem ml_La_79 : Cond.methodLink "ScoreRoadsLaw" 79 m_La_sign.1 ∈ rx_tbl := rx_in 488 (by decide +kernel) (by decide +kernel)
theorem ml_La_82 : Cond.methodLink "ScoreRoadsLaw" 82 m_Mo_sign.1 ∈ rx_tbl := rx_in 899 (by decide +kernel) (by decide +kernel)
theorem ml_La_83 : Cond.methodLink "ScoreRoadsLaw" 83 m_SR_signAt.1 ∈ rx_tbl := rx_in 201 (by decide +kernel) (by decide +kernel)
theorem ml_La_86 : Cond.methodLink "ScoreRoadsLaw" 86 m_Mo_signAt.1 ∈ rx_tbl := rx_in 903 (by decide +kernel) (by decide +kernel)
theorem ml_La_87 : Cond.methodLink "ScoreRoadsLaw" 87 m_La_note.1 ∈ rx_tbl := rx_in 512 (by decide +kernel) (by decide +kernel)
theorem ml_La_90 : Cond.methodLink "ScoreRoadsLaw" 90 m_Mo_note.1 ∈ rx_tbl := rx_in 907 (by decide +kernel) (by decide +kernel)
theorem ml_La_91 : Cond.methodLink "ScoreRoadsLaw" 91 m_La_transpose.1 ∈ rx_tbl := rx_in 584 (by decide +kernel) (by decide +kernel)
theorem ml_La_94 : Cond.methodLink "ScoreRoadsLaw" 94 m_Mo_transpose.1 ∈ rx_tbl := rx_in 918 (by decide +kernel) (by decide +kernel)
theorem ml_La_95 : Cond.methodLink "ScoreRoadsLaw" 95 m_SR_check.1 ∈ rx_tbl := rx_in 209 (by decide +kernel) (by decide +kernel)
theorem ml_La_98 : Cond.methodLink "ScoreRoadsLaw" 98 m_Mo_check.1 ∈ rx_tbl := rx_in 923 (by decide +kernel) (by decide +kernel)
theorem ml_La_99 : Cond.methodLink "ScoreRoadsLaw" 99 m_SR_plays.1 ∈ rx_tbl := rx_in 366 (by decide +kernel) (by decide +kernel)
theorem ml_La_102 : Cond.methodLink "ScoreRoadsLaw" 102 m_Mo_plays.1 ∈ rx_tbl := rx_in 990 (by decide +kernel) (by decide +kernel)
theorem ml_La_103 : Cond.methodLink "ScoreRoadsLaw" 103 m_La_played.1 ∈ rx_tbl := rx_in 601 (by decide +kernel) (by decide +kernel)
theorem ml_La_106 : Cond.methodLink "ScoreRoadsLaw" 106 m_Mo_played.1 ∈ rx_tbl := rx_in 1026 (by decide +kernel) (by decide +kernel)
theorem ml_La_107 : Cond.methodLink "ScoreRoadsLaw" 107 m_La_time.1 ∈ rx_tbl := rx_in 638 (by decide +kernel) (by decide +kernel)
theorem ml_La_109 : Cond.methodLink "ScoreRoadsLaw" 109 m_Mo_time.1 ∈ rx_tbl := rx_in 1034 (by decide +kernel) (by decide +kernel)
theorem ml_La_110 : Cond.methodLink "ScoreRoadsLaw" 110 m_La_find.1 ∈ rx_tbl := rx_in 650 (by decide +kernel) (by decide +kernel)
theorem ml_La_112 : Cond.methodLink "ScoreRoadsLaw" 112 m_Mo_find.1 ∈ rx_tbl := rx_in 1038 (by decide +kernel) (by decide +kernel)
theorem ml_La_113 : Cond.methodLink "ScoreRoadsLaw" 113 m_La_tick.1 ∈ rx_tbl := rx_in 661 (by decide +kernel) (by decide +kernel)
theorem ml_La_115 : Cond.methodLink "ScoreRoadsLaw" 115 m_Mo_tick.1 ∈ rx_tbl := rx_in 1042 (by decide +kernel) (by decide +kernel)
theorem ml_La_118 : Cond.methodLink "ScoreRoadsLaw" 118 m_La_at.1 ∈ rx_tbl := rx_in 680 (by decide +kernel) (by decide +kernel)
theorem ml_La_121 : Cond.methodLink "ScoreRoadsLaw" 121 m_Mo_at.1 ∈ rx_tbl := rx_in 1050 (by decide +kernel) (by decide +kernel)
theorem ml_La_122 : Cond.methodLink "ScoreRoadsLaw" 122 m_La_sounds.1 ∈ rx_tbl := rx_in 691 (by decide +kernel) (by decide +kernel)
theorem ml_La_124 : Cond.methodLink "ScoreRoadsLaw" 124 m_Mo_sounds.1 ∈ rx_tbl := rx_in 1054 (by decide +kernel) (by decide +kernel)
theorem ml_La_125 : Cond.methodLink "ScoreRoadsLaw" 125 m_La_sound.1 ∈ rx_tbl := rx_in 723 (by decide +kernel) (by decide +kernel)
theorem ml_La_127 : Cond.methodLink "ScoreRoadsLaw" 127 m_Mo_sound.1 ∈ rx_tbl := rx_in 1086 (by decide +kernel) (by decide +kernel)
theorem ml_La_128 : Cond.methodLink "ScoreRoadsLaw" 128 m_La_rest.1 ∈ rx_tbl := rx_in 756 (by decide +kernel) (by decide +kernel)
theorem ml_La_130 : Cond.methodLink "ScoreRoadsLaw" 130 m_Mo_rest.1 ∈ rx_tbl := rx_in 1091 (by decide +kernel) (by decide +kernel)
theorem ml_Mo_66 : Cond.methodLink "ScoreRoadsModel" 66 m_Mo_within.1 ∈ rx_tbl := rx_in 896 (by decide +kernel) (by decide +kernel)
theorem ml_Mo_70 : Cond.methodLink "ScoreRoadsModel" 70 m_Mo_signOf.1 ∈ rx_tbl := rx_in 939 (by decide +kernel) (by decide +kernel)
theorem ml_Mo_74 : Cond.methodLink "ScoreRoadsModel" 74 m_Mo_isBar.1 ∈ rx_tbl := rx_in 892 (by decide +kernel) (by decide +kernel)
theorem ml_Mo_81 : Cond.methodLink "ScoreRoadsModel" 81 m_Mo_isPart.1 ∈ rx_tbl := rx_in 911 (by decide +kernel) (by decide +kernel)
theorem ml_Mo_84 : Cond.methodLink "ScoreRoadsModel" 84 m_Mo_refuse.1 ∈ rx_tbl := rx_in 914 (by decide +kernel) (by decide +kernel)
theorem ml_Mo_90 : Cond.methodLink "ScoreRoadsModel" 90 m_Mo_has.1 ∈ rx_tbl := rx_in 935 (by decide +kernel) (by decide +kernel)
theorem ml_Mo_94 : Cond.methodLink "ScoreRoadsModel" 94 m_Mo_in.1 ∈ rx_tbl := rx_in 951 (by decide +kernel) (by decide +kernel)
theorem ml_Mo_100 : Cond.methodLink "ScoreRoadsModel" 100 m_Mo_lastStart.1 ∈ rx_tbl := rx_in 943 (by decide +kernel) (by decide +kernel)
theorem ml_Mo_103 : Cond.methodLink "ScoreRoadsModel" 103 m_Mo_lowest.1 ∈ rx_tbl := rx_in 947 (by decide +kernel) (by decide +kernel)
theorem ml_Mo_106 : Cond.methodLink "ScoreRoadsModel" 106 m_Mo_withEnding.1 ∈ rx_tbl := rx_in 954 (by decide +kernel) (by decide +kernel)
theorem ml_Mo_112 : Cond.methodLink "ScoreRoadsModel" 112 m_Mo_wrong.1 ∈ rx_tbl := rx_in 962 (by decide +kernel) (by decide +kernel)
theorem ml_Mo_116 : Cond.methodLink "ScoreRoadsModel" 116 m_Mo_highest.1 ∈ rx_tbl := rx_in 986 (by decide +kernel) (by decide +kernel)
theorem ml_Mo_119 : Cond.methodLink "ScoreRoadsModel" 119 m_Mo_firstOf.1 ∈ rx_tbl := rx_in 978 (by decide +kernel) (by decide +kernel)
theorem ml_Mo_122 : Cond.methodLink "ScoreRoadsModel" 122 m_Mo_isThere.1 ∈ rx_tbl := rx_in 970 (by decide +kernel) (by decide +kernel)
theorem ml_Mo_125 : Cond.methodLink "ScoreRoadsModel" 125 m_Mo_findRepeats.1 ∈ rx_tbl := rx_in 931 (by decide +kernel) (by decide +kernel)
theorem ml_Mo_128 : Cond.methodLink "ScoreRoadsModel" 128 m_Mo_checkStart.1 ∈ rx_tbl := rx_in 958 (by decide +kernel) (by decide +kernel)
theorem ml_Mo_132 : Cond.methodLink "ScoreRoadsModel" 132 m_Mo_checkEnding.1 ∈ rx_tbl := rx_in 966 (by decide +kernel) (by decide +kernel)
theorem ml_Mo_135 : Cond.methodLink "ScoreRoadsModel" 135 m_Mo_checkJump.1 ∈ rx_tbl := rx_in 974 (by decide +kernel) (by decide +kernel)
theorem ml_Mo_138 : Cond.methodLink "ScoreRoadsModel" 138 m_Mo_checkRepeat.1 ∈ rx_tbl := rx_in 982 (by decide +kernel) (by decide +kernel)
theorem ml_Mo_141 : Cond.methodLink "ScoreRoadsModel" 141 m_Mo_findFault.1 ∈ rx_tbl := rx_in 927 (by decide +kernel) (by decide +kernel)
theorem ml_Mo_151 : Cond.methodLink "ScoreRoadsModel" 151 m_Mo_takes.1 ∈ rx_tbl := rx_in 1006 (by decide +kernel) (by decide +kernel)
theorem ml_Mo_162 : Cond.methodLink "ScoreRoadsModel" 162 m_Mo_resetPasses.1 ∈ rx_tbl := rx_in 998 (by decide +kernel) (by decide +kernel)
theorem ml_Mo_165 : Cond.methodLink "ScoreRoadsModel" 165 m_Mo_come.1 ∈ rx_tbl := rx_in 1002 (by decide +kernel) (by decide +kernel)
theorem ml_Mo_168 : Cond.methodLink "ScoreRoadsModel" 168 m_Mo_withEnd.1 ∈ rx_tbl := rx_in 1014 (by decide +kernel) (by decide +kernel)
theorem ml_Mo_171 : Cond.methodLink "ScoreRoadsModel" 171 m_Mo_how.1 ∈ rx_tbl := rx_in 1018 (by decide +kernel) (by decide +kernel)
theorem ml_Mo_177 : Cond.methodLink "ScoreRoadsModel" 177 m_Mo_resetJumped.1 ∈ rx_tbl := rx_in 1022 (by decide +kernel) (by decide +kernel)
theorem ml_Mo_180 : Cond.methodLink "ScoreRoadsModel" 180 m_Mo_goOn.1 ∈ rx_tbl := rx_in 1010 (by decide +kernel) (by decide +kernel)
theorem ml_Mo_183 : Cond.methodLink "ScoreRoadsModel" 183 m_Mo_walk.1 ∈ rx_tbl := rx_in 994 (by decide +kernel) (by decide +kernel)
theorem ml_Mo_186 : Cond.methodLink "ScoreRoadsModel" 186 m_Mo_wrongBar.1 ∈ rx_tbl := rx_in 1030 (by decide +kernel) (by decide +kernel)
theorem ml_Mo_189 : Cond.methodLink "ScoreRoadsModel" 189 m_Mo_ticksBefore.1 ∈ rx_tbl := rx_in 1046 (by decide +kernel) (by decide +kernel)
theorem ml_Mo_193 : Cond.methodLink "ScoreRoadsModel" 193 m_Mo_reaches.1 ∈ rx_tbl := rx_in 1074 (by decide +kernel) (by decide +kernel)
theorem ml_Mo_206 : Cond.methodLink "ScoreRoadsModel" 206 m_Mo_opening.1 ∈ rx_tbl := rx_in 1082 (by decide +kernel) (by decide +kernel)
theorem ml_Mo_210 : Cond.methodLink "ScoreRoadsModel" 210 m_Mo_nextNote.1 ∈ rx_tbl := rx_in 1066 (by decide +kernel) (by decide +kernel)
theorem ml_Mo_213 : Cond.methodLink "ScoreRoadsModel" 213 m_Mo_goesOn.1 ∈ rx_tbl := rx_in 1070 (by decide +kernel) (by decide +kernel)
theorem ml_Mo_216 : Cond.methodLink "ScoreRoadsModel" 216 m_Mo_follow.1 ∈ rx_tbl := rx_in 1078 (by decide +kernel) (by decide +kernel)
theorem ml_Mo_220 : Cond.methodLink "ScoreRoadsModel" 220 m_Mo_wrongPart.1 ∈ rx_tbl := rx_in 1058 (by decide +kernel) (by decide +kernel)
theorem ml_Mo_223 : Cond.methodLink "ScoreRoadsModel" 223 m_Mo_seek.1 ∈ rx_tbl := rx_in 1062 (by decide +kernel) (by decide +kernel)
theorem ml_Mo_228 : Cond.methodLink "ScoreRoadsModel" 228 m_Mo_isRest.1 ∈ rx_tbl := rx_in 1095 (by decide +kernel) (by decide +kernel)
theorem ml_Mo_231 : Cond.methodLink "ScoreRoadsModel" 231 m_Mo_joins.1 ∈ rx_tbl := rx_in 1099 (by decide +kernel) (by decide +kernel)
theorem ml_Notes_29 : Cond.methodLinkNest "ScoreRoads$Notes" 29 m_SR_isWithin.1 "ScoreRoads" ∈ rx_tbl := rx_in 710 (by decide +kernel) (by decide +kernel)
theorem ml_Page_35 : Cond.methodLinkNest "ScoreRoads$Page" 35 m_SR_isKind.1 "ScoreRoads" ∈ rx_tbl := rx_in 511 (by decide +kernel) (by decide +kernel)
theorem ml_Repeats_23 : Cond.methodLinkNest "ScoreRoads$Repeats" 23 m_Repeat_init.1 "ScoreRoads" ∈ rx_tbl := rx_in 80 (by decide +kernel) (by decide +kernel)
theorem ml_Road_116 : Cond.methodLinkNest "ScoreRoads$Road" 116 m_SR_isWithin.1 "ScoreRoads" ∈ rx_tbl := rx_in 637 (by decide +kernel) (by decide +kernel)
theorem ml_Sounding_54 : Cond.methodLinkNest "ScoreRoads$Sounding" 54 m_SR_isWithin.1 "ScoreRoads" ∈ rx_tbl := rx_in 739 (by decide +kernel) (by decide +kernel)
theorem im_SR_init : Cond.instanceMethod m_SR_init.1 ∈ rx_tbl := rx_in 23 (by decide +kernel) (by decide +kernel)
theorem c9_SR_init : rx_cl9 m_SR_init 1 2 := ⟨by decide +kernel, ⟨by decide +kernel, by decide +kernel⟩, by decide +kernel, rx_in 24 (by decide +kernel) (by decide +kernel), rx_in 1 (by decide +kernel) (by decide +kernel), rfl, by decide, by decide⟩
theorem im_Page_init : Cond.instanceMethod m_Page_init.1 ∈ rx_tbl := rx_in 31 (by decide +kernel) (by decide +kernel)
theorem c9_Page_init : rx_cl9 m_Page_init 1 2 := ⟨by decide +kernel, ⟨by decide +kernel, by decide +kernel⟩, by decide +kernel, rx_in 32 (by decide +kernel) (by decide +kernel), rx_in 2 (by decide +kernel) (by decide +kernel), rfl, by decide, by decide⟩
theorem st_JA_fill : Cond.static m_JA_fill.1 ∈ rx_tbl := rx_in 35 (by decide +kernel) (by decide +kernel)
theorem c9_JA_fill : rx_cl9 m_JA_fill 2 2 := ⟨by decide +kernel, ⟨by decide +kernel, by decide +kernel⟩, by decide +kernel, rx_in 36 (by decide +kernel) (by decide +kernel), rx_in 3 (by decide +kernel) (by decide +kernel), rfl, by decide, by decide⟩
theorem im_Notes_init : Cond.instanceMethod m_Notes_init.1 ∈ rx_tbl := rx_in 57 (by decide +kernel) (by decide +kernel)
theorem c9_Notes_init : rx_cl9 m_Notes_init 0 1 := ⟨by decide +kernel, ⟨by decide +kernel, by decide +kernel⟩, by decide +kernel, rx_in 58 (by decide +kernel) (by decide +kernel), rx_in 4 (by decide +kernel) (by decide +kernel), rfl, by decide, by decide⟩
theorem im_Repeats_init : Cond.instanceMethod m_Repeats_init.1 ∈ rx_tbl := rx_in 74 (by decide +kernel) (by decide +kernel)
theorem c9_Repeats_init : rx_cl9 m_Repeats_init 1 2 := ⟨by decide +kernel, ⟨by decide +kernel, by decide +kernel⟩, by decide +kernel, rx_in 75 (by decide +kernel) (by decide +kernel), rx_in 5 (by decide +kernel) (by decide +kernel), rfl, by decide, by decide⟩
theorem im_Repeat_init : Cond.instanceMethod m_Repeat_init.1 ∈ rx_tbl := rx_in 81 (by decide +kernel) (by decide +kernel)
theorem c9_Repeat_init : rx_cl9 m_Repeat_init 0 1 := ⟨by decide +kernel, ⟨by decide +kernel, by decide +kernel⟩, by decide +kernel, rx_in 82 (by decide +kernel) (by decide +kernel), rx_in 6 (by decide +kernel) (by decide +kernel), rfl, by decide, by decide⟩
theorem im_Road_init : Cond.instanceMethod m_Road_init.1 ∈ rx_tbl := rx_in 134 (by decide +kernel) (by decide +kernel)
theorem c9_Road_init : rx_cl9 m_Road_init 1 2 := ⟨by decide +kernel, ⟨by decide +kernel, by decide +kernel⟩, by decide +kernel, rx_in 135 (by decide +kernel) (by decide +kernel), rx_in 7 (by decide +kernel) (by decide +kernel), rfl, by decide, by decide⟩
theorem im_Sounding_init : Cond.instanceMethod m_Sounding_init.1 ∈ rx_tbl := rx_in 161 (by decide +kernel) (by decide +kernel)
theorem c9_Sounding_init : rx_cl9 m_Sounding_init 0 1 := ⟨by decide +kernel, ⟨by decide +kernel, by decide +kernel⟩, by decide +kernel, rx_in 162 (by decide +kernel) (by decide +kernel), rx_in 8 (by decide +kernel) (by decide +kernel), rfl, by decide, by decide⟩
theorem im_SR_signAt : Cond.instanceMethod m_SR_signAt.1 ∈ rx_tbl := rx_in 202 (by decide +kernel) (by decide +kernel)
theorem se_SR_signAt : Cond.selects "ScoreRoads" m_SR_signAt.1 m_SR_signAt.1 ∈ rx_tbl := rx_in 203 (by decide +kernel) (by decide +kernel)
theorem c9_SR_signAt : rx_cl9 m_SR_signAt 2 3 := ⟨by decide +kernel, ⟨by decide +kernel, by decide +kernel⟩, by decide +kernel, rx_in 204 (by decide +kernel) (by decide +kernel), rx_in 1 (by decide +kernel) (by decide +kernel), rfl, by decide, by decide⟩
theorem im_Page_value : Cond.instanceMethod m_Page_value.1 ∈ rx_tbl := rx_in 206 (by decide +kernel) (by decide +kernel)
theorem se_Page_value : Cond.selects "ScoreRoads$Page" m_Page_value.1 m_Page_value.1 ∈ rx_tbl := rx_in 207 (by decide +kernel) (by decide +kernel)
theorem c9_Page_value : rx_cl9 m_Page_value 2 3 := ⟨by decide +kernel, ⟨by decide +kernel, by decide +kernel⟩, by decide +kernel, rx_in 208 (by decide +kernel) (by decide +kernel), rx_in 2 (by decide +kernel) (by decide +kernel), rfl, by decide, by decide⟩
theorem im_SR_check : Cond.instanceMethod m_SR_check.1 ∈ rx_tbl := rx_in 210 (by decide +kernel) (by decide +kernel)
theorem se_SR_check : Cond.selects "ScoreRoads" m_SR_check.1 m_SR_check.1 ∈ rx_tbl := rx_in 211 (by decide +kernel) (by decide +kernel)
theorem c9_SR_check : rx_cl9 m_SR_check 0 1 := ⟨by decide +kernel, ⟨by decide +kernel, by decide +kernel⟩, by decide +kernel, rx_in 212 (by decide +kernel) (by decide +kernel), rx_in 1 (by decide +kernel) (by decide +kernel), rfl, by decide, by decide⟩
theorem im_SR_knowRoad : Cond.instanceMethod m_SR_knowRoad.1 ∈ rx_tbl := rx_in 215 (by decide +kernel) (by decide +kernel)
theorem se_SR_knowRoad : Cond.selects "ScoreRoads" m_SR_knowRoad.1 m_SR_knowRoad.1 ∈ rx_tbl := rx_ip 0 (by decide +kernel) (by decide +kernel)
theorem c9_SR_knowRoad : rx_cl9 m_SR_knowRoad 0 1 := ⟨by decide +kernel, ⟨by decide +kernel, by decide +kernel⟩, by decide +kernel, rx_in 216 (by decide +kernel) (by decide +kernel), rx_in 1 (by decide +kernel) (by decide +kernel), rfl, by decide, by decide⟩
theorem im_Repeats_gather : Cond.instanceMethod m_Repeats_gather.1 ∈ rx_tbl := rx_in 218 (by decide +kernel) (by decide +kernel)
theorem se_Repeats_gather : Cond.selects "ScoreRoads$Repeats" m_Repeats_gather.1 m_Repeats_gather.1 ∈ rx_tbl := rx_in 219 (by decide +kernel) (by decide +kernel)
theorem c9_Repeats_gather : rx_cl9 m_Repeats_gather 1 2 := ⟨by decide +kernel, ⟨by decide +kernel, by decide +kernel⟩, by decide +kernel, rx_in 220 (by decide +kernel) (by decide +kernel), rx_in 5 (by decide +kernel) (by decide +kernel), rfl, by decide, by decide⟩
theorem im_Repeats_gatherEnds : Cond.instanceMethod m_Repeats_gatherEnds.1 ∈ rx_tbl := rx_in 223 (by decide +kernel) (by decide +kernel)
theorem se_Repeats_gatherEnds : Cond.selects "ScoreRoads$Repeats" m_Repeats_gatherEnds.1 m_Repeats_gatherEnds.1 ∈ rx_tbl := rx_ip 1 (by decide +kernel) (by decide +kernel)
theorem c9_Repeats_gatherEnds : rx_cl9 m_Repeats_gatherEnds 1 2 := ⟨by decide +kernel, ⟨by decide +kernel, by decide +kernel⟩, by decide +kernel, rx_in 224 (by decide +kernel) (by decide +kernel), rx_in 5 (by decide +kernel) (by decide +kernel), rfl, by decide, by decide⟩
theorem im_Page_has : Cond.instanceMethod m_Page_has.1 ∈ rx_tbl := rx_in 226 (by decide +kernel) (by decide +kernel)
theorem se_Page_has : Cond.selects "ScoreRoads$Page" m_Page_has.1 m_Page_has.1 ∈ rx_tbl := rx_in 227 (by decide +kernel) (by decide +kernel)
theorem c9_Page_has : rx_cl9 m_Page_has 2 3 := ⟨by decide +kernel, ⟨by decide +kernel, by decide +kernel⟩, by decide +kernel, rx_in 228 (by decide +kernel) (by decide +kernel), rx_in 2 (by decide +kernel) (by decide +kernel), rfl, by decide, by decide⟩
theorem im_Repeats_begin : Cond.instanceMethod m_Repeats_begin.1 ∈ rx_tbl := rx_in 232 (by decide +kernel) (by decide +kernel)
theorem se_Repeats_begin : Cond.selects "ScoreRoads$Repeats" m_Repeats_begin.1 m_Repeats_begin.1 ∈ rx_tbl := rx_ip 2 (by decide +kernel) (by decide +kernel)
theorem c9_Repeats_begin : rx_cl9 m_Repeats_begin 3 4 := ⟨by decide +kernel, ⟨by decide +kernel, by decide +kernel⟩, by decide +kernel, rx_in 233 (by decide +kernel) (by decide +kernel), rx_in 5 (by decide +kernel) (by decide +kernel), rfl, by decide, by decide⟩
theorem im_Page_lastWith : Cond.instanceMethod m_Page_lastWith.1 ∈ rx_tbl := rx_in 235 (by decide +kernel) (by decide +kernel)
theorem se_Page_lastWith : Cond.selects "ScoreRoads$Page" m_Page_lastWith.1 m_Page_lastWith.1 ∈ rx_tbl := rx_in 236 (by decide +kernel) (by decide +kernel)
theorem c9_Page_lastWith : rx_cl9 m_Page_lastWith 3 4 := ⟨by decide +kernel, ⟨by decide +kernel, by decide +kernel⟩, by decide +kernel, rx_in 237 (by decide +kernel) (by decide +kernel), rx_in 2 (by decide +kernel) (by decide +kernel), rfl, by decide, by decide⟩
theorem st_JM_min : Cond.static m_JM_min.1 ∈ rx_tbl := rx_in 239 (by decide +kernel) (by decide +kernel)
theorem st_JM_max : Cond.static m_JM_max.1 ∈ rx_tbl := rx_in 242 (by decide +kernel) (by decide +kernel)
theorem st_Repeats_goesOn : Cond.static m_Repeats_goesOn.1 ∈ rx_tbl := rx_in 246 (by decide +kernel) (by decide +kernel)
theorem c9_Repeats_goesOn : rx_cl9 m_Repeats_goesOn 3 3 := ⟨by decide +kernel, ⟨by decide +kernel, by decide +kernel⟩, by decide +kernel, rx_in 247 (by decide +kernel) (by decide +kernel), rx_in 5 (by decide +kernel) (by decide +kernel), rfl, by decide, by decide⟩
theorem im_Repeats_gatherEndings : Cond.instanceMethod m_Repeats_gatherEndings.1 ∈ rx_tbl := rx_in 250 (by decide +kernel) (by decide +kernel)
theorem se_Repeats_gatherEndings : Cond.selects "ScoreRoads$Repeats" m_Repeats_gatherEndings.1 m_Repeats_gatherEndings.1 ∈ rx_tbl := rx_ip 3 (by decide +kernel) (by decide +kernel)
theorem c9_Repeats_gatherEndings : rx_cl9 m_Repeats_gatherEndings 2 3 := ⟨by decide +kernel, ⟨by decide +kernel, by decide +kernel⟩, by decide +kernel, rx_in 251 (by decide +kernel) (by decide +kernel), rx_in 5 (by decide +kernel) (by decide +kernel), rfl, by decide, by decide⟩
theorem im_Repeats_takeEnding : Cond.instanceMethod m_Repeats_takeEnding.1 ∈ rx_tbl := rx_in 254 (by decide +kernel) (by decide +kernel)
theorem se_Repeats_takeEnding : Cond.selects "ScoreRoads$Repeats" m_Repeats_takeEnding.1 m_Repeats_takeEnding.1 ∈ rx_tbl := rx_ip 4 (by decide +kernel) (by decide +kernel)
theorem c9_Repeats_takeEnding : rx_cl9 m_Repeats_takeEnding 3 4 := ⟨by decide +kernel, ⟨by decide +kernel, by decide +kernel⟩, by decide +kernel, rx_in 255 (by decide +kernel) (by decide +kernel), rx_in 5 (by decide +kernel) (by decide +kernel), rfl, by decide, by decide⟩
theorem im_Repeat_hasEndings : Cond.instanceMethod m_Repeat_hasEndings.1 ∈ rx_tbl := rx_in 257 (by decide +kernel) (by decide +kernel)
theorem se_Repeat_hasEndings : Cond.selects "ScoreRoads$Repeat" m_Repeat_hasEndings.1 m_Repeat_hasEndings.1 ∈ rx_tbl := rx_in 258 (by decide +kernel) (by decide +kernel)
theorem c9_Repeat_hasEndings : rx_cl9 m_Repeat_hasEndings 0 1 := ⟨by decide +kernel, ⟨by decide +kernel, by decide +kernel⟩, by decide +kernel, rx_in 259 (by decide +kernel) (by decide +kernel), rx_in 6 (by decide +kernel) (by decide +kernel), rfl, by decide, by decide⟩
theorem im_Repeats_ofEnd : Cond.instanceMethod m_Repeats_ofEnd.1 ∈ rx_tbl := rx_in 261 (by decide +kernel) (by decide +kernel)
theorem se_Repeats_ofEnd : Cond.selects "ScoreRoads$Repeats" m_Repeats_ofEnd.1 m_Repeats_ofEnd.1 ∈ rx_tbl := rx_in 262 (by decide +kernel) (by decide +kernel)
theorem c9_Repeats_ofEnd : rx_cl9 m_Repeats_ofEnd 1 2 := ⟨by decide +kernel, ⟨by decide +kernel, by decide +kernel⟩, by decide +kernel, rx_in 263 (by decide +kernel) (by decide +kernel), rx_in 5 (by decide +kernel) (by decide +kernel), rfl, by decide, by decide⟩
theorem st_Faults_least : Cond.static m_Faults_least.1 ∈ rx_tbl := rx_in 265 (by decide +kernel) (by decide +kernel)
theorem c9_Faults_least : rx_cl9 m_Faults_least 2 2 := ⟨by decide +kernel, ⟨by decide +kernel, by decide +kernel⟩, by decide +kernel, rx_in 266 (by decide +kernel) (by decide +kernel), rx_in 17 (by decide +kernel) (by decide +kernel), rfl, by decide, by decide⟩
theorem st_Faults_isThere : Cond.static m_Faults_isThere.1 ∈ rx_tbl := rx_in 268 (by decide +kernel) (by decide +kernel)
theorem c9_Faults_isThere : rx_cl9 m_Faults_isThere 4 4 := ⟨by decide +kernel, ⟨by decide +kernel, by decide +kernel⟩, by decide +kernel, rx_in 269 (by decide +kernel) (by decide +kernel), rx_in 17 (by decide +kernel) (by decide +kernel), rfl, by decide, by decide⟩
theorem st_Faults_isNeverEnded : Cond.static m_Faults_isNeverEnded.1 ∈ rx_tbl := rx_in 272 (by decide +kernel) (by decide +kernel)
theorem c9_Faults_isNeverEnded : rx_cl9 m_Faults_isNeverEnded 2 2 := ⟨by decide +kernel, ⟨by decide +kernel, by decide +kernel⟩, by decide +kernel, rx_in 273 (by decide +kernel) (by decide +kernel), rx_in 17 (by decide +kernel) (by decide +kernel), rfl, by decide, by decide⟩
theorem st_Faults_isStrayEnding : Cond.static m_Faults_isStrayEnding.1 ∈ rx_tbl := rx_in 275 (by decide +kernel) (by decide +kernel)
theorem c9_Faults_isStrayEnding : rx_cl9 m_Faults_isStrayEnding 2 2 := ⟨by decide +kernel, ⟨by decide +kernel, by decide +kernel⟩, by decide +kernel, rx_in 276 (by decide +kernel) (by decide +kernel), rx_in 17 (by decide +kernel) (by decide +kernel), rfl, by decide, by decide⟩
theorem im_Repeats_ofEnding : Cond.instanceMethod m_Repeats_ofEnding.1 ∈ rx_tbl := rx_in 278 (by decide +kernel) (by decide +kernel)
theorem se_Repeats_ofEnding : Cond.selects "ScoreRoads$Repeats" m_Repeats_ofEnding.1 m_Repeats_ofEnding.1 ∈ rx_tbl := rx_in 279 (by decide +kernel) (by decide +kernel)
theorem c9_Repeats_ofEnding : rx_cl9 m_Repeats_ofEnding 1 2 := ⟨by decide +kernel, ⟨by decide +kernel, by decide +kernel⟩, by decide +kernel, rx_in 280 (by decide +kernel) (by decide +kernel), rx_in 5 (by decide +kernel) (by decide +kernel), rfl, by decide, by decide⟩
theorem st_Faults_isUnlikeItsRepeat : Cond.static m_Faults_isUnlikeItsRepeat.1 ∈ rx_tbl := rx_in 282 (by decide +kernel) (by decide +kernel)
theorem c9_Faults_isUnlikeItsRepeat : rx_cl9 m_Faults_isUnlikeItsRepeat 3 3 := ⟨by decide +kernel, ⟨by decide +kernel, by decide +kernel⟩, by decide +kernel, rx_in 283 (by decide +kernel) (by decide +kernel), rx_in 17 (by decide +kernel) (by decide +kernel), rfl, by decide, by decide⟩
theorem st_Faults_isFirstOfWrongPasses : Cond.static m_Faults_isFirstOfWrongPasses.1 ∈ rx_tbl := rx_in 288 (by decide +kernel) (by decide +kernel)
theorem c9_Faults_isFirstOfWrongPasses : rx_cl9 m_Faults_isFirstOfWrongPasses 3 3 := ⟨by decide +kernel, ⟨by decide +kernel, by decide +kernel⟩, by decide +kernel, rx_in 289 (by decide +kernel) (by decide +kernel), rx_in 17 (by decide +kernel) (by decide +kernel), rfl, by decide, by decide⟩
theorem im_Repeats_around : Cond.instanceMethod m_Repeats_around.1 ∈ rx_tbl := rx_in 291 (by decide +kernel) (by decide +kernel)
theorem se_Repeats_around : Cond.selects "ScoreRoads$Repeats" m_Repeats_around.1 m_Repeats_around.1 ∈ rx_tbl := rx_in 292 (by decide +kernel) (by decide +kernel)
theorem c9_Repeats_around : rx_cl9 m_Repeats_around 1 2 := ⟨by decide +kernel, ⟨by decide +kernel, by decide +kernel⟩, by decide +kernel, rx_in 293 (by decide +kernel) (by decide +kernel), rx_in 5 (by decide +kernel) (by decide +kernel), rfl, by decide, by decide⟩
theorem im_Repeat_spans : Cond.instanceMethod m_Repeat_spans.1 ∈ rx_tbl := rx_in 295 (by decide +kernel) (by decide +kernel)
theorem se_Repeat_spans : Cond.selects "ScoreRoads$Repeat" m_Repeat_spans.1 m_Repeat_spans.1 ∈ rx_tbl := rx_in 296 (by decide +kernel) (by decide +kernel)
theorem c9_Repeat_spans : rx_cl9 m_Repeat_spans 1 2 := ⟨by decide +kernel, ⟨by decide +kernel, by decide +kernel⟩, by decide +kernel, rx_in 297 (by decide +kernel) (by decide +kernel), rx_in 6 (by decide +kernel) (by decide +kernel), rfl, by decide, by decide⟩
theorem im_Page_hasPass : Cond.instanceMethod m_Page_hasPass.1 ∈ rx_tbl := rx_in 299 (by decide +kernel) (by decide +kernel)
theorem se_Page_hasPass : Cond.selects "ScoreRoads$Page" m_Page_hasPass.1 m_Page_hasPass.1 ∈ rx_tbl := rx_in 300 (by decide +kernel) (by decide +kernel)
theorem c9_Page_hasPass : rx_cl9 m_Page_hasPass 2 3 := ⟨by decide +kernel, ⟨by decide +kernel, by decide +kernel⟩, by decide +kernel, rx_in 301 (by decide +kernel) (by decide +kernel), rx_in 2 (by decide +kernel) (by decide +kernel), rfl, by decide, by decide⟩
theorem st_Page_passBit : Cond.static m_Page_passBit.1 ∈ rx_tbl := rx_in 303 (by decide +kernel) (by decide +kernel)
theorem c9_Page_passBit : rx_cl9 m_Page_passBit 1 1 := ⟨by decide +kernel, ⟨by decide +kernel, by decide +kernel⟩, by decide +kernel, rx_in 304 (by decide +kernel) (by decide +kernel), rx_in 2 (by decide +kernel) (by decide +kernel), rfl, by decide, by decide⟩
theorem st_Faults_isSecond : Cond.static m_Faults_isSecond.1 ∈ rx_tbl := rx_in 306 (by decide +kernel) (by decide +kernel)
theorem c9_Faults_isSecond : rx_cl9 m_Faults_isSecond 3 3 := ⟨by decide +kernel, ⟨by decide +kernel, by decide +kernel⟩, by decide +kernel, rx_in 307 (by decide +kernel) (by decide +kernel), rx_in 17 (by decide +kernel) (by decide +kernel), rfl, by decide, by decide⟩
theorem st_Jump_target : Cond.static m_Jump_target.1 ∈ rx_tbl := rx_in 310 (by decide +kernel) (by decide +kernel)
theorem c9_Jump_target : rx_cl9 m_Jump_target 2 2 := ⟨by decide +kernel, ⟨by decide +kernel, by decide +kernel⟩, by decide +kernel, rx_in 311 (by decide +kernel) (by decide +kernel), rx_in 18 (by decide +kernel) (by decide +kernel), rfl, by decide, by decide⟩
theorem st_Jump_isToSegno : Cond.static m_Jump_isToSegno.1 ∈ rx_tbl := rx_in 314 (by decide +kernel) (by decide +kernel)
theorem c9_Jump_isToSegno : rx_cl9 m_Jump_isToSegno 1 1 := ⟨by decide +kernel, ⟨by decide +kernel, by decide +kernel⟩, by decide +kernel, rx_in 315 (by decide +kernel) (by decide +kernel), rx_in 18 (by decide +kernel) (by decide +kernel), rfl, by decide, by decide⟩
theorem st_Faults_lacksItsWay : Cond.static m_Faults_lacksItsWay.1 ∈ rx_tbl := rx_in 318 (by decide +kernel) (by decide +kernel)
theorem c9_Faults_lacksItsWay : rx_cl9 m_Faults_lacksItsWay 2 2 := ⟨by decide +kernel, ⟨by decide +kernel, by decide +kernel⟩, by decide +kernel, rx_in 319 (by decide +kernel) (by decide +kernel), rx_in 17 (by decide +kernel) (by decide +kernel), rfl, by decide, by decide⟩
theorem st_Jump_way : Cond.static m_Jump_way.1 ∈ rx_tbl := rx_in 321 (by decide +kernel) (by decide +kernel)
theorem c9_Jump_way : rx_cl9 m_Jump_way 1 1 := ⟨by decide +kernel, ⟨by decide +kernel, by decide +kernel⟩, by decide +kernel, rx_in 322 (by decide +kernel) (by decide +kernel), rx_in 18 (by decide +kernel) (by decide +kernel), rfl, by decide, by decide⟩
theorem im_Road_walk : Cond.instanceMethod m_Road_walk.1 ∈ rx_tbl := rx_in 324 (by decide +kernel) (by decide +kernel)
theorem se_Road_walk : Cond.selects "ScoreRoads$Road" m_Road_walk.1 m_Road_walk.1 ∈ rx_tbl := rx_in 325 (by decide +kernel) (by decide +kernel)
theorem c9_Road_walk : rx_cl9 m_Road_walk 2 3 := ⟨by decide +kernel, ⟨by decide +kernel, by decide +kernel⟩, by decide +kernel, rx_in 326 (by decide +kernel) (by decide +kernel), rx_in 7 (by decide +kernel) (by decide +kernel), rfl, by decide, by decide⟩
theorem im_Repeats_resetPasses : Cond.instanceMethod m_Repeats_resetPasses.1 ∈ rx_tbl := rx_in 328 (by decide +kernel) (by decide +kernel)
theorem se_Repeats_resetPasses : Cond.selects "ScoreRoads$Repeats" m_Repeats_resetPasses.1 m_Repeats_resetPasses.1 ∈ rx_tbl := rx_in 329 (by decide +kernel) (by decide +kernel)
theorem c9_Repeats_resetPasses : rx_cl9 m_Repeats_resetPasses 0 1 := ⟨by decide +kernel, ⟨by decide +kernel, by decide +kernel⟩, by decide +kernel, rx_in 330 (by decide +kernel) (by decide +kernel), rx_in 5 (by decide +kernel) (by decide +kernel), rfl, by decide, by decide⟩
theorem im_Road_insteadOf : Cond.instanceMethod m_Road_insteadOf.1 ∈ rx_tbl := rx_in 333 (by decide +kernel) (by decide +kernel)
theorem se_Road_insteadOf : Cond.selects "ScoreRoads$Road" m_Road_insteadOf.1 m_Road_insteadOf.1 ∈ rx_tbl := rx_ip 5 (by decide +kernel) (by decide +kernel)
theorem c9_Road_insteadOf : rx_cl9 m_Road_insteadOf 3 4 := ⟨by decide +kernel, ⟨by decide +kernel, by decide +kernel⟩, by decide +kernel, rx_in 334 (by decide +kernel) (by decide +kernel), rx_in 7 (by decide +kernel) (by decide +kernel), rfl, by decide, by decide⟩
theorem im_Road_isToComeAgain : Cond.instanceMethod m_Road_isToComeAgain.1 ∈ rx_tbl := rx_in 339 (by decide +kernel) (by decide +kernel)
theorem se_Road_isToComeAgain : Cond.selects "ScoreRoads$Road" m_Road_isToComeAgain.1 m_Road_isToComeAgain.1 ∈ rx_tbl := rx_ip 6 (by decide +kernel) (by decide +kernel)
theorem c9_Road_isToComeAgain : rx_cl9 m_Road_isToComeAgain 2 3 := ⟨by decide +kernel, ⟨by decide +kernel, by decide +kernel⟩, by decide +kernel, rx_in 340 (by decide +kernel) (by decide +kernel), rx_in 7 (by decide +kernel) (by decide +kernel), rfl, by decide, by decide⟩
theorem st_Road_leaveRepeatAtLastPass : Cond.static m_Road_leaveRepeatAtLastPass.1 ∈ rx_tbl := rx_in 343 (by decide +kernel) (by decide +kernel)
theorem c9_Road_leaveRepeatAtLastPass : rx_cl9 m_Road_leaveRepeatAtLastPass 3 3 := ⟨by decide +kernel, ⟨by decide +kernel, by decide +kernel⟩, by decide +kernel, rx_in 344 (by decide +kernel) (by decide +kernel), rx_in 7 (by decide +kernel) (by decide +kernel), rfl, by decide, by decide⟩
theorem im_Road_behind : Cond.instanceMethod m_Road_behind.1 ∈ rx_tbl := rx_in 347 (by decide +kernel) (by decide +kernel)
theorem se_Road_behind : Cond.selects "ScoreRoads$Road" m_Road_behind.1 m_Road_behind.1 ∈ rx_tbl := rx_ip 7 (by decide +kernel) (by decide +kernel)
theorem c9_Road_behind : rx_cl9 m_Road_behind 4 5 := ⟨by decide +kernel, ⟨by decide +kernel, by decide +kernel⟩, by decide +kernel, rx_in 348 (by decide +kernel) (by decide +kernel), rx_in 7 (by decide +kernel) (by decide +kernel), rfl, by decide, by decide⟩
theorem im_Road_jumpFrom : Cond.instanceMethod m_Road_jumpFrom.1 ∈ rx_tbl := rx_in 354 (by decide +kernel) (by decide +kernel)
theorem se_Road_jumpFrom : Cond.selects "ScoreRoads$Road" m_Road_jumpFrom.1 m_Road_jumpFrom.1 ∈ rx_tbl := rx_ip 8 (by decide +kernel) (by decide +kernel)
theorem c9_Road_jumpFrom : rx_cl9 m_Road_jumpFrom 3 4 := ⟨by decide +kernel, ⟨by decide +kernel, by decide +kernel⟩, by decide +kernel, rx_in 355 (by decide +kernel) (by decide +kernel), rx_in 7 (by decide +kernel) (by decide +kernel), rfl, by decide, by decide⟩
theorem st_Jump_hasRepeats : Cond.static m_Jump_hasRepeats.1 ∈ rx_tbl := rx_in 359 (by decide +kernel) (by decide +kernel)
theorem c9_Jump_hasRepeats : rx_cl9 m_Jump_hasRepeats 1 1 := ⟨by decide +kernel, ⟨by decide +kernel, by decide +kernel⟩, by decide +kernel, rx_in 360 (by decide +kernel) (by decide +kernel), rx_in 18 (by decide +kernel) (by decide +kernel), rfl, by decide, by decide⟩
theorem im_Page_hasBar : Cond.instanceMethod m_Page_hasBar.1 ∈ rx_tbl := rx_in 363 (by decide +kernel) (by decide +kernel)
theorem se_Page_hasBar : Cond.selects "ScoreRoads$Page" m_Page_hasBar.1 m_Page_hasBar.1 ∈ rx_tbl := rx_in 364 (by decide +kernel) (by decide +kernel)
theorem c9_Page_hasBar : rx_cl9 m_Page_hasBar 1 2 := ⟨by decide +kernel, ⟨by decide +kernel, by decide +kernel⟩, by decide +kernel, rx_in 365 (by decide +kernel) (by decide +kernel), rx_in 2 (by decide +kernel) (by decide +kernel), rfl, by decide, by decide⟩
theorem im_SR_plays : Cond.instanceMethod m_SR_plays.1 ∈ rx_tbl := rx_in 367 (by decide +kernel) (by decide +kernel)
theorem se_SR_plays : Cond.selects "ScoreRoads" m_SR_plays.1 m_SR_plays.1 ∈ rx_tbl := rx_in 368 (by decide +kernel) (by decide +kernel)
theorem c9_SR_plays : rx_cl9 m_SR_plays 0 1 := ⟨by decide +kernel, ⟨by decide +kernel, by decide +kernel⟩, by decide +kernel, rx_in 369 (by decide +kernel) (by decide +kernel), rx_in 1 (by decide +kernel) (by decide +kernel), rfl, by decide, by decide⟩
theorem st_La_cell : Cond.static m_La_cell.1 ∈ rx_tbl := rx_in 371 (by decide +kernel) (by decide +kernel)
theorem c9_La_cell : rx_cl9 m_La_cell 2 2 := ⟨by decide +kernel, ⟨by decide +kernel, by decide +kernel⟩, by decide +kernel, rx_in 372 (by decide +kernel) (by decide +kernel), rx_in 0 (by decide +kernel) (by decide +kernel), rfl, by decide, by decide⟩
theorem st_La_bar : Cond.static m_La_bar.1 ∈ rx_tbl := rx_in 374 (by decide +kernel) (by decide +kernel)
theorem cw_La_bar : Cond.codeWith m_La_bar.1 m_La_bar.2.1 m_La_bar.2.2.1 m_La_bar.2.2.2.1 m_La_bar.2.2.2.2 ∈ rx_tbl := rx_in 375 (by decide +kernel) (by decide +kernel)
theorem im_SR_bar : Cond.instanceMethod m_SR_bar.1 ∈ rx_tbl := rx_in 379 (by decide +kernel) (by decide +kernel)
theorem se_SR_bar : Cond.selects "ScoreRoads" m_SR_bar.1 m_SR_bar.1 ∈ rx_tbl := rx_in 380 (by decide +kernel) (by decide +kernel)
theorem c9_SR_bar : rx_cl9 m_SR_bar 3 4 := ⟨by decide +kernel, ⟨by decide +kernel, by decide +kernel⟩, by decide +kernel, rx_in 381 (by decide +kernel) (by decide +kernel), rx_in 1 (by decide +kernel) (by decide +kernel), rfl, by decide, by decide⟩
theorem st_SR_isWithin : Cond.static m_SR_isWithin.1 ∈ rx_tbl := rx_in 384 (by decide +kernel) (by decide +kernel)
theorem c9_SR_isWithin : rx_cl9 m_SR_isWithin 3 3 := ⟨by decide +kernel, ⟨by decide +kernel, by decide +kernel⟩, by decide +kernel, rx_in 385 (by decide +kernel) (by decide +kernel), rx_in 1 (by decide +kernel) (by decide +kernel), rfl, by decide, by decide⟩
theorem im_Notes_endIn : Cond.instanceMethod m_Notes_endIn.1 ∈ rx_tbl := rx_in 455 (by decide +kernel) (by decide +kernel)
theorem se_Notes_endIn : Cond.selects "ScoreRoads$Notes" m_Notes_endIn.1 m_Notes_endIn.1 ∈ rx_tbl := rx_in 456 (by decide +kernel) (by decide +kernel)
theorem c9_Notes_endIn : rx_cl9 m_Notes_endIn 1 2 := ⟨by decide +kernel, ⟨by decide +kernel, by decide +kernel⟩, by decide +kernel, rx_in 457 (by decide +kernel) (by decide +kernel), rx_in 4 (by decide +kernel) (by decide +kernel), rfl, by decide, by decide⟩
theorem im_Note_end : Cond.instanceMethod m_Note_end.1 ∈ rx_tbl := rx_in 459 (by decide +kernel) (by decide +kernel)
theorem se_Note_end : Cond.selects "ScoreRoads$Note" m_Note_end.1 m_Note_end.1 ∈ rx_tbl := rx_in 460 (by decide +kernel) (by decide +kernel)
theorem c9_Note_end : rx_cl9 m_Note_end 0 1 := ⟨by decide +kernel, ⟨by decide +kernel, by decide +kernel⟩, by decide +kernel, rx_in 461 (by decide +kernel) (by decide +kernel), rx_in 16 (by decide +kernel) (by decide +kernel), rfl, by decide, by decide⟩
theorem im_Page_shape : Cond.instanceMethod m_Page_shape.1 ∈ rx_tbl := rx_in 480 (by decide +kernel) (by decide +kernel)
theorem se_Page_shape : Cond.selects "ScoreRoads$Page" m_Page_shape.1 m_Page_shape.1 ∈ rx_tbl := rx_in 481 (by decide +kernel) (by decide +kernel)
theorem c9_Page_shape : rx_cl9 m_Page_shape 3 4 := ⟨by decide +kernel, ⟨by decide +kernel, by decide +kernel⟩, by decide +kernel, rx_in 482 (by decide +kernel) (by decide +kernel), rx_in 2 (by decide +kernel) (by decide +kernel), rfl, by decide, by decide⟩
theorem im_Sounding_forget : Cond.instanceMethod m_Sounding_forget.1 ∈ rx_tbl := rx_in 485 (by decide +kernel) (by decide +kernel)
theorem se_Sounding_forget : Cond.selects "ScoreRoads$Sounding" m_Sounding_forget.1 m_Sounding_forget.1 ∈ rx_tbl := rx_in 486 (by decide +kernel) (by decide +kernel)
theorem c9_Sounding_forget : rx_cl9 m_Sounding_forget 0 1 := ⟨by decide +kernel, ⟨by decide +kernel, by decide +kernel⟩, by decide +kernel, rx_in 487 (by decide +kernel) (by decide +kernel), rx_in 8 (by decide +kernel) (by decide +kernel), rfl, by decide, by decide⟩
theorem st_La_sign : Cond.static m_La_sign.1 ∈ rx_tbl := rx_in 489 (by decide +kernel) (by decide +kernel)
theorem cw_La_sign : Cond.codeWith m_La_sign.1 m_La_sign.2.1 m_La_sign.2.2.1 m_La_sign.2.2.2.1 m_La_sign.2.2.2.2 ∈ rx_tbl := rx_in 490 (by decide +kernel) (by decide +kernel)
theorem im_SR_sign : Cond.instanceMethod m_SR_sign.1 ∈ rx_tbl := rx_in 492 (by decide +kernel) (by decide +kernel)
theorem se_SR_sign : Cond.selects "ScoreRoads" m_SR_sign.1 m_SR_sign.1 ∈ rx_tbl := rx_in 493 (by decide +kernel) (by decide +kernel)
theorem c9_SR_sign : rx_cl9 m_SR_sign 3 4 := ⟨by decide +kernel, ⟨by decide +kernel, by decide +kernel⟩, by decide +kernel, rx_in 494 (by decide +kernel) (by decide +kernel), rx_in 1 (by decide +kernel) (by decide +kernel), rfl, by decide, by decide⟩
theorem st_SR_isKind : Cond.static m_SR_isKind.1 ∈ rx_tbl := rx_in 496 (by decide +kernel) (by decide +kernel)
theorem c9_SR_isKind : rx_cl9 m_SR_isKind 1 1 := ⟨by decide +kernel, ⟨by decide +kernel, by decide +kernel⟩, by decide +kernel, rx_in 497 (by decide +kernel) (by decide +kernel), rx_in 1 (by decide +kernel) (by decide +kernel), rfl, by decide, by decide⟩
theorem st_SR_isValue : Cond.static m_SR_isValue.1 ∈ rx_tbl := rx_in 499 (by decide +kernel) (by decide +kernel)
theorem c9_SR_isValue : rx_cl9 m_SR_isValue 2 2 := ⟨by decide +kernel, ⟨by decide +kernel, by decide +kernel⟩, by decide +kernel, rx_in 500 (by decide +kernel) (by decide +kernel), rx_in 1 (by decide +kernel) (by decide +kernel), rfl, by decide, by decide⟩
theorem im_Page_put : Cond.instanceMethod m_Page_put.1 ∈ rx_tbl := rx_in 508 (by decide +kernel) (by decide +kernel)
theorem se_Page_put : Cond.selects "ScoreRoads$Page" m_Page_put.1 m_Page_put.1 ∈ rx_tbl := rx_in 509 (by decide +kernel) (by decide +kernel)
theorem c9_Page_put : rx_cl9 m_Page_put 3 4 := ⟨by decide +kernel, ⟨by decide +kernel, by decide +kernel⟩, by decide +kernel, rx_in 510 (by decide +kernel) (by decide +kernel), rx_in 2 (by decide +kernel) (by decide +kernel), rfl, by decide, by decide⟩
theorem st_La_note : Cond.static m_La_note.1 ∈ rx_tbl := rx_in 513 (by decide +kernel) (by decide +kernel)
theorem cw_La_note : Cond.codeWith m_La_note.1 m_La_note.2.1 m_La_note.2.2.1 m_La_note.2.2.2.1 m_La_note.2.2.2.2 ∈ rx_tbl := rx_in 514 (by decide +kernel) (by decide +kernel)
theorem im_SR_note : Cond.instanceMethod m_SR_note.1 ∈ rx_tbl := rx_in 516 (by decide +kernel) (by decide +kernel)
theorem se_SR_note : Cond.selects "ScoreRoads" m_SR_note.1 m_SR_note.1 ∈ rx_tbl := rx_in 517 (by decide +kernel) (by decide +kernel)
theorem c9_SR_note : rx_cl9 m_SR_note 6 7 := ⟨by decide +kernel, ⟨by decide +kernel, by decide +kernel⟩, by decide +kernel, rx_in 518 (by decide +kernel) (by decide +kernel), rx_in 1 (by decide +kernel) (by decide +kernel), rfl, by decide, by decide⟩
theorem st_SR_needPart : Cond.static m_SR_needPart.1 ∈ rx_tbl := rx_in 520 (by decide +kernel) (by decide +kernel)
theorem c9_SR_needPart : rx_cl9 m_SR_needPart 1 1 := ⟨by decide +kernel, ⟨by decide +kernel, by decide +kernel⟩, by decide +kernel, rx_in 521 (by decide +kernel) (by decide +kernel), rx_in 1 (by decide +kernel) (by decide +kernel), rfl, by decide, by decide⟩
theorem im_Page_lengthOf : Cond.instanceMethod m_Page_lengthOf.1 ∈ rx_tbl := rx_in 525 (by decide +kernel) (by decide +kernel)
theorem se_Page_lengthOf : Cond.selects "ScoreRoads$Page" m_Page_lengthOf.1 m_Page_lengthOf.1 ∈ rx_tbl := rx_in 526 (by decide +kernel) (by decide +kernel)
theorem c9_Page_lengthOf : rx_cl9 m_Page_lengthOf 1 2 := ⟨by decide +kernel, ⟨by decide +kernel, by decide +kernel⟩, by decide +kernel, rx_in 527 (by decide +kernel) (by decide +kernel), rx_in 2 (by decide +kernel) (by decide +kernel), rfl, by decide, by decide⟩
theorem im_Notes_isFull : Cond.instanceMethod m_Notes_isFull.1 ∈ rx_tbl := rx_in 530 (by decide +kernel) (by decide +kernel)
theorem se_Notes_isFull : Cond.selects "ScoreRoads$Notes" m_Notes_isFull.1 m_Notes_isFull.1 ∈ rx_tbl := rx_in 531 (by decide +kernel) (by decide +kernel)
theorem c9_Notes_isFull : rx_cl9 m_Notes_isFull 0 1 := ⟨by decide +kernel, ⟨by decide +kernel, by decide +kernel⟩, by decide +kernel, rx_in 532 (by decide +kernel) (by decide +kernel), rx_in 4 (by decide +kernel) (by decide +kernel), rfl, by decide, by decide⟩
theorem im_Notes_seek : Cond.instanceMethod m_Notes_seek.1 ∈ rx_tbl := rx_in 534 (by decide +kernel) (by decide +kernel)
theorem se_Notes_seek : Cond.selects "ScoreRoads$Notes" m_Notes_seek.1 m_Notes_seek.1 ∈ rx_tbl := rx_in 535 (by decide +kernel) (by decide +kernel)
theorem c9_Notes_seek : rx_cl9 m_Notes_seek 4 5 := ⟨by decide +kernel, ⟨by decide +kernel, by decide +kernel⟩, by decide +kernel, rx_in 536 (by decide +kernel) (by decide +kernel), rx_in 4 (by decide +kernel) (by decide +kernel), rfl, by decide, by decide⟩
theorem im_Note_isIn : Cond.instanceMethod m_Note_isIn.1 ∈ rx_tbl := rx_in 538 (by decide +kernel) (by decide +kernel)
theorem se_Note_isIn : Cond.selects "ScoreRoads$Note" m_Note_isIn.1 m_Note_isIn.1 ∈ rx_tbl := rx_in 539 (by decide +kernel) (by decide +kernel)
theorem c9_Note_isIn : rx_cl9 m_Note_isIn 2 3 := ⟨by decide +kernel, ⟨by decide +kernel, by decide +kernel⟩, by decide +kernel, rx_in 540 (by decide +kernel) (by decide +kernel), rx_in 16 (by decide +kernel) (by decide +kernel), rfl, by decide, by decide⟩
theorem im_Note_init : Cond.instanceMethod m_Note_init.1 ∈ rx_tbl := rx_in 545 (by decide +kernel) (by decide +kernel)
theorem c9_Note_init : rx_cl9 m_Note_init 6 7 := ⟨by decide +kernel, ⟨by decide +kernel, by decide +kernel⟩, by decide +kernel, rx_in 546 (by decide +kernel) (by decide +kernel), rx_in 16 (by decide +kernel) (by decide +kernel), rfl, by decide, by decide⟩
theorem im_Notes_add : Cond.instanceMethod m_Notes_add.1 ∈ rx_tbl := rx_in 576 (by decide +kernel) (by decide +kernel)
theorem se_Notes_add : Cond.selects "ScoreRoads$Notes" m_Notes_add.1 m_Notes_add.1 ∈ rx_tbl := rx_in 577 (by decide +kernel) (by decide +kernel)
theorem c9_Notes_add : rx_cl9 m_Notes_add 1 2 := ⟨by decide +kernel, ⟨by decide +kernel, by decide +kernel⟩, by decide +kernel, rx_in 578 (by decide +kernel) (by decide +kernel), rx_in 4 (by decide +kernel) (by decide +kernel), rfl, by decide, by decide⟩
theorem im_Note_isBehind : Cond.instanceMethod m_Note_isBehind.1 ∈ rx_tbl := rx_in 581 (by decide +kernel) (by decide +kernel)
theorem se_Note_isBehind : Cond.selects "ScoreRoads$Note" m_Note_isBehind.1 m_Note_isBehind.1 ∈ rx_tbl := rx_in 582 (by decide +kernel) (by decide +kernel)
theorem c9_Note_isBehind : rx_cl9 m_Note_isBehind 1 2 := ⟨by decide +kernel, ⟨by decide +kernel, by decide +kernel⟩, by decide +kernel, rx_in 583 (by decide +kernel) (by decide +kernel), rx_in 16 (by decide +kernel) (by decide +kernel), rfl, by decide, by decide⟩
theorem st_La_transpose : Cond.static m_La_transpose.1 ∈ rx_tbl := rx_in 585 (by decide +kernel) (by decide +kernel)
theorem cw_La_transpose : Cond.codeWith m_La_transpose.1 m_La_transpose.2.1 m_La_transpose.2.2.1 m_La_transpose.2.2.2.1 m_La_transpose.2.2.2.2 ∈ rx_tbl := rx_in 586 (by decide +kernel) (by decide +kernel)
theorem im_SR_transpose : Cond.instanceMethod m_SR_transpose.1 ∈ rx_tbl := rx_in 588 (by decide +kernel) (by decide +kernel)
theorem se_SR_transpose : Cond.selects "ScoreRoads" m_SR_transpose.1 m_SR_transpose.1 ∈ rx_tbl := rx_in 589 (by decide +kernel) (by decide +kernel)
theorem c9_SR_transpose : rx_cl9 m_SR_transpose 2 3 := ⟨by decide +kernel, ⟨by decide +kernel, by decide +kernel⟩, by decide +kernel, rx_in 590 (by decide +kernel) (by decide +kernel), rx_in 1 (by decide +kernel) (by decide +kernel), rfl, by decide, by decide⟩
theorem im_Notes_canShift : Cond.instanceMethod m_Notes_canShift.1 ∈ rx_tbl := rx_in 592 (by decide +kernel) (by decide +kernel)
theorem se_Notes_canShift : Cond.selects "ScoreRoads$Notes" m_Notes_canShift.1 m_Notes_canShift.1 ∈ rx_tbl := rx_in 593 (by decide +kernel) (by decide +kernel)
theorem c9_Notes_canShift : rx_cl9 m_Notes_canShift 2 3 := ⟨by decide +kernel, ⟨by decide +kernel, by decide +kernel⟩, by decide +kernel, rx_in 594 (by decide +kernel) (by decide +kernel), rx_in 4 (by decide +kernel) (by decide +kernel), rfl, by decide, by decide⟩
theorem im_Notes_shift : Cond.instanceMethod m_Notes_shift.1 ∈ rx_tbl := rx_in 598 (by decide +kernel) (by decide +kernel)
theorem se_Notes_shift : Cond.selects "ScoreRoads$Notes" m_Notes_shift.1 m_Notes_shift.1 ∈ rx_tbl := rx_in 599 (by decide +kernel) (by decide +kernel)
theorem c9_Notes_shift : rx_cl9 m_Notes_shift 2 3 := ⟨by decide +kernel, ⟨by decide +kernel, by decide +kernel⟩, by decide +kernel, rx_in 600 (by decide +kernel) (by decide +kernel), rx_in 4 (by decide +kernel) (by decide +kernel), rfl, by decide, by decide⟩
theorem st_La_played : Cond.static m_La_played.1 ∈ rx_tbl := rx_in 602 (by decide +kernel) (by decide +kernel)
theorem cw_La_played : Cond.codeWith m_La_played.1 m_La_played.2.1 m_La_played.2.2.1 m_La_played.2.2.2.1 m_La_played.2.2.2.2 ∈ rx_tbl := rx_in 603 (by decide +kernel) (by decide +kernel)
theorem im_SR_played : Cond.instanceMethod m_SR_played.1 ∈ rx_tbl := rx_in 606 (by decide +kernel) (by decide +kernel)
theorem se_SR_played : Cond.selects "ScoreRoads" m_SR_played.1 m_SR_played.1 ∈ rx_tbl := rx_in 607 (by decide +kernel) (by decide +kernel)
theorem c9_SR_played : rx_cl9 m_SR_played 1 2 := ⟨by decide +kernel, ⟨by decide +kernel, by decide +kernel⟩, by decide +kernel, rx_in 608 (by decide +kernel) (by decide +kernel), rx_in 1 (by decide +kernel) (by decide +kernel), rfl, by decide, by decide⟩
theorem im_SR_needRoad : Cond.instanceMethod m_SR_needRoad.1 ∈ rx_tbl := rx_in 611 (by decide +kernel) (by decide +kernel)
theorem se_SR_needRoad : Cond.selects "ScoreRoads" m_SR_needRoad.1 m_SR_needRoad.1 ∈ rx_tbl := rx_ip 10 (by decide +kernel) (by decide +kernel)
theorem c9_SR_needRoad : rx_cl9 m_SR_needRoad 0 1 := ⟨by decide +kernel, ⟨by decide +kernel, by decide +kernel⟩, by decide +kernel, rx_in 612 (by decide +kernel) (by decide +kernel), rx_in 1 (by decide +kernel) (by decide +kernel), rfl, by decide, by decide⟩
theorem st_SR_needPlayed : Cond.static m_SR_needPlayed.1 ∈ rx_tbl := rx_in 615 (by decide +kernel) (by decide +kernel)
theorem c9_SR_needPlayed : rx_cl9 m_SR_needPlayed 2 2 := ⟨by decide +kernel, ⟨by decide +kernel, by decide +kernel⟩, by decide +kernel, rx_in 616 (by decide +kernel) (by decide +kernel), rx_in 1 (by decide +kernel) (by decide +kernel), rfl, by decide, by decide⟩
theorem im_Road_barOf : Cond.instanceMethod m_Road_barOf.1 ∈ rx_tbl := rx_in 634 (by decide +kernel) (by decide +kernel)
theorem se_Road_barOf : Cond.selects "ScoreRoads$Road" m_Road_barOf.1 m_Road_barOf.1 ∈ rx_tbl := rx_in 635 (by decide +kernel) (by decide +kernel)
theorem c9_Road_barOf : rx_cl9 m_Road_barOf 1 2 := ⟨by decide +kernel, ⟨by decide +kernel, by decide +kernel⟩, by decide +kernel, rx_in 636 (by decide +kernel) (by decide +kernel), rx_in 7 (by decide +kernel) (by decide +kernel), rfl, by decide, by decide⟩
theorem st_La_time : Cond.static m_La_time.1 ∈ rx_tbl := rx_in 639 (by decide +kernel) (by decide +kernel)
theorem cw_La_time : Cond.codeWith m_La_time.1 m_La_time.2.1 m_La_time.2.2.1 m_La_time.2.2.2.1 m_La_time.2.2.2.2 ∈ rx_tbl := rx_in 640 (by decide +kernel) (by decide +kernel)
theorem im_SR_time : Cond.instanceMethod m_SR_time.1 ∈ rx_tbl := rx_in 642 (by decide +kernel) (by decide +kernel)
theorem se_SR_time : Cond.selects "ScoreRoads" m_SR_time.1 m_SR_time.1 ∈ rx_tbl := rx_in 643 (by decide +kernel) (by decide +kernel)
theorem c9_SR_time : rx_cl9 m_SR_time 1 2 := ⟨by decide +kernel, ⟨by decide +kernel, by decide +kernel⟩, by decide +kernel, rx_in 644 (by decide +kernel) (by decide +kernel), rx_in 1 (by decide +kernel) (by decide +kernel), rfl, by decide, by decide⟩
theorem im_Road_timesUpTo : Cond.instanceMethod m_Road_timesUpTo.1 ∈ rx_tbl := rx_in 646 (by decide +kernel) (by decide +kernel)
theorem se_Road_timesUpTo : Cond.selects "ScoreRoads$Road" m_Road_timesUpTo.1 m_Road_timesUpTo.1 ∈ rx_tbl := rx_in 647 (by decide +kernel) (by decide +kernel)
theorem c9_Road_timesUpTo : rx_cl9 m_Road_timesUpTo 1 2 := ⟨by decide +kernel, ⟨by decide +kernel, by decide +kernel⟩, by decide +kernel, rx_in 648 (by decide +kernel) (by decide +kernel), rx_in 7 (by decide +kernel) (by decide +kernel), rfl, by decide, by decide⟩
theorem st_La_find : Cond.static m_La_find.1 ∈ rx_tbl := rx_in 651 (by decide +kernel) (by decide +kernel)
theorem cw_La_find : Cond.codeWith m_La_find.1 m_La_find.2.1 m_La_find.2.2.1 m_La_find.2.2.2.1 m_La_find.2.2.2.2 ∈ rx_tbl := rx_in 652 (by decide +kernel) (by decide +kernel)
theorem im_SR_find : Cond.instanceMethod m_SR_find.1 ∈ rx_tbl := rx_in 654 (by decide +kernel) (by decide +kernel)
theorem se_SR_find : Cond.selects "ScoreRoads" m_SR_find.1 m_SR_find.1 ∈ rx_tbl := rx_in 655 (by decide +kernel) (by decide +kernel)
theorem c9_SR_find : rx_cl9 m_SR_find 2 3 := ⟨by decide +kernel, ⟨by decide +kernel, by decide +kernel⟩, by decide +kernel, rx_in 656 (by decide +kernel) (by decide +kernel), rx_in 1 (by decide +kernel) (by decide +kernel), rfl, by decide, by decide⟩
theorem im_Road_indexOf : Cond.instanceMethod m_Road_indexOf.1 ∈ rx_tbl := rx_in 658 (by decide +kernel) (by decide +kernel)
theorem se_Road_indexOf : Cond.selects "ScoreRoads$Road" m_Road_indexOf.1 m_Road_indexOf.1 ∈ rx_tbl := rx_in 659 (by decide +kernel) (by decide +kernel)
theorem c9_Road_indexOf : rx_cl9 m_Road_indexOf 2 3 := ⟨by decide +kernel, ⟨by decide +kernel, by decide +kernel⟩, by decide +kernel, rx_in 660 (by decide +kernel) (by decide +kernel), rx_in 7 (by decide +kernel) (by decide +kernel), rfl, by decide, by decide⟩
theorem st_La_tick : Cond.static m_La_tick.1 ∈ rx_tbl := rx_in 662 (by decide +kernel) (by decide +kernel)
theorem cw_La_tick : Cond.codeWith m_La_tick.1 m_La_tick.2.1 m_La_tick.2.2.1 m_La_tick.2.2.2.1 m_La_tick.2.2.2.2 ∈ rx_tbl := rx_in 663 (by decide +kernel) (by decide +kernel)
theorem im_SR_tick : Cond.instanceMethod m_SR_tick.1 ∈ rx_tbl := rx_in 665 (by decide +kernel) (by decide +kernel)
theorem se_SR_tick : Cond.selects "ScoreRoads" m_SR_tick.1 m_SR_tick.1 ∈ rx_tbl := rx_in 666 (by decide +kernel) (by decide +kernel)
theorem c9_SR_tick : rx_cl9 m_SR_tick 1 2 := ⟨by decide +kernel, ⟨by decide +kernel, by decide +kernel⟩, by decide +kernel, rx_in 667 (by decide +kernel) (by decide +kernel), rx_in 1 (by decide +kernel) (by decide +kernel), rfl, by decide, by decide⟩
theorem im_Road_ticksTo : Cond.instanceMethod m_Road_ticksTo.1 ∈ rx_tbl := rx_in 669 (by decide +kernel) (by decide +kernel)
theorem se_Road_ticksTo : Cond.selects "ScoreRoads$Road" m_Road_ticksTo.1 m_Road_ticksTo.1 ∈ rx_tbl := rx_in 670 (by decide +kernel) (by decide +kernel)
theorem c9_Road_ticksTo : rx_cl9 m_Road_ticksTo 2 3 := ⟨by decide +kernel, ⟨by decide +kernel, by decide +kernel⟩, by decide +kernel, rx_in 671 (by decide +kernel) (by decide +kernel), rx_in 7 (by decide +kernel) (by decide +kernel), rfl, by decide, by decide⟩
theorem st_Road_ticksOf : Cond.static m_Road_ticksOf.1 ∈ rx_tbl := rx_in 673 (by decide +kernel) (by decide +kernel)
theorem c9_Road_ticksOf : rx_cl9 m_Road_ticksOf 2 2 := ⟨by decide +kernel, ⟨by decide +kernel, by decide +kernel⟩, by decide +kernel, rx_in 674 (by decide +kernel) (by decide +kernel), rx_in 7 (by decide +kernel) (by decide +kernel), rfl, by decide, by decide⟩
theorem im_Page_tempoOf : Cond.instanceMethod m_Page_tempoOf.1 ∈ rx_tbl := rx_in 677 (by decide +kernel) (by decide +kernel)
theorem se_Page_tempoOf : Cond.selects "ScoreRoads$Page" m_Page_tempoOf.1 m_Page_tempoOf.1 ∈ rx_tbl := rx_in 678 (by decide +kernel) (by decide +kernel)
theorem c9_Page_tempoOf : rx_cl9 m_Page_tempoOf 1 2 := ⟨by decide +kernel, ⟨by decide +kernel, by decide +kernel⟩, by decide +kernel, rx_in 679 (by decide +kernel) (by decide +kernel), rx_in 2 (by decide +kernel) (by decide +kernel), rfl, by decide, by decide⟩
theorem st_La_at : Cond.static m_La_at.1 ∈ rx_tbl := rx_in 681 (by decide +kernel) (by decide +kernel)
theorem cw_La_at : Cond.codeWith m_La_at.1 m_La_at.2.1 m_La_at.2.2.1 m_La_at.2.2.2.1 m_La_at.2.2.2.2 ∈ rx_tbl := rx_in 682 (by decide +kernel) (by decide +kernel)
theorem im_SR_at : Cond.instanceMethod m_SR_at.1 ∈ rx_tbl := rx_in 684 (by decide +kernel) (by decide +kernel)
theorem se_SR_at : Cond.selects "ScoreRoads" m_SR_at.1 m_SR_at.1 ∈ rx_tbl := rx_in 685 (by decide +kernel) (by decide +kernel)
theorem c9_SR_at : rx_cl9 m_SR_at 1 3 := ⟨by decide +kernel, ⟨by decide +kernel, by decide +kernel⟩, by decide +kernel, rx_in 686 (by decide +kernel) (by decide +kernel), rx_in 1 (by decide +kernel) (by decide +kernel), rfl, by decide, by decide⟩
theorem im_Road_indexAt : Cond.instanceMethod m_Road_indexAt.1 ∈ rx_tbl := rx_in 688 (by decide +kernel) (by decide +kernel)
theorem se_Road_indexAt : Cond.selects "ScoreRoads$Road" m_Road_indexAt.1 m_Road_indexAt.1 ∈ rx_tbl := rx_in 689 (by decide +kernel) (by decide +kernel)
theorem c9_Road_indexAt : rx_cl9 m_Road_indexAt 2 4 := ⟨by decide +kernel, ⟨by decide +kernel, by decide +kernel⟩, by decide +kernel, rx_in 690 (by decide +kernel) (by decide +kernel), rx_in 7 (by decide +kernel) (by decide +kernel), rfl, by decide, by decide⟩
theorem st_La_sounds : Cond.static m_La_sounds.1 ∈ rx_tbl := rx_in 692 (by decide +kernel) (by decide +kernel)
theorem cw_La_sounds : Cond.codeWith m_La_sounds.1 m_La_sounds.2.1 m_La_sounds.2.2.1 m_La_sounds.2.2.2.1 m_La_sounds.2.2.2.2 ∈ rx_tbl := rx_in 693 (by decide +kernel) (by decide +kernel)
theorem im_SR_sounds : Cond.instanceMethod m_SR_sounds.1 ∈ rx_tbl := rx_in 695 (by decide +kernel) (by decide +kernel)
theorem se_SR_sounds : Cond.selects "ScoreRoads" m_SR_sounds.1 m_SR_sounds.1 ∈ rx_tbl := rx_in 696 (by decide +kernel) (by decide +kernel)
theorem c9_SR_sounds : rx_cl9 m_SR_sounds 1 2 := ⟨by decide +kernel, ⟨by decide +kernel, by decide +kernel⟩, by decide +kernel, rx_in 697 (by decide +kernel) (by decide +kernel), rx_in 1 (by decide +kernel) (by decide +kernel), rfl, by decide, by decide⟩
theorem im_Sounding_know : Cond.instanceMethod m_Sounding_know.1 ∈ rx_tbl := rx_in 699 (by decide +kernel) (by decide +kernel)
theorem se_Sounding_know : Cond.selects "ScoreRoads$Sounding" m_Sounding_know.1 m_Sounding_know.1 ∈ rx_tbl := rx_in 700 (by decide +kernel) (by decide +kernel)
theorem c9_Sounding_know : rx_cl9 m_Sounding_know 4 5 := ⟨by decide +kernel, ⟨by decide +kernel, by decide +kernel⟩, by decide +kernel, rx_in 701 (by decide +kernel) (by decide +kernel), rx_in 8 (by decide +kernel) (by decide +kernel), rfl, by decide, by decide⟩
theorem im_Sounding_gather : Cond.instanceMethod m_Sounding_gather.1 ∈ rx_tbl := rx_in 704 (by decide +kernel) (by decide +kernel)
theorem se_Sounding_gather : Cond.selects "ScoreRoads$Sounding" m_Sounding_gather.1 m_Sounding_gather.1 ∈ rx_tbl := rx_ip 11 (by decide +kernel) (by decide +kernel)
theorem c9_Sounding_gather : rx_cl9 m_Sounding_gather 5 6 := ⟨by decide +kernel, ⟨by decide +kernel, by decide +kernel⟩, by decide +kernel, rx_in 705 (by decide +kernel) (by decide +kernel), rx_in 8 (by decide +kernel) (by decide +kernel), rfl, by decide, by decide⟩
theorem im_Notes_get : Cond.instanceMethod m_Notes_get.1 ∈ rx_tbl := rx_in 707 (by decide +kernel) (by decide +kernel)
theorem se_Notes_get : Cond.selects "ScoreRoads$Notes" m_Notes_get.1 m_Notes_get.1 ∈ rx_tbl := rx_in 708 (by decide +kernel) (by decide +kernel)
theorem c9_Notes_get : rx_cl9 m_Notes_get 1 2 := ⟨by decide +kernel, ⟨by decide +kernel, by decide +kernel⟩, by decide +kernel, rx_in 709 (by decide +kernel) (by decide +kernel), rx_in 4 (by decide +kernel) (by decide +kernel), rfl, by decide, by decide⟩
theorem im_Notes_isGoingOn : Cond.instanceMethod m_Notes_isGoingOn.1 ∈ rx_tbl := rx_in 714 (by decide +kernel) (by decide +kernel)
theorem se_Notes_isGoingOn : Cond.selects "ScoreRoads$Notes" m_Notes_isGoingOn.1 m_Notes_isGoingOn.1 ∈ rx_tbl := rx_in 715 (by decide +kernel) (by decide +kernel)
theorem c9_Notes_isGoingOn : rx_cl9 m_Notes_isGoingOn 3 4 := ⟨by decide +kernel, ⟨by decide +kernel, by decide +kernel⟩, by decide +kernel, rx_in 716 (by decide +kernel) (by decide +kernel), rx_in 4 (by decide +kernel) (by decide +kernel), rfl, by decide, by decide⟩
theorem im_Note_reachesOver : Cond.instanceMethod m_Note_reachesOver.1 ∈ rx_tbl := rx_in 718 (by decide +kernel) (by decide +kernel)
theorem se_Note_reachesOver : Cond.selects "ScoreRoads$Note" m_Note_reachesOver.1 m_Note_reachesOver.1 ∈ rx_tbl := rx_in 719 (by decide +kernel) (by decide +kernel)
theorem c9_Note_reachesOver : rx_cl9 m_Note_reachesOver 1 2 := ⟨by decide +kernel, ⟨by decide +kernel, by decide +kernel⟩, by decide +kernel, rx_in 720 (by decide +kernel) (by decide +kernel), rx_in 16 (by decide +kernel) (by decide +kernel), rfl, by decide, by decide⟩
theorem st_La_sound : Cond.static m_La_sound.1 ∈ rx_tbl := rx_in 724 (by decide +kernel) (by decide +kernel)
theorem cw_La_sound : Cond.codeWith m_La_sound.1 m_La_sound.2.1 m_La_sound.2.2.1 m_La_sound.2.2.2.1 m_La_sound.2.2.2.2 ∈ rx_tbl := rx_in 725 (by decide +kernel) (by decide +kernel)
theorem im_SR_sound : Cond.instanceMethod m_SR_sound.1 ∈ rx_tbl := rx_in 727 (by decide +kernel) (by decide +kernel)
theorem se_SR_sound : Cond.selects "ScoreRoads" m_SR_sound.1 m_SR_sound.1 ∈ rx_tbl := rx_in 728 (by decide +kernel) (by decide +kernel)
theorem c9_SR_sound : rx_cl9 m_SR_sound 3 4 := ⟨by decide +kernel, ⟨by decide +kernel, by decide +kernel⟩, by decide +kernel, rx_in 729 (by decide +kernel) (by decide +kernel), rx_in 1 (by decide +kernel) (by decide +kernel), rfl, by decide, by decide⟩
theorem im_Sounding_beginOf : Cond.instanceMethod m_Sounding_beginOf.1 ∈ rx_tbl := rx_in 732 (by decide +kernel) (by decide +kernel)
theorem se_Sounding_beginOf : Cond.selects "ScoreRoads$Sounding" m_Sounding_beginOf.1 m_Sounding_beginOf.1 ∈ rx_tbl := rx_in 733 (by decide +kernel) (by decide +kernel)
theorem c9_Sounding_beginOf : rx_cl9 m_Sounding_beginOf 3 4 := ⟨by decide +kernel, ⟨by decide +kernel, by decide +kernel⟩, by decide +kernel, rx_in 734 (by decide +kernel) (by decide +kernel), rx_in 8 (by decide +kernel) (by decide +kernel), rfl, by decide, by decide⟩
theorem im_Sounding_firstOf : Cond.instanceMethod m_Sounding_firstOf.1 ∈ rx_tbl := rx_in 737 (by decide +kernel) (by decide +kernel)
theorem se_Sounding_firstOf : Cond.selects "ScoreRoads$Sounding" m_Sounding_firstOf.1 m_Sounding_firstOf.1 ∈ rx_tbl := rx_ip 12 (by decide +kernel) (by decide +kernel)
theorem c9_Sounding_firstOf : rx_cl9 m_Sounding_firstOf 1 2 := ⟨by decide +kernel, ⟨by decide +kernel, by decide +kernel⟩, by decide +kernel, rx_in 738 (by decide +kernel) (by decide +kernel), rx_in 8 (by decide +kernel) (by decide +kernel), rfl, by decide, by decide⟩
theorem im_Sounding_pitchOf : Cond.instanceMethod m_Sounding_pitchOf.1 ∈ rx_tbl := rx_in 744 (by decide +kernel) (by decide +kernel)
theorem se_Sounding_pitchOf : Cond.selects "ScoreRoads$Sounding" m_Sounding_pitchOf.1 m_Sounding_pitchOf.1 ∈ rx_tbl := rx_in 745 (by decide +kernel) (by decide +kernel)
theorem c9_Sounding_pitchOf : rx_cl9 m_Sounding_pitchOf 1 2 := ⟨by decide +kernel, ⟨by decide +kernel, by decide +kernel⟩, by decide +kernel, rx_in 746 (by decide +kernel) (by decide +kernel), rx_in 8 (by decide +kernel) (by decide +kernel), rfl, by decide, by decide⟩
theorem im_Sounding_lengthOf : Cond.instanceMethod m_Sounding_lengthOf.1 ∈ rx_tbl := rx_in 748 (by decide +kernel) (by decide +kernel)
theorem se_Sounding_lengthOf : Cond.selects "ScoreRoads$Sounding" m_Sounding_lengthOf.1 m_Sounding_lengthOf.1 ∈ rx_tbl := rx_in 749 (by decide +kernel) (by decide +kernel)
theorem c9_Sounding_lengthOf : rx_cl9 m_Sounding_lengthOf 5 6 := ⟨by decide +kernel, ⟨by decide +kernel, by decide +kernel⟩, by decide +kernel, rx_in 750 (by decide +kernel) (by decide +kernel), rx_in 8 (by decide +kernel) (by decide +kernel), rfl, by decide, by decide⟩
theorem im_Notes_goingOn : Cond.instanceMethod m_Notes_goingOn.1 ∈ rx_tbl := rx_in 752 (by decide +kernel) (by decide +kernel)
theorem se_Notes_goingOn : Cond.selects "ScoreRoads$Notes" m_Notes_goingOn.1 m_Notes_goingOn.1 ∈ rx_tbl := rx_in 753 (by decide +kernel) (by decide +kernel)
theorem c9_Notes_goingOn : rx_cl9 m_Notes_goingOn 3 4 := ⟨by decide +kernel, ⟨by decide +kernel, by decide +kernel⟩, by decide +kernel, rx_in 754 (by decide +kernel) (by decide +kernel), rx_in 4 (by decide +kernel) (by decide +kernel), rfl, by decide, by decide⟩
theorem st_La_rest : Cond.static m_La_rest.1 ∈ rx_tbl := rx_in 757 (by decide +kernel) (by decide +kernel)
theorem cw_La_rest : Cond.codeWith m_La_rest.1 m_La_rest.2.1 m_La_rest.2.2.1 m_La_rest.2.2.2.1 m_La_rest.2.2.2.2 ∈ rx_tbl := rx_in 758 (by decide +kernel) (by decide +kernel)
theorem im_SR_rest : Cond.instanceMethod m_SR_rest.1 ∈ rx_tbl := rx_in 760 (by decide +kernel) (by decide +kernel)
theorem se_SR_rest : Cond.selects "ScoreRoads" m_SR_rest.1 m_SR_rest.1 ∈ rx_tbl := rx_in 761 (by decide +kernel) (by decide +kernel)
theorem c9_SR_rest : rx_cl9 m_SR_rest 2 3 := ⟨by decide +kernel, ⟨by decide +kernel, by decide +kernel⟩, by decide +kernel, rx_in 762 (by decide +kernel) (by decide +kernel), rx_in 1 (by decide +kernel) (by decide +kernel), rfl, by decide, by decide⟩
theorem im_Notes_isRest : Cond.instanceMethod m_Notes_isRest.1 ∈ rx_tbl := rx_in 764 (by decide +kernel) (by decide +kernel)
theorem se_Notes_isRest : Cond.selects "ScoreRoads$Notes" m_Notes_isRest.1 m_Notes_isRest.1 ∈ rx_tbl := rx_in 765 (by decide +kernel) (by decide +kernel)
theorem c9_Notes_isRest : rx_cl9 m_Notes_isRest 2 3 := ⟨by decide +kernel, ⟨by decide +kernel, by decide +kernel⟩, by decide +kernel, rx_in 766 (by decide +kernel) (by decide +kernel), rx_in 4 (by decide +kernel) (by decide +kernel), rfl, by decide, by decide⟩
theorem im_SR_goesOnResting : Cond.instanceMethod m_SR_goesOnResting.1 ∈ rx_tbl := rx_in 769 (by decide +kernel) (by decide +kernel)
theorem se_SR_goesOnResting : Cond.selects "ScoreRoads" m_SR_goesOnResting.1 m_SR_goesOnResting.1 ∈ rx_tbl := rx_ip 13 (by decide +kernel) (by decide +kernel)
theorem c9_SR_goesOnResting : rx_cl9 m_SR_goesOnResting 2 3 := ⟨by decide +kernel, ⟨by decide +kernel, by decide +kernel⟩, by decide +kernel, rx_in 770 (by decide +kernel) (by decide +kernel), rx_in 1 (by decide +kernel) (by decide +kernel), rfl, by decide, by decide⟩
theorem im_Page_isCutBefore : Cond.instanceMethod m_Page_isCutBefore.1 ∈ rx_tbl := rx_in 772 (by decide +kernel) (by decide +kernel)
theorem se_Page_isCutBefore : Cond.selects "ScoreRoads$Page" m_Page_isCutBefore.1 m_Page_isCutBefore.1 ∈ rx_tbl := rx_in 773 (by decide +kernel) (by decide +kernel)
theorem c9_Page_isCutBefore : rx_cl9 m_Page_isCutBefore 1 2 := ⟨by decide +kernel, ⟨by decide +kernel, by decide +kernel⟩, by decide +kernel, rx_in 774 (by decide +kernel) (by decide +kernel), rx_in 2 (by decide +kernel) (by decide +kernel), rfl, by decide, by decide⟩
theorem im_Page_opensCut : Cond.instanceMethod m_Page_opensCut.1 ∈ rx_tbl := rx_in 777 (by decide +kernel) (by decide +kernel)
theorem se_Page_opensCut : Cond.selects "ScoreRoads$Page" m_Page_opensCut.1 m_Page_opensCut.1 ∈ rx_tbl := rx_ip 14 (by decide +kernel) (by decide +kernel)
theorem c9_Page_opensCut : rx_cl9 m_Page_opensCut 1 2 := ⟨by decide +kernel, ⟨by decide +kernel, by decide +kernel⟩, by decide +kernel, rx_in 778 (by decide +kernel) (by decide +kernel), rx_in 2 (by decide +kernel) (by decide +kernel), rfl, by decide, by decide⟩
theorem im_Page_closesCut : Cond.instanceMethod m_Page_closesCut.1 ∈ rx_tbl := rx_in 782 (by decide +kernel) (by decide +kernel)
theorem se_Page_closesCut : Cond.selects "ScoreRoads$Page" m_Page_closesCut.1 m_Page_closesCut.1 ∈ rx_tbl := rx_ip 15 (by decide +kernel) (by decide +kernel)
theorem c9_Page_closesCut : rx_cl9 m_Page_closesCut 1 2 := ⟨by decide +kernel, ⟨by decide +kernel, by decide +kernel⟩, by decide +kernel, rx_in 783 (by decide +kernel) (by decide +kernel), rx_in 2 (by decide +kernel) (by decide +kernel), rfl, by decide, by decide⟩
theorem im_SR_restBars : Cond.instanceMethod m_SR_restBars.1 ∈ rx_tbl := rx_in 787 (by decide +kernel) (by decide +kernel)
theorem se_SR_restBars : Cond.selects "ScoreRoads" m_SR_restBars.1 m_SR_restBars.1 ∈ rx_tbl := rx_ip 16 (by decide +kernel) (by decide +kernel)
theorem c9_SR_restBars : rx_cl9 m_SR_restBars 2 3 := ⟨by decide +kernel, ⟨by decide +kernel, by decide +kernel⟩, by decide +kernel, rx_in 788 (by decide +kernel) (by decide +kernel), rx_in 1 (by decide +kernel) (by decide +kernel), rfl, by decide, by decide⟩
theorem im_Mo_init : Cond.instanceMethod m_Mo_init.1 ∈ rx_tbl := rx_in 792 (by decide +kernel) (by decide +kernel)
theorem c9_Mo_init : rx_cl9 m_Mo_init 1 2 := ⟨by decide +kernel, ⟨by decide +kernel, by decide +kernel⟩, by decide +kernel, rx_in 793 (by decide +kernel) (by decide +kernel), rx_in 9 (by decide +kernel) (by decide +kernel), rfl, by decide, by decide⟩
theorem im_Mo_thrown : Cond.instanceMethod m_Mo_thrown.1 ∈ rx_tbl := rx_in 885 (by decide +kernel) (by decide +kernel)
theorem se_Mo_thrown : Cond.selects "ScoreRoadsModel" m_Mo_thrown.1 m_Mo_thrown.1 ∈ rx_tbl := rx_in 886 (by decide +kernel) (by decide +kernel)
theorem c9_Mo_thrown : rx_cl9 m_Mo_thrown 0 1 := ⟨by decide +kernel, ⟨by decide +kernel, by decide +kernel⟩, by decide +kernel, rx_in 887 (by decide +kernel) (by decide +kernel), rx_in 9 (by decide +kernel) (by decide +kernel), rfl, by decide, by decide⟩
theorem im_Mo_bar : Cond.instanceMethod m_Mo_bar.1 ∈ rx_tbl := rx_in 889 (by decide +kernel) (by decide +kernel)
theorem se_Mo_bar : Cond.selects "ScoreRoadsModel" m_Mo_bar.1 m_Mo_bar.1 ∈ rx_tbl := rx_in 890 (by decide +kernel) (by decide +kernel)
theorem c9_Mo_bar : rx_cl9 m_Mo_bar 3 4 := ⟨by decide +kernel, ⟨by decide +kernel, by decide +kernel⟩, by decide +kernel, rx_in 891 (by decide +kernel) (by decide +kernel), rx_in 9 (by decide +kernel) (by decide +kernel), rfl, by decide, by decide⟩
theorem im_Mo_isBar : Cond.instanceMethod m_Mo_isBar.1 ∈ rx_tbl := rx_in 894 (by decide +kernel) (by decide +kernel)
theorem se_Mo_isBar : Cond.selects "ScoreRoadsModel" m_Mo_isBar.1 m_Mo_isBar.1 ∈ rx_tbl := rx_ip 17 (by decide +kernel) (by decide +kernel)
theorem c9_Mo_isBar : rx_cl9 m_Mo_isBar 1 2 := ⟨by decide +kernel, ⟨by decide +kernel, by decide +kernel⟩, by decide +kernel, rx_in 895 (by decide +kernel) (by decide +kernel), rx_in 9 (by decide +kernel) (by decide +kernel), rfl, by decide, by decide⟩
theorem st_Mo_within : Cond.static m_Mo_within.1 ∈ rx_tbl := rx_in 897 (by decide +kernel) (by decide +kernel)
theorem c9_Mo_within : rx_cl9 m_Mo_within 3 3 := ⟨by decide +kernel, ⟨by decide +kernel, by decide +kernel⟩, by decide +kernel, rx_in 898 (by decide +kernel) (by decide +kernel), rx_in 9 (by decide +kernel) (by decide +kernel), rfl, by decide, by decide⟩
theorem im_Mo_sign : Cond.instanceMethod m_Mo_sign.1 ∈ rx_tbl := rx_in 900 (by decide +kernel) (by decide +kernel)
theorem se_Mo_sign : Cond.selects "ScoreRoadsModel" m_Mo_sign.1 m_Mo_sign.1 ∈ rx_tbl := rx_in 901 (by decide +kernel) (by decide +kernel)
theorem c9_Mo_sign : rx_cl9 m_Mo_sign 3 4 := ⟨by decide +kernel, ⟨by decide +kernel, by decide +kernel⟩, by decide +kernel, rx_in 902 (by decide +kernel) (by decide +kernel), rx_in 9 (by decide +kernel) (by decide +kernel), rfl, by decide, by decide⟩
theorem im_Mo_signAt : Cond.instanceMethod m_Mo_signAt.1 ∈ rx_tbl := rx_in 904 (by decide +kernel) (by decide +kernel)
theorem se_Mo_signAt : Cond.selects "ScoreRoadsModel" m_Mo_signAt.1 m_Mo_signAt.1 ∈ rx_tbl := rx_in 905 (by decide +kernel) (by decide +kernel)
theorem c9_Mo_signAt : rx_cl9 m_Mo_signAt 2 3 := ⟨by decide +kernel, ⟨by decide +kernel, by decide +kernel⟩, by decide +kernel, rx_in 906 (by decide +kernel) (by decide +kernel), rx_in 9 (by decide +kernel) (by decide +kernel), rfl, by decide, by decide⟩
theorem im_Mo_note : Cond.instanceMethod m_Mo_note.1 ∈ rx_tbl := rx_in 908 (by decide +kernel) (by decide +kernel)
theorem se_Mo_note : Cond.selects "ScoreRoadsModel" m_Mo_note.1 m_Mo_note.1 ∈ rx_tbl := rx_in 909 (by decide +kernel) (by decide +kernel)
theorem c9_Mo_note : rx_cl9 m_Mo_note 6 7 := ⟨by decide +kernel, ⟨by decide +kernel, by decide +kernel⟩, by decide +kernel, rx_in 910 (by decide +kernel) (by decide +kernel), rx_in 9 (by decide +kernel) (by decide +kernel), rfl, by decide, by decide⟩
theorem st_Mo_isPart : Cond.static m_Mo_isPart.1 ∈ rx_tbl := rx_in 912 (by decide +kernel) (by decide +kernel)
theorem c9_Mo_isPart : rx_cl9 m_Mo_isPart 1 1 := ⟨by decide +kernel, ⟨by decide +kernel, by decide +kernel⟩, by decide +kernel, rx_in 913 (by decide +kernel) (by decide +kernel), rx_in 9 (by decide +kernel) (by decide +kernel), rfl, by decide, by decide⟩
theorem im_Mo_refuse : Cond.instanceMethod m_Mo_refuse.1 ∈ rx_tbl := rx_in 916 (by decide +kernel) (by decide +kernel)
theorem se_Mo_refuse : Cond.selects "ScoreRoadsModel" m_Mo_refuse.1 m_Mo_refuse.1 ∈ rx_tbl := rx_ip 18 (by decide +kernel) (by decide +kernel)
theorem c9_Mo_refuse : rx_cl9 m_Mo_refuse 1 2 := ⟨by decide +kernel, ⟨by decide +kernel, by decide +kernel⟩, by decide +kernel, rx_in 917 (by decide +kernel) (by decide +kernel), rx_in 9 (by decide +kernel) (by decide +kernel), rfl, by decide, by decide⟩
theorem im_Mo_transpose : Cond.instanceMethod m_Mo_transpose.1 ∈ rx_tbl := rx_in 919 (by decide +kernel) (by decide +kernel)
theorem se_Mo_transpose : Cond.selects "ScoreRoadsModel" m_Mo_transpose.1 m_Mo_transpose.1 ∈ rx_tbl := rx_in 920 (by decide +kernel) (by decide +kernel)
theorem c9_Mo_transpose : rx_cl9 m_Mo_transpose 2 3 := ⟨by decide +kernel, ⟨by decide +kernel, by decide +kernel⟩, by decide +kernel, rx_in 921 (by decide +kernel) (by decide +kernel), rx_in 9 (by decide +kernel) (by decide +kernel), rfl, by decide, by decide⟩
theorem im_Mo_check : Cond.instanceMethod m_Mo_check.1 ∈ rx_tbl := rx_in 924 (by decide +kernel) (by decide +kernel)
theorem se_Mo_check : Cond.selects "ScoreRoadsModel" m_Mo_check.1 m_Mo_check.1 ∈ rx_tbl := rx_in 925 (by decide +kernel) (by decide +kernel)
theorem c9_Mo_check : rx_cl9 m_Mo_check 0 1 := ⟨by decide +kernel, ⟨by decide +kernel, by decide +kernel⟩, by decide +kernel, rx_in 926 (by decide +kernel) (by decide +kernel), rx_in 9 (by decide +kernel) (by decide +kernel), rfl, by decide, by decide⟩
theorem im_Mo_findFault : Cond.instanceMethod m_Mo_findFault.1 ∈ rx_tbl := rx_in 929 (by decide +kernel) (by decide +kernel)
theorem se_Mo_findFault : Cond.selects "ScoreRoadsModel" m_Mo_findFault.1 m_Mo_findFault.1 ∈ rx_tbl := rx_ip 19 (by decide +kernel) (by decide +kernel)
theorem c9_Mo_findFault : rx_cl9 m_Mo_findFault 0 1 := ⟨by decide +kernel, ⟨by decide +kernel, by decide +kernel⟩, by decide +kernel, rx_in 930 (by decide +kernel) (by decide +kernel), rx_in 9 (by decide +kernel) (by decide +kernel), rfl, by decide, by decide⟩
theorem im_Mo_findRepeats : Cond.instanceMethod m_Mo_findRepeats.1 ∈ rx_tbl := rx_in 933 (by decide +kernel) (by decide +kernel)
theorem se_Mo_findRepeats : Cond.selects "ScoreRoadsModel" m_Mo_findRepeats.1 m_Mo_findRepeats.1 ∈ rx_tbl := rx_ip 20 (by decide +kernel) (by decide +kernel)
theorem c9_Mo_findRepeats : rx_cl9 m_Mo_findRepeats 0 1 := ⟨by decide +kernel, ⟨by decide +kernel, by decide +kernel⟩, by decide +kernel, rx_in 934 (by decide +kernel) (by decide +kernel), rx_in 9 (by decide +kernel) (by decide +kernel), rfl, by decide, by decide⟩
theorem im_Mo_has : Cond.instanceMethod m_Mo_has.1 ∈ rx_tbl := rx_in 937 (by decide +kernel) (by decide +kernel)
theorem se_Mo_has : Cond.selects "ScoreRoadsModel" m_Mo_has.1 m_Mo_has.1 ∈ rx_tbl := rx_ip 21 (by decide +kernel) (by decide +kernel)
theorem c9_Mo_has : rx_cl9 m_Mo_has 2 3 := ⟨by decide +kernel, ⟨by decide +kernel, by decide +kernel⟩, by decide +kernel, rx_in 938 (by decide +kernel) (by decide +kernel), rx_in 9 (by decide +kernel) (by decide +kernel), rfl, by decide, by decide⟩
theorem im_Mo_signOf : Cond.instanceMethod m_Mo_signOf.1 ∈ rx_tbl := rx_in 941 (by decide +kernel) (by decide +kernel)
theorem se_Mo_signOf : Cond.selects "ScoreRoadsModel" m_Mo_signOf.1 m_Mo_signOf.1 ∈ rx_tbl := rx_ip 22 (by decide +kernel) (by decide +kernel)
theorem c9_Mo_signOf : rx_cl9 m_Mo_signOf 2 3 := ⟨by decide +kernel, ⟨by decide +kernel, by decide +kernel⟩, by decide +kernel, rx_in 942 (by decide +kernel) (by decide +kernel), rx_in 9 (by decide +kernel) (by decide +kernel), rfl, by decide, by decide⟩
theorem im_Mo_lastStart : Cond.instanceMethod m_Mo_lastStart.1 ∈ rx_tbl := rx_in 945 (by decide +kernel) (by decide +kernel)
theorem se_Mo_lastStart : Cond.selects "ScoreRoadsModel" m_Mo_lastStart.1 m_Mo_lastStart.1 ∈ rx_tbl := rx_ip 23 (by decide +kernel) (by decide +kernel)
theorem c9_Mo_lastStart : rx_cl9 m_Mo_lastStart 2 3 := ⟨by decide +kernel, ⟨by decide +kernel, by decide +kernel⟩, by decide +kernel, rx_in 946 (by decide +kernel) (by decide +kernel), rx_in 9 (by decide +kernel) (by decide +kernel), rfl, by decide, by decide⟩
theorem im_Mo_lowest : Cond.instanceMethod m_Mo_lowest.1 ∈ rx_tbl := rx_in 949 (by decide +kernel) (by decide +kernel)
theorem se_Mo_lowest : Cond.selects "ScoreRoadsModel" m_Mo_lowest.1 m_Mo_lowest.1 ∈ rx_tbl := rx_ip 24 (by decide +kernel) (by decide +kernel)
theorem c9_Mo_lowest : rx_cl9 m_Mo_lowest 1 2 := ⟨by decide +kernel, ⟨by decide +kernel, by decide +kernel⟩, by decide +kernel, rx_in 950 (by decide +kernel) (by decide +kernel), rx_in 9 (by decide +kernel) (by decide +kernel), rfl, by decide, by decide⟩
theorem st_Mo_in : Cond.static m_Mo_in.1 ∈ rx_tbl := rx_in 952 (by decide +kernel) (by decide +kernel)
theorem c9_Mo_in : rx_cl9 m_Mo_in 2 2 := ⟨by decide +kernel, ⟨by decide +kernel, by decide +kernel⟩, by decide +kernel, rx_in 953 (by decide +kernel) (by decide +kernel), rx_in 9 (by decide +kernel) (by decide +kernel), rfl, by decide, by decide⟩
theorem im_Mo_withEnding : Cond.instanceMethod m_Mo_withEnding.1 ∈ rx_tbl := rx_in 956 (by decide +kernel) (by decide +kernel)
theorem se_Mo_withEnding : Cond.selects "ScoreRoadsModel" m_Mo_withEnding.1 m_Mo_withEnding.1 ∈ rx_tbl := rx_ip 25 (by decide +kernel) (by decide +kernel)
theorem c9_Mo_withEnding : rx_cl9 m_Mo_withEnding 1 2 := ⟨by decide +kernel, ⟨by decide +kernel, by decide +kernel⟩, by decide +kernel, rx_in 957 (by decide +kernel) (by decide +kernel), rx_in 9 (by decide +kernel) (by decide +kernel), rfl, by decide, by decide⟩
theorem im_Mo_checkStart : Cond.instanceMethod m_Mo_checkStart.1 ∈ rx_tbl := rx_in 960 (by decide +kernel) (by decide +kernel)
theorem se_Mo_checkStart : Cond.selects "ScoreRoadsModel" m_Mo_checkStart.1 m_Mo_checkStart.1 ∈ rx_tbl := rx_ip 26 (by decide +kernel) (by decide +kernel)
theorem c9_Mo_checkStart : rx_cl9 m_Mo_checkStart 1 2 := ⟨by decide +kernel, ⟨by decide +kernel, by decide +kernel⟩, by decide +kernel, rx_in 961 (by decide +kernel) (by decide +kernel), rx_in 9 (by decide +kernel) (by decide +kernel), rfl, by decide, by decide⟩
theorem im_Mo_wrong : Cond.instanceMethod m_Mo_wrong.1 ∈ rx_tbl := rx_in 964 (by decide +kernel) (by decide +kernel)
theorem se_Mo_wrong : Cond.selects "ScoreRoadsModel" m_Mo_wrong.1 m_Mo_wrong.1 ∈ rx_tbl := rx_ip 27 (by decide +kernel) (by decide +kernel)
theorem c9_Mo_wrong : rx_cl9 m_Mo_wrong 3 4 := ⟨by decide +kernel, ⟨by decide +kernel, by decide +kernel⟩, by decide +kernel, rx_in 965 (by decide +kernel) (by decide +kernel), rx_in 9 (by decide +kernel) (by decide +kernel), rfl, by decide, by decide⟩
theorem im_Mo_checkEnding : Cond.instanceMethod m_Mo_checkEnding.1 ∈ rx_tbl := rx_in 968 (by decide +kernel) (by decide +kernel)
theorem se_Mo_checkEnding : Cond.selects "ScoreRoadsModel" m_Mo_checkEnding.1 m_Mo_checkEnding.1 ∈ rx_tbl := rx_ip 28 (by decide +kernel) (by decide +kernel)
theorem c9_Mo_checkEnding : rx_cl9 m_Mo_checkEnding 1 2 := ⟨by decide +kernel, ⟨by decide +kernel, by decide +kernel⟩, by decide +kernel, rx_in 969 (by decide +kernel) (by decide +kernel), rx_in 9 (by decide +kernel) (by decide +kernel), rfl, by decide, by decide⟩
theorem im_Mo_isThere : Cond.instanceMethod m_Mo_isThere.1 ∈ rx_tbl := rx_in 972 (by decide +kernel) (by decide +kernel)
theorem se_Mo_isThere : Cond.selects "ScoreRoadsModel" m_Mo_isThere.1 m_Mo_isThere.1 ∈ rx_tbl := rx_ip 29 (by decide +kernel) (by decide +kernel)
theorem c9_Mo_isThere : rx_cl9 m_Mo_isThere 3 4 := ⟨by decide +kernel, ⟨by decide +kernel, by decide +kernel⟩, by decide +kernel, rx_in 973 (by decide +kernel) (by decide +kernel), rx_in 9 (by decide +kernel) (by decide +kernel), rfl, by decide, by decide⟩
theorem im_Mo_checkJump : Cond.instanceMethod m_Mo_checkJump.1 ∈ rx_tbl := rx_in 976 (by decide +kernel) (by decide +kernel)
theorem se_Mo_checkJump : Cond.selects "ScoreRoadsModel" m_Mo_checkJump.1 m_Mo_checkJump.1 ∈ rx_tbl := rx_ip 30 (by decide +kernel) (by decide +kernel)
theorem c9_Mo_checkJump : rx_cl9 m_Mo_checkJump 1 2 := ⟨by decide +kernel, ⟨by decide +kernel, by decide +kernel⟩, by decide +kernel, rx_in 977 (by decide +kernel) (by decide +kernel), rx_in 9 (by decide +kernel) (by decide +kernel), rfl, by decide, by decide⟩
theorem im_Mo_firstOf : Cond.instanceMethod m_Mo_firstOf.1 ∈ rx_tbl := rx_in 980 (by decide +kernel) (by decide +kernel)
theorem se_Mo_firstOf : Cond.selects "ScoreRoadsModel" m_Mo_firstOf.1 m_Mo_firstOf.1 ∈ rx_tbl := rx_ip 31 (by decide +kernel) (by decide +kernel)
theorem c9_Mo_firstOf : rx_cl9 m_Mo_firstOf 1 2 := ⟨by decide +kernel, ⟨by decide +kernel, by decide +kernel⟩, by decide +kernel, rx_in 981 (by decide +kernel) (by decide +kernel), rx_in 9 (by decide +kernel) (by decide +kernel), rfl, by decide, by decide⟩
theorem im_Mo_checkRepeat : Cond.instanceMethod m_Mo_checkRepeat.1 ∈ rx_tbl := rx_in 984 (by decide +kernel) (by decide +kernel)
theorem se_Mo_checkRepeat : Cond.selects "ScoreRoadsModel" m_Mo_checkRepeat.1 m_Mo_checkRepeat.1 ∈ rx_tbl := rx_ip 32 (by decide +kernel) (by decide +kernel)
theorem c9_Mo_checkRepeat : rx_cl9 m_Mo_checkRepeat 1 2 := ⟨by decide +kernel, ⟨by decide +kernel, by decide +kernel⟩, by decide +kernel, rx_in 985 (by decide +kernel) (by decide +kernel), rx_in 9 (by decide +kernel) (by decide +kernel), rfl, by decide, by decide⟩
theorem im_Mo_highest : Cond.instanceMethod m_Mo_highest.1 ∈ rx_tbl := rx_in 988 (by decide +kernel) (by decide +kernel)
theorem se_Mo_highest : Cond.selects "ScoreRoadsModel" m_Mo_highest.1 m_Mo_highest.1 ∈ rx_tbl := rx_ip 33 (by decide +kernel) (by decide +kernel)
theorem c9_Mo_highest : rx_cl9 m_Mo_highest 1 2 := ⟨by decide +kernel, ⟨by decide +kernel, by decide +kernel⟩, by decide +kernel, rx_in 989 (by decide +kernel) (by decide +kernel), rx_in 9 (by decide +kernel) (by decide +kernel), rfl, by decide, by decide⟩
theorem im_Mo_plays : Cond.instanceMethod m_Mo_plays.1 ∈ rx_tbl := rx_in 991 (by decide +kernel) (by decide +kernel)
theorem se_Mo_plays : Cond.selects "ScoreRoadsModel" m_Mo_plays.1 m_Mo_plays.1 ∈ rx_tbl := rx_in 992 (by decide +kernel) (by decide +kernel)
theorem c9_Mo_plays : rx_cl9 m_Mo_plays 0 1 := ⟨by decide +kernel, ⟨by decide +kernel, by decide +kernel⟩, by decide +kernel, rx_in 993 (by decide +kernel) (by decide +kernel), rx_in 9 (by decide +kernel) (by decide +kernel), rfl, by decide, by decide⟩
theorem im_Mo_walk : Cond.instanceMethod m_Mo_walk.1 ∈ rx_tbl := rx_in 996 (by decide +kernel) (by decide +kernel)
theorem se_Mo_walk : Cond.selects "ScoreRoadsModel" m_Mo_walk.1 m_Mo_walk.1 ∈ rx_tbl := rx_ip 34 (by decide +kernel) (by decide +kernel)
theorem c9_Mo_walk : rx_cl9 m_Mo_walk 0 1 := ⟨by decide +kernel, ⟨by decide +kernel, by decide +kernel⟩, by decide +kernel, rx_in 997 (by decide +kernel) (by decide +kernel), rx_in 9 (by decide +kernel) (by decide +kernel), rfl, by decide, by decide⟩
theorem im_Mo_resetPasses : Cond.instanceMethod m_Mo_resetPasses.1 ∈ rx_tbl := rx_in 1000 (by decide +kernel) (by decide +kernel)
theorem se_Mo_resetPasses : Cond.selects "ScoreRoadsModel" m_Mo_resetPasses.1 m_Mo_resetPasses.1 ∈ rx_tbl := rx_ip 35 (by decide +kernel) (by decide +kernel)
theorem c9_Mo_resetPasses : rx_cl9 m_Mo_resetPasses 0 1 := ⟨by decide +kernel, ⟨by decide +kernel, by decide +kernel⟩, by decide +kernel, rx_in 1001 (by decide +kernel) (by decide +kernel), rx_in 9 (by decide +kernel) (by decide +kernel), rfl, by decide, by decide⟩
theorem im_Mo_come : Cond.instanceMethod m_Mo_come.1 ∈ rx_tbl := rx_in 1004 (by decide +kernel) (by decide +kernel)
theorem se_Mo_come : Cond.selects "ScoreRoadsModel" m_Mo_come.1 m_Mo_come.1 ∈ rx_tbl := rx_ip 36 (by decide +kernel) (by decide +kernel)
theorem c9_Mo_come : rx_cl9 m_Mo_come 1 2 := ⟨by decide +kernel, ⟨by decide +kernel, by decide +kernel⟩, by decide +kernel, rx_in 1005 (by decide +kernel) (by decide +kernel), rx_in 9 (by decide +kernel) (by decide +kernel), rfl, by decide, by decide⟩
theorem im_Mo_takes : Cond.instanceMethod m_Mo_takes.1 ∈ rx_tbl := rx_in 1008 (by decide +kernel) (by decide +kernel)
theorem se_Mo_takes : Cond.selects "ScoreRoadsModel" m_Mo_takes.1 m_Mo_takes.1 ∈ rx_tbl := rx_ip 37 (by decide +kernel) (by decide +kernel)
theorem c9_Mo_takes : rx_cl9 m_Mo_takes 0 1 := ⟨by decide +kernel, ⟨by decide +kernel, by decide +kernel⟩, by decide +kernel, rx_in 1009 (by decide +kernel) (by decide +kernel), rx_in 9 (by decide +kernel) (by decide +kernel), rfl, by decide, by decide⟩
theorem im_Mo_goOn : Cond.instanceMethod m_Mo_goOn.1 ∈ rx_tbl := rx_in 1012 (by decide +kernel) (by decide +kernel)
theorem se_Mo_goOn : Cond.selects "ScoreRoadsModel" m_Mo_goOn.1 m_Mo_goOn.1 ∈ rx_tbl := rx_ip 38 (by decide +kernel) (by decide +kernel)
theorem c9_Mo_goOn : rx_cl9 m_Mo_goOn 0 1 := ⟨by decide +kernel, ⟨by decide +kernel, by decide +kernel⟩, by decide +kernel, rx_in 1013 (by decide +kernel) (by decide +kernel), rx_in 9 (by decide +kernel) (by decide +kernel), rfl, by decide, by decide⟩
theorem im_Mo_withEnd : Cond.instanceMethod m_Mo_withEnd.1 ∈ rx_tbl := rx_in 1016 (by decide +kernel) (by decide +kernel)
theorem se_Mo_withEnd : Cond.selects "ScoreRoadsModel" m_Mo_withEnd.1 m_Mo_withEnd.1 ∈ rx_tbl := rx_ip 39 (by decide +kernel) (by decide +kernel)
theorem c9_Mo_withEnd : rx_cl9 m_Mo_withEnd 1 2 := ⟨by decide +kernel, ⟨by decide +kernel, by decide +kernel⟩, by decide +kernel, rx_in 1017 (by decide +kernel) (by decide +kernel), rx_in 9 (by decide +kernel) (by decide +kernel), rfl, by decide, by decide⟩
theorem im_Mo_how : Cond.instanceMethod m_Mo_how.1 ∈ rx_tbl := rx_in 1020 (by decide +kernel) (by decide +kernel)
theorem se_Mo_how : Cond.selects "ScoreRoadsModel" m_Mo_how.1 m_Mo_how.1 ∈ rx_tbl := rx_ip 40 (by decide +kernel) (by decide +kernel)
theorem c9_Mo_how : rx_cl9 m_Mo_how 0 1 := ⟨by decide +kernel, ⟨by decide +kernel, by decide +kernel⟩, by decide +kernel, rx_in 1021 (by decide +kernel) (by decide +kernel), rx_in 9 (by decide +kernel) (by decide +kernel), rfl, by decide, by decide⟩
theorem im_Mo_resetJumped : Cond.instanceMethod m_Mo_resetJumped.1 ∈ rx_tbl := rx_in 1024 (by decide +kernel) (by decide +kernel)
theorem se_Mo_resetJumped : Cond.selects "ScoreRoadsModel" m_Mo_resetJumped.1 m_Mo_resetJumped.1 ∈ rx_tbl := rx_ip 41 (by decide +kernel) (by decide +kernel)
theorem c9_Mo_resetJumped : rx_cl9 m_Mo_resetJumped 1 2 := ⟨by decide +kernel, ⟨by decide +kernel, by decide +kernel⟩, by decide +kernel, rx_in 1025 (by decide +kernel) (by decide +kernel), rx_in 9 (by decide +kernel) (by decide +kernel), rfl, by decide, by decide⟩
theorem im_Mo_played : Cond.instanceMethod m_Mo_played.1 ∈ rx_tbl := rx_in 1027 (by decide +kernel) (by decide +kernel)
theorem se_Mo_played : Cond.selects "ScoreRoadsModel" m_Mo_played.1 m_Mo_played.1 ∈ rx_tbl := rx_in 1028 (by decide +kernel) (by decide +kernel)
theorem c9_Mo_played : rx_cl9 m_Mo_played 1 2 := ⟨by decide +kernel, ⟨by decide +kernel, by decide +kernel⟩, by decide +kernel, rx_in 1029 (by decide +kernel) (by decide +kernel), rx_in 9 (by decide +kernel) (by decide +kernel), rfl, by decide, by decide⟩
theorem im_Mo_wrongBar : Cond.instanceMethod m_Mo_wrongBar.1 ∈ rx_tbl := rx_in 1032 (by decide +kernel) (by decide +kernel)
theorem se_Mo_wrongBar : Cond.selects "ScoreRoadsModel" m_Mo_wrongBar.1 m_Mo_wrongBar.1 ∈ rx_tbl := rx_ip 42 (by decide +kernel) (by decide +kernel)
theorem c9_Mo_wrongBar : rx_cl9 m_Mo_wrongBar 2 3 := ⟨by decide +kernel, ⟨by decide +kernel, by decide +kernel⟩, by decide +kernel, rx_in 1033 (by decide +kernel) (by decide +kernel), rx_in 9 (by decide +kernel) (by decide +kernel), rfl, by decide, by decide⟩
theorem im_Mo_time : Cond.instanceMethod m_Mo_time.1 ∈ rx_tbl := rx_in 1035 (by decide +kernel) (by decide +kernel)
theorem se_Mo_time : Cond.selects "ScoreRoadsModel" m_Mo_time.1 m_Mo_time.1 ∈ rx_tbl := rx_in 1036 (by decide +kernel) (by decide +kernel)
theorem c9_Mo_time : rx_cl9 m_Mo_time 1 2 := ⟨by decide +kernel, ⟨by decide +kernel, by decide +kernel⟩, by decide +kernel, rx_in 1037 (by decide +kernel) (by decide +kernel), rx_in 9 (by decide +kernel) (by decide +kernel), rfl, by decide, by decide⟩
theorem im_Mo_find : Cond.instanceMethod m_Mo_find.1 ∈ rx_tbl := rx_in 1039 (by decide +kernel) (by decide +kernel)
theorem se_Mo_find : Cond.selects "ScoreRoadsModel" m_Mo_find.1 m_Mo_find.1 ∈ rx_tbl := rx_in 1040 (by decide +kernel) (by decide +kernel)
theorem c9_Mo_find : rx_cl9 m_Mo_find 2 3 := ⟨by decide +kernel, ⟨by decide +kernel, by decide +kernel⟩, by decide +kernel, rx_in 1041 (by decide +kernel) (by decide +kernel), rx_in 9 (by decide +kernel) (by decide +kernel), rfl, by decide, by decide⟩
theorem im_Mo_tick : Cond.instanceMethod m_Mo_tick.1 ∈ rx_tbl := rx_in 1043 (by decide +kernel) (by decide +kernel)
theorem se_Mo_tick : Cond.selects "ScoreRoadsModel" m_Mo_tick.1 m_Mo_tick.1 ∈ rx_tbl := rx_in 1044 (by decide +kernel) (by decide +kernel)
theorem c9_Mo_tick : rx_cl9 m_Mo_tick 1 2 := ⟨by decide +kernel, ⟨by decide +kernel, by decide +kernel⟩, by decide +kernel, rx_in 1045 (by decide +kernel) (by decide +kernel), rx_in 9 (by decide +kernel) (by decide +kernel), rfl, by decide, by decide⟩
theorem im_Mo_ticksBefore : Cond.instanceMethod m_Mo_ticksBefore.1 ∈ rx_tbl := rx_in 1048 (by decide +kernel) (by decide +kernel)
theorem se_Mo_ticksBefore : Cond.selects "ScoreRoadsModel" m_Mo_ticksBefore.1 m_Mo_ticksBefore.1 ∈ rx_tbl := rx_ip 43 (by decide +kernel) (by decide +kernel)
theorem c9_Mo_ticksBefore : rx_cl9 m_Mo_ticksBefore 1 2 := ⟨by decide +kernel, ⟨by decide +kernel, by decide +kernel⟩, by decide +kernel, rx_in 1049 (by decide +kernel) (by decide +kernel), rx_in 9 (by decide +kernel) (by decide +kernel), rfl, by decide, by decide⟩
theorem im_Mo_at : Cond.instanceMethod m_Mo_at.1 ∈ rx_tbl := rx_in 1051 (by decide +kernel) (by decide +kernel)
theorem se_Mo_at : Cond.selects "ScoreRoadsModel" m_Mo_at.1 m_Mo_at.1 ∈ rx_tbl := rx_in 1052 (by decide +kernel) (by decide +kernel)
theorem c9_Mo_at : rx_cl9 m_Mo_at 1 3 := ⟨by decide +kernel, ⟨by decide +kernel, by decide +kernel⟩, by decide +kernel, rx_in 1053 (by decide +kernel) (by decide +kernel), rx_in 9 (by decide +kernel) (by decide +kernel), rfl, by decide, by decide⟩
theorem im_Mo_sounds : Cond.instanceMethod m_Mo_sounds.1 ∈ rx_tbl := rx_in 1055 (by decide +kernel) (by decide +kernel)
theorem se_Mo_sounds : Cond.selects "ScoreRoadsModel" m_Mo_sounds.1 m_Mo_sounds.1 ∈ rx_tbl := rx_in 1056 (by decide +kernel) (by decide +kernel)
theorem c9_Mo_sounds : rx_cl9 m_Mo_sounds 1 2 := ⟨by decide +kernel, ⟨by decide +kernel, by decide +kernel⟩, by decide +kernel, rx_in 1057 (by decide +kernel) (by decide +kernel), rx_in 9 (by decide +kernel) (by decide +kernel), rfl, by decide, by decide⟩
theorem im_Mo_wrongPart : Cond.instanceMethod m_Mo_wrongPart.1 ∈ rx_tbl := rx_in 1060 (by decide +kernel) (by decide +kernel)
theorem se_Mo_wrongPart : Cond.selects "ScoreRoadsModel" m_Mo_wrongPart.1 m_Mo_wrongPart.1 ∈ rx_tbl := rx_ip 44 (by decide +kernel) (by decide +kernel)
theorem c9_Mo_wrongPart : rx_cl9 m_Mo_wrongPart 1 2 := ⟨by decide +kernel, ⟨by decide +kernel, by decide +kernel⟩, by decide +kernel, rx_in 1061 (by decide +kernel) (by decide +kernel), rx_in 9 (by decide +kernel) (by decide +kernel), rfl, by decide, by decide⟩
theorem im_Mo_seek : Cond.instanceMethod m_Mo_seek.1 ∈ rx_tbl := rx_in 1064 (by decide +kernel) (by decide +kernel)
theorem se_Mo_seek : Cond.selects "ScoreRoadsModel" m_Mo_seek.1 m_Mo_seek.1 ∈ rx_tbl := rx_ip 45 (by decide +kernel) (by decide +kernel)
theorem c9_Mo_seek : rx_cl9 m_Mo_seek 2 3 := ⟨by decide +kernel, ⟨by decide +kernel, by decide +kernel⟩, by decide +kernel, rx_in 1065 (by decide +kernel) (by decide +kernel), rx_in 9 (by decide +kernel) (by decide +kernel), rfl, by decide, by decide⟩
theorem im_Mo_nextNote : Cond.instanceMethod m_Mo_nextNote.1 ∈ rx_tbl := rx_in 1068 (by decide +kernel) (by decide +kernel)
theorem se_Mo_nextNote : Cond.selects "ScoreRoadsModel" m_Mo_nextNote.1 m_Mo_nextNote.1 ∈ rx_tbl := rx_ip 46 (by decide +kernel) (by decide +kernel)
theorem c9_Mo_nextNote : rx_cl9 m_Mo_nextNote 3 4 := ⟨by decide +kernel, ⟨by decide +kernel, by decide +kernel⟩, by decide +kernel, rx_in 1069 (by decide +kernel) (by decide +kernel), rx_in 9 (by decide +kernel) (by decide +kernel), rfl, by decide, by decide⟩
theorem im_Mo_goesOn : Cond.instanceMethod m_Mo_goesOn.1 ∈ rx_tbl := rx_in 1072 (by decide +kernel) (by decide +kernel)
theorem se_Mo_goesOn : Cond.selects "ScoreRoadsModel" m_Mo_goesOn.1 m_Mo_goesOn.1 ∈ rx_tbl := rx_ip 47 (by decide +kernel) (by decide +kernel)
theorem c9_Mo_goesOn : rx_cl9 m_Mo_goesOn 2 3 := ⟨by decide +kernel, ⟨by decide +kernel, by decide +kernel⟩, by decide +kernel, rx_in 1073 (by decide +kernel) (by decide +kernel), rx_in 9 (by decide +kernel) (by decide +kernel), rfl, by decide, by decide⟩
theorem im_Mo_reaches : Cond.instanceMethod m_Mo_reaches.1 ∈ rx_tbl := rx_in 1076 (by decide +kernel) (by decide +kernel)
theorem se_Mo_reaches : Cond.selects "ScoreRoadsModel" m_Mo_reaches.1 m_Mo_reaches.1 ∈ rx_tbl := rx_ip 48 (by decide +kernel) (by decide +kernel)
theorem c9_Mo_reaches : rx_cl9 m_Mo_reaches 1 2 := ⟨by decide +kernel, ⟨by decide +kernel, by decide +kernel⟩, by decide +kernel, rx_in 1077 (by decide +kernel) (by decide +kernel), rx_in 9 (by decide +kernel) (by decide +kernel), rfl, by decide, by decide⟩
theorem im_Mo_follow : Cond.instanceMethod m_Mo_follow.1 ∈ rx_tbl := rx_in 1080 (by decide +kernel) (by decide +kernel)
theorem se_Mo_follow : Cond.selects "ScoreRoadsModel" m_Mo_follow.1 m_Mo_follow.1 ∈ rx_tbl := rx_ip 49 (by decide +kernel) (by decide +kernel)
theorem c9_Mo_follow : rx_cl9 m_Mo_follow 2 3 := ⟨by decide +kernel, ⟨by decide +kernel, by decide +kernel⟩, by decide +kernel, rx_in 1081 (by decide +kernel) (by decide +kernel), rx_in 9 (by decide +kernel) (by decide +kernel), rfl, by decide, by decide⟩
theorem im_Mo_opening : Cond.instanceMethod m_Mo_opening.1 ∈ rx_tbl := rx_in 1084 (by decide +kernel) (by decide +kernel)
theorem se_Mo_opening : Cond.selects "ScoreRoadsModel" m_Mo_opening.1 m_Mo_opening.1 ∈ rx_tbl := rx_ip 50 (by decide +kernel) (by decide +kernel)
theorem c9_Mo_opening : rx_cl9 m_Mo_opening 3 4 := ⟨by decide +kernel, ⟨by decide +kernel, by decide +kernel⟩, by decide +kernel, rx_in 1085 (by decide +kernel) (by decide +kernel), rx_in 9 (by decide +kernel) (by decide +kernel), rfl, by decide, by decide⟩
theorem im_Mo_sound : Cond.instanceMethod m_Mo_sound.1 ∈ rx_tbl := rx_in 1087 (by decide +kernel) (by decide +kernel)
theorem se_Mo_sound : Cond.selects "ScoreRoadsModel" m_Mo_sound.1 m_Mo_sound.1 ∈ rx_tbl := rx_in 1088 (by decide +kernel) (by decide +kernel)
theorem c9_Mo_sound : rx_cl9 m_Mo_sound 3 4 := ⟨by decide +kernel, ⟨by decide +kernel, by decide +kernel⟩, by decide +kernel, rx_in 1089 (by decide +kernel) (by decide +kernel), rx_in 9 (by decide +kernel) (by decide +kernel), rfl, by decide, by decide⟩
theorem im_Mo_rest : Cond.instanceMethod m_Mo_rest.1 ∈ rx_tbl := rx_in 1092 (by decide +kernel) (by decide +kernel)
theorem se_Mo_rest : Cond.selects "ScoreRoadsModel" m_Mo_rest.1 m_Mo_rest.1 ∈ rx_tbl := rx_in 1093 (by decide +kernel) (by decide +kernel)
theorem c9_Mo_rest : rx_cl9 m_Mo_rest 2 3 := ⟨by decide +kernel, ⟨by decide +kernel, by decide +kernel⟩, by decide +kernel, rx_in 1094 (by decide +kernel) (by decide +kernel), rx_in 9 (by decide +kernel) (by decide +kernel), rfl, by decide, by decide⟩
theorem im_Mo_isRest : Cond.instanceMethod m_Mo_isRest.1 ∈ rx_tbl := rx_in 1097 (by decide +kernel) (by decide +kernel)
theorem se_Mo_isRest : Cond.selects "ScoreRoadsModel" m_Mo_isRest.1 m_Mo_isRest.1 ∈ rx_tbl := rx_ip 51 (by decide +kernel) (by decide +kernel)
theorem c9_Mo_isRest : rx_cl9 m_Mo_isRest 2 3 := ⟨by decide +kernel, ⟨by decide +kernel, by decide +kernel⟩, by decide +kernel, rx_in 1098 (by decide +kernel) (by decide +kernel), rx_in 9 (by decide +kernel) (by decide +kernel), rfl, by decide, by decide⟩
theorem im_Mo_joins : Cond.instanceMethod m_Mo_joins.1 ∈ rx_tbl := rx_in 1101 (by decide +kernel) (by decide +kernel)
theorem se_Mo_joins : Cond.selects "ScoreRoadsModel" m_Mo_joins.1 m_Mo_joins.1 ∈ rx_tbl := rx_ip 52 (by decide +kernel) (by decide +kernel)
theorem c9_Mo_joins : rx_cl9 m_Mo_joins 2 3 := ⟨by decide +kernel, ⟨by decide +kernel, by decide +kernel⟩, by decide +kernel, rx_in 1102 (by decide +kernel) (by decide +kernel), rx_in 9 (by decide +kernel) (by decide +kernel), rfl, by decide, by decide⟩
theorem w_obj2 : Cond.instanceMethod Lib.objectInit ∈ rx_tbl := rx_in 26 (by decide +kernel) (by decide +kernel)
theorem w_obj3 : Cond.code Lib.objectInit ⟨#[0xb1]⟩ 1 none ∈ rx_tbl := rx_in 27 (by decide +kernel) (by decide +kernel)
theorem w_obj_SR : Cond.methodLink "ScoreRoads" 1 Lib.objectInit ∈ rx_tbl := rx_in 25 (by decide +kernel) (by decide +kernel)
theorem w_obj_Note : Cond.methodLink "ScoreRoads$Note" 1 Lib.objectInit ∈ rx_tbl := rx_in 547 (by decide +kernel) (by decide +kernel)
theorem w_obj_Notes : Cond.methodLink "ScoreRoads$Notes" 3 Lib.objectInit ∈ rx_tbl := rx_in 59 (by decide +kernel) (by decide +kernel)
theorem w_obj_Page : Cond.methodLink "ScoreRoads$Page" 3 Lib.objectInit ∈ rx_tbl := rx_in 33 (by decide +kernel) (by decide +kernel)
theorem w_obj_Repeat : Cond.methodLink "ScoreRoads$Repeat" 3 Lib.objectInit ∈ rx_tbl := rx_in 83 (by decide +kernel) (by decide +kernel)
theorem w_obj_Repeats : Cond.methodLink "ScoreRoads$Repeats" 3 Lib.objectInit ∈ rx_tbl := rx_in 76 (by decide +kernel) (by decide +kernel)
theorem w_obj_Road : Cond.methodLink "ScoreRoads$Road" 3 Lib.objectInit ∈ rx_tbl := rx_in 136 (by decide +kernel) (by decide +kernel)
theorem w_obj_Sounding : Cond.methodLink "ScoreRoads$Sounding" 3 Lib.objectInit ∈ rx_tbl := rx_in 163 (by decide +kernel) (by decide +kernel)
theorem w_obj_Mo : Cond.methodLink "ScoreRoadsModel" 1 Lib.objectInit ∈ rx_tbl := rx_in 794 (by decide +kernel) (by decide +kernel)
theorem w_obj_Throwable : Cond.methodLink "java/lang/Throwable" 1 Lib.objectInit ∈ rx_tbl := rx_in 411 (by decide +kernel) (by decide +kernel)
theorem ck_SR_9 : Cond.classLink "ScoreRoads" 9 "ScoreRoads$Page" ∈ rx_tbl := rx_in 28 (by decide +kernel) (by decide +kernel)
theorem ck_SR_18 : Cond.classLink "ScoreRoads" 18 "ScoreRoads$Notes" ∈ rx_tbl := rx_in 54 (by decide +kernel) (by decide +kernel)
theorem ck_SR_25 : Cond.classLink "ScoreRoads" 25 "ScoreRoads$Repeats" ∈ rx_tbl := rx_in 71 (by decide +kernel) (by decide +kernel)
theorem ck_SR_32 : Cond.classLink "ScoreRoads" 32 "ScoreRoads$Road" ∈ rx_tbl := rx_in 131 (by decide +kernel) (by decide +kernel)
theorem ck_SR_39 : Cond.classLink "ScoreRoads" 39 "ScoreRoads$Sounding" ∈ rx_tbl := rx_in 158 (by decide +kernel) (by decide +kernel)
theorem ck_SR_54 : Cond.classLink "ScoreRoads" 54 "java/lang/IllegalArgumentException" ∈ rx_tbl := rx_in 386 (by decide +kernel) (by decide +kernel)
theorem ck_SR_65 : Cond.classLink "ScoreRoads" 65 "java/lang/IllegalStateException" ∈ rx_tbl := rx_in 463 (by decide +kernel) (by decide +kernel)
theorem ck_SR_119 : Cond.classLink "ScoreRoads" 119 "ScoreRoads$Note" ∈ rx_tbl := rx_in 542 (by decide +kernel) (by decide +kernel)
theorem ck_SR_221 : Cond.classLink "ScoreRoads" 221 "java/lang/IndexOutOfBoundsException" ∈ rx_tbl := rx_in 617 (by decide +kernel) (by decide +kernel)
theorem ck_Notes_9 : Cond.classLink "ScoreRoads$Notes" 9 "ScoreRoads$Note" ∈ rx_tbl := rx_in 60 (by decide +kernel) (by decide +kernel)
theorem ck_Repeats_9 : Cond.classLink "ScoreRoads$Repeats" 9 "ScoreRoads$Repeat" ∈ rx_tbl := rx_in 77 (by decide +kernel) (by decide +kernel)
theorem ck_Sounding_9 : Cond.classLink "ScoreRoads$Sounding" 9 "ScoreRoads$Note" ∈ rx_tbl := rx_in 164 (by decide +kernel) (by decide +kernel)
theorem ck_La_8 : Cond.classLink "ScoreRoadsLaw" 8 "ScoreRoads" ∈ rx_tbl := rx_in 20 (by decide +kernel) (by decide +kernel)
theorem ck_La_13 : Cond.classLink "ScoreRoadsLaw" 13 "java/lang/IllegalArgumentException" ∈ rx_tbl := rx_in 376 (by decide +kernel) (by decide +kernel)
theorem ck_La_15 : Cond.classLink "ScoreRoadsLaw" 15 "java/lang/IllegalStateException" ∈ rx_tbl := rx_in 377 (by decide +kernel) (by decide +kernel)
theorem ck_La_33 : Cond.classLink "ScoreRoadsLaw" 33 "java/lang/IndexOutOfBoundsException" ∈ rx_tbl := rx_in 604 (by decide +kernel) (by decide +kernel)
theorem ck_La_68 : Cond.classLink "ScoreRoadsLaw" 68 "ScoreRoadsModel" ∈ rx_tbl := rx_in 789 (by decide +kernel) (by decide +kernel)
theorem kl_SR_176 : Cond.constantLong "ScoreRoads" 176 (-1) ∈ rx_tbl := rx_in 730 (by decide +kernel) (by decide +kernel)
theorem kl_Notes_59 : Cond.constantLong "ScoreRoads$Notes" 59 127 ∈ rx_tbl := rx_in 595 (by decide +kernel) (by decide +kernel)
theorem kl_Sounding_61 : Cond.constantLong "ScoreRoads$Sounding" 61 (-1) ∈ rx_tbl := rx_in 740 (by decide +kernel) (by decide +kernel)
theorem kl_La_116 : Cond.constantLong "ScoreRoadsLaw" 116 4294967295 ∈ rx_tbl := rx_in 1103 (by decide +kernel) (by decide +kernel)
theorem kl_Mo_88 : Cond.constantLong "ScoreRoadsModel" 88 127 ∈ rx_tbl := rx_in 922 (by decide +kernel) (by decide +kernel)
theorem kl_Mo_226 : Cond.constantLong "ScoreRoadsModel" 226 (-1) ∈ rx_tbl := rx_in 1090 (by decide +kernel) (by decide +kernel)
end
section
/-! Math.max, Math.min; reading behind a writing -/
section RXM
variable {V : rx_V} {d kc ks : Nat} {M : rx_T} {pc : Nat} {L : rx_L} {S : List Value} {h : List va_E} {Q : rx_R → List va_E → Prop} {index : Nat} {x y : Int32}
theorem rx_max (hd : decode M.2.1 pc = .ok (.invokestatic index, 3)) (w1 : Cond.methodLink M.1.cls index m_JM_max.1 ∈ rx_tbl) (hw8 : (S.map fun v => v.category).sum ≤ 8)
    (kk : rx_W V (d + 1) kc ks M (pc + 3) L (.int (if x < y then y else x) :: S) h Q) : rx_W V (d + 1) kc ks M pc L (.int y :: .int x :: S) h Q := by
  intro p e R s m args below meth c H locs cells slots ls F G hl
  have hts := F.2.2.2.2.2.2.1
  have hd1 := F.2.2.2.2.2.2.2.2.1
  have hd2 := F.2.2.2.2.2.2.2.2.2.1
  obtain ⟨-, -, -, -, -, -, g7, g8⟩ := id G
  exact va_mmax F.1 F.2.1 (by rw [F.2.2.1]; exact hl.1.symm) F.2.2.2.2.2.1 (hts _ w1) (hts _ st_JM_max) (hts _ (rx_in 14 (by decide +kernel) (by decide +kernel))) (hts _ (rx_in 243 (by decide +kernel) (by decide +kernel))) (by omega) (by omega) (by omega) (by omega) hd (kk p e R s m args below meth c H locs cells slots ls F G hl)
theorem rx_min (hd : decode M.2.1 pc = .ok (.invokestatic index, 3)) (w1 : Cond.methodLink M.1.cls index m_JM_min.1 ∈ rx_tbl) (hw8 : (S.map fun v => v.category).sum ≤ 8)
    (kk : rx_W V (d + 1) kc ks M (pc + 3) L (.int (if y < x then y else x) :: S) h Q) : rx_W V (d + 1) kc ks M pc L (.int y :: .int x :: S) h Q := by
  intro p e R s m args below meth c H locs cells slots ls F G hl
  have hts := F.2.2.2.2.2.2.1
  have hd1 := F.2.2.2.2.2.2.2.2.1
  have hd2 := F.2.2.2.2.2.2.2.2.2.1
  obtain ⟨-, -, -, -, -, -, g7, g8⟩ := id G
  exact va_mmin F.1 F.2.1 (by rw [F.2.2.1]; exact hl.1.symm) F.2.2.2.2.2.1 (hts _ w1) (hts _ st_JM_min) (hts _ (rx_in 14 (by decide +kernel) (by decide +kernel))) (hts _ (rx_in 240 (by decide +kernel) (by decide +kernel))) (by omega) (by omega) (by omega) (by omega) hd (kk p e R s m args below meth c H locs cells slots ls F G hl)
end RXM
theorem rx_rd_lt {V : rx_V} {h : List va_E} {a : Nat} {e : va_E} (he : rx_rd V h a = some e) : V.2.1 ≤ a ∧ a - V.2.1 < h.length := by
  obtain ⟨q, rfl, hq, hqe⟩ := rx_rd_at he
  exact ⟨Nat.le_add_right _ _, by rw [hqe]; exact (List.getElem?_eq_some_iff.mp hq).1⟩
theorem rx_rd_wr {V : rx_V} {h : List va_E} {a : Nat} {e0 e : va_E} (he : rx_rd V h a = some e0) : rx_rd V (rx_wr V h a e) a = some e := by
  obtain ⟨q, rfl, hq, -⟩ := rx_rd_at he
  rw [rx_wr_in, rx_rd_in, List.getElem?_set, if_pos rfl, if_pos (List.getElem?_eq_some_iff.mp hq).1]
theorem rx_rd_wn {V : rx_V} {h : List va_E} {a b : Nat} {e0 e : va_E} (he : rx_rd V h a = some e0) (hab : b ≠ a) : rx_rd V (rx_wr V h a e) b = rx_rd V h b := by
  obtain ⟨q, rfl, hq, -⟩ := rx_rd_at he
  unfold rx_rd
  by_cases hz : V.2.1 ≤ b
  · rw [if_pos hz, if_pos hz, rx_wr_in, List.getElem?_set, if_neg (by omega)]
  · rw [if_neg hz, if_neg hz]
theorem rx_wr_wr {V : rx_V} {h : List va_E} {a : Nat} {e e2 : va_E} : rx_wr V (rx_wr V h a e) a e2 = rx_wr V h a e2 := by
  unfold rx_wr
  exact List.set_set _
theorem rx_wr_len {V : rx_V} {h : List va_E} {a : Nat} {e : va_E} : (rx_wr V h a e).length = h.length := List.length_set
theorem rx_wr_id {V : rx_V} {h : List va_E} {a : Nat} {e : va_E} (he : rx_rd V h a = some e) : rx_wr V h a e = h := by
  obtain ⟨q, rfl, hq, -⟩ := rx_rd_at he
  rw [rx_wr_in]
  apply List.ext_getElem?
  intro i
  rw [List.getElem?_set]
  by_cases hi : q = i
  · subst hi
    rw [if_pos rfl, if_pos (List.getElem?_eq_some_iff.mp hq).1, hq]
  · rw [if_neg hi]
theorem rx_rd_ap {V : rx_V} {h : List va_E} {a : Nat} {e : va_E} {t : List va_E} (he : rx_rd V h a = some e) : rx_rd V (h ++ t) a = some e := by
  obtain ⟨q, rfl, hq, -⟩ := rx_rd_at he
  rw [rx_rd_in, List.getElem?_append_left (List.getElem?_eq_some_iff.mp hq).1]
  exact hq
theorem rx_wr_ap {V : rx_V} {h : List va_E} {a : Nat} {e0 e : va_E} {t : List va_E} (he : rx_rd V h a = some e0) : rx_wr V (h ++ t) a e = rx_wr V h a e ++ t := by
  obtain ⟨q, rfl, hq, -⟩ := rx_rd_at he
  rw [rx_wr_in, rx_wr_in, List.set_append_left _ _ (List.getElem?_eq_some_iff.mp hq).1]
/-! calls that make nothing, exact ends -/
section RXZ
variable {V : rx_V} {d kc ks : Nat} {M y : rx_T} {pc : Nat} {L : rx_L} {S Sr As : List Value} {h h0 : List va_E} {Q : rx_R → List va_E → Prop} {index : Nat} {v0 : Option Value}
theorem rx_cV {b ci : Nat} {fs : List Value} {r : vw_C} (hd : decode M.2.1 pc = .ok (.invokevirtual index, 3)) (hc : rx_cl[ci]? = some r) (w1 : Cond.methodLink M.1.cls index y.1 ∈ rx_tbl) (w2 : Cond.instanceMethod y.1 ∈ rx_tbl) (w3 : Cond.selects r.1 y.1 y.1 ∈ rx_tbl) (hcl : rx_cl9 y As.length (lg_sl (.ref b :: As)).length)
    (he : rx_rd V h b = some (.inr (ci, fs))) (hS : S = As.reverse ++ .ref b :: Sr) (hw8 : (Sr.map fun v => v.category).sum ≤ 8) (K : rx_C V d 0 0 y (.ref b :: As) h (rx_X (.inl v0) h0)) (k : rx_W V (d + 1) kc ks M (pc + 3) L (v0.toList ++ Sr) h0 Q) : rx_W V (d + 1) kc ks M pc L S h Q := by
  have z := rx_callV1 hd hc w1 w2 w3 hcl he hS hw8 K k
  rw [Nat.zero_add, Nat.zero_add] at z
  exact z
theorem rx_cS (hd : decode M.2.1 pc = .ok (.invokestatic index, 3)) (w1 : Cond.methodLink M.1.cls index y.1 ∈ rx_tbl) (w2 : Cond.static y.1 ∈ rx_tbl) (hcl : rx_cl9 y As.length (lg_sl As).length)
    (hS : S = As.reverse ++ Sr) (hw8 : (Sr.map fun v => v.category).sum ≤ 8) (K : rx_C V d 0 0 y As h (rx_X (.inl v0) h0)) (k : rx_W V (d + 1) kc ks M (pc + 3) L (v0.toList ++ Sr) h0 Q) : rx_W V (d + 1) kc ks M pc L S h Q := by
  have z := rx_callS1 hd w1 w2 hcl hS hw8 K k
  rw [Nat.zero_add, Nat.zero_add] at z
  exact z
theorem rx_cSN {host : String} (hd : decode M.2.1 pc = .ok (.invokestatic index, 3)) (w1 : Cond.methodLinkNest M.1.cls index y.1 host ∈ rx_tbl) (w2 : Cond.static y.1 ∈ rx_tbl) (hcl : rx_cl9 y As.length (lg_sl As).length)
    (hS : S = As.reverse ++ Sr) (hw8 : (Sr.map fun v => v.category).sum ≤ 8) (K : rx_C V d 0 0 y As h (rx_X (.inl v0) h0)) (k : rx_W V (d + 1) kc ks M (pc + 3) L (v0.toList ++ Sr) h0 Q) : rx_W V (d + 1) kc ks M pc L S h Q := by
  have z := rx_callSN1 hd w1 w2 hcl hS hw8 K k
  rw [Nat.zero_add, Nat.zero_add] at z
  exact z
end RXZ
end
section
/-! decode rows, by program (wip/lay.py) -/
theorem d_SR_init_0 : decode prog_1_method_1_code 0 = .ok (.aload_n 0, 1) := by decide +kernel
theorem d_SR_init_1 : decode prog_1_method_1_code 1 = .ok (.invokespecial 1, 3) := by decide +kernel
theorem d_SR_init_4 : decode prog_1_method_1_code 4 = .ok (.iload_n 1, 1) := by decide +kernel
theorem d_SR_init_5 : decode prog_1_method_1_code 5 = .ok (.iconst 1, 1) := by decide +kernel
theorem d_SR_init_6 : decode prog_1_method_1_code 6 = .ok (.if_icmp .lt 13, 3) := by decide +kernel
theorem d_SR_init_9 : decode prog_1_method_1_code 9 = .ok (.iload_n 1, 1) := by decide +kernel
theorem d_SR_init_10 : decode prog_1_method_1_code 10 = .ok (.bipush 20, 2) := by decide +kernel
theorem d_SR_init_12 : decode prog_1_method_1_code 12 = .ok (.if_icmp .gt 7, 3) := by decide +kernel
theorem d_SR_init_15 : decode prog_1_method_1_code 15 = .ok (.iload_n 1, 1) := by decide +kernel
theorem d_SR_init_16 : decode prog_1_method_1_code 16 = .ok (.goto 5, 3) := by decide +kernel
theorem d_SR_init_19 : decode prog_1_method_1_code 19 = .ok (.bipush 12, 2) := by decide +kernel
theorem d_SR_init_21 : decode prog_1_method_1_code 21 = .ok (.istore_n 2, 1) := by decide +kernel
theorem d_SR_init_22 : decode prog_1_method_1_code 22 = .ok (.aload_n 0, 1) := by decide +kernel
theorem d_SR_init_23 : decode prog_1_method_1_code 23 = .ok (.new 9, 3) := by decide +kernel
theorem d_SR_init_26 : decode prog_1_method_1_code 26 = .ok (.dup, 1) := by decide +kernel
theorem d_SR_init_27 : decode prog_1_method_1_code 27 = .ok (.iload_n 2, 1) := by decide +kernel
theorem d_SR_init_28 : decode prog_1_method_1_code 28 = .ok (.invokespecial 11, 3) := by decide +kernel
theorem d_SR_init_31 : decode prog_1_method_1_code 31 = .ok (.putfield 14, 3) := by decide +kernel
theorem d_SR_init_34 : decode prog_1_method_1_code 34 = .ok (.aload_n 0, 1) := by decide +kernel
theorem d_SR_init_35 : decode prog_1_method_1_code 35 = .ok (.new 18, 3) := by decide +kernel
theorem d_SR_init_38 : decode prog_1_method_1_code 38 = .ok (.dup, 1) := by decide +kernel
theorem d_SR_init_39 : decode prog_1_method_1_code 39 = .ok (.invokespecial 20, 3) := by decide +kernel
theorem d_SR_init_42 : decode prog_1_method_1_code 42 = .ok (.putfield 21, 3) := by decide +kernel
theorem d_SR_init_45 : decode prog_1_method_1_code 45 = .ok (.aload_n 0, 1) := by decide +kernel
theorem d_SR_init_46 : decode prog_1_method_1_code 46 = .ok (.new 25, 3) := by decide +kernel
theorem d_SR_init_49 : decode prog_1_method_1_code 49 = .ok (.dup, 1) := by decide +kernel
theorem d_SR_init_50 : decode prog_1_method_1_code 50 = .ok (.iload_n 2, 1) := by decide +kernel
theorem d_SR_init_51 : decode prog_1_method_1_code 51 = .ok (.invokespecial 27, 3) := by decide +kernel
theorem d_SR_init_54 : decode prog_1_method_1_code 54 = .ok (.putfield 28, 3) := by decide +kernel
theorem d_SR_init_57 : decode prog_1_method_1_code 57 = .ok (.aload_n 0, 1) := by decide +kernel
theorem d_SR_init_58 : decode prog_1_method_1_code 58 = .ok (.new 32, 3) := by decide +kernel
theorem d_SR_init_61 : decode prog_1_method_1_code 61 = .ok (.dup, 1) := by decide +kernel
theorem d_SR_init_62 : decode prog_1_method_1_code 62 = .ok (.iload_n 2, 1) := by decide +kernel
theorem d_SR_init_63 : decode prog_1_method_1_code 63 = .ok (.invokespecial 34, 3) := by decide +kernel
theorem d_SR_init_66 : decode prog_1_method_1_code 66 = .ok (.putfield 35, 3) := by decide +kernel
theorem d_SR_init_69 : decode prog_1_method_1_code 69 = .ok (.aload_n 0, 1) := by decide +kernel
theorem d_SR_init_70 : decode prog_1_method_1_code 70 = .ok (.new 39, 3) := by decide +kernel
theorem d_SR_init_73 : decode prog_1_method_1_code 73 = .ok (.dup, 1) := by decide +kernel
theorem d_SR_init_74 : decode prog_1_method_1_code 74 = .ok (.invokespecial 41, 3) := by decide +kernel
theorem d_SR_init_77 : decode prog_1_method_1_code 77 = .ok (.putfield 42, 3) := by decide +kernel
theorem d_SR_init_80 : decode prog_1_method_1_code 80 = .ok (.return_, 1) := by decide +kernel
theorem d_JA_fill_0 : decode prog_21_method_103_code 0 = .ok (.iconst 0, 1) := by decide +kernel
theorem d_JA_fill_1 : decode prog_21_method_103_code 1 = .ok (.istore_n 2, 1) := by decide +kernel
theorem d_JA_fill_2 : decode prog_21_method_103_code 2 = .ok (.aload_n 0, 1) := by decide +kernel
theorem d_JA_fill_3 : decode prog_21_method_103_code 3 = .ok (.arraylength, 1) := by decide +kernel
theorem d_JA_fill_4 : decode prog_21_method_103_code 4 = .ok (.istore_n 3, 1) := by decide +kernel
theorem d_JA_fill_5 : decode prog_21_method_103_code 5 = .ok (.iload_n 2, 1) := by decide +kernel
theorem d_JA_fill_6 : decode prog_21_method_103_code 6 = .ok (.iload_n 3, 1) := by decide +kernel
theorem d_JA_fill_7 : decode prog_21_method_103_code 7 = .ok (.if_icmp .ge 13, 3) := by decide +kernel
theorem d_JA_fill_10 : decode prog_21_method_103_code 10 = .ok (.aload_n 0, 1) := by decide +kernel
theorem d_JA_fill_11 : decode prog_21_method_103_code 11 = .ok (.iload_n 2, 1) := by decide +kernel
theorem d_JA_fill_12 : decode prog_21_method_103_code 12 = .ok (.iload_n 1, 1) := by decide +kernel
theorem d_JA_fill_13 : decode prog_21_method_103_code 13 = .ok (.iastore, 1) := by decide +kernel
theorem d_JA_fill_14 : decode prog_21_method_103_code 14 = .ok (.iinc 2 1, 3) := by decide +kernel
theorem d_JA_fill_17 : decode prog_21_method_103_code 17 = .ok (.goto (-12), 3) := by decide +kernel
theorem d_JA_fill_20 : decode prog_21_method_103_code 20 = .ok (.return_, 1) := by decide +kernel
theorem d_Notes_init_0 : decode prog_5_method_1_code 0 = .ok (.aload_n 0, 1) := by decide +kernel
theorem d_Notes_init_1 : decode prog_5_method_1_code 1 = .ok (.invokespecial 3, 3) := by decide +kernel
theorem d_Notes_init_4 : decode prog_5_method_1_code 4 = .ok (.aload_n 0, 1) := by decide +kernel
theorem d_Notes_init_5 : decode prog_5_method_1_code 5 = .ok (.bipush 40, 2) := by decide +kernel
theorem d_Notes_init_7 : decode prog_5_method_1_code 7 = .ok (.anewarray 9, 3) := by decide +kernel
theorem d_Notes_init_10 : decode prog_5_method_1_code 10 = .ok (.putfield 11, 3) := by decide +kernel
theorem d_Notes_init_13 : decode prog_5_method_1_code 13 = .ok (.return_, 1) := by decide +kernel
theorem d_Repeats_init_0 : decode prog_8_method_1_code 0 = .ok (.aload_n 0, 1) := by decide +kernel
theorem d_Repeats_init_1 : decode prog_8_method_1_code 1 = .ok (.invokespecial 3, 3) := by decide +kernel
theorem d_Repeats_init_4 : decode prog_8_method_1_code 4 = .ok (.aload_n 0, 1) := by decide +kernel
theorem d_Repeats_init_5 : decode prog_8_method_1_code 5 = .ok (.iload_n 1, 1) := by decide +kernel
theorem d_Repeats_init_6 : decode prog_8_method_1_code 6 = .ok (.anewarray 9, 3) := by decide +kernel
theorem d_Repeats_init_9 : decode prog_8_method_1_code 9 = .ok (.putfield 11, 3) := by decide +kernel
theorem d_Repeats_init_12 : decode prog_8_method_1_code 12 = .ok (.aload_n 0, 1) := by decide +kernel
theorem d_Repeats_init_13 : decode prog_8_method_1_code 13 = .ok (.iload_n 1, 1) := by decide +kernel
theorem d_Repeats_init_14 : decode prog_8_method_1_code 14 = .ok (.anewarray 9, 3) := by decide +kernel
theorem d_Repeats_init_17 : decode prog_8_method_1_code 17 = .ok (.putfield 17, 3) := by decide +kernel
theorem d_Repeats_init_20 : decode prog_8_method_1_code 20 = .ok (.aload_n 0, 1) := by decide +kernel
theorem d_Repeats_init_21 : decode prog_8_method_1_code 21 = .ok (.iload_n 1, 1) := by decide +kernel
theorem d_Repeats_init_22 : decode prog_8_method_1_code 22 = .ok (.anewarray 9, 3) := by decide +kernel
theorem d_Repeats_init_25 : decode prog_8_method_1_code 25 = .ok (.putfield 20, 3) := by decide +kernel
theorem d_Repeats_init_28 : decode prog_8_method_1_code 28 = .ok (.iconst 0, 1) := by decide +kernel
theorem d_Repeats_init_29 : decode prog_8_method_1_code 29 = .ok (.istore_n 2, 1) := by decide +kernel
theorem d_Repeats_init_30 : decode prog_8_method_1_code 30 = .ok (.iload_n 2, 1) := by decide +kernel
theorem d_Repeats_init_31 : decode prog_8_method_1_code 31 = .ok (.iload_n 1, 1) := by decide +kernel
theorem d_Repeats_init_32 : decode prog_8_method_1_code 32 = .ok (.if_icmp .ge 22, 3) := by decide +kernel
theorem d_Repeats_init_35 : decode prog_8_method_1_code 35 = .ok (.aload_n 0, 1) := by decide +kernel
theorem d_Repeats_init_36 : decode prog_8_method_1_code 36 = .ok (.getfield 11, 3) := by decide +kernel
theorem d_Repeats_init_39 : decode prog_8_method_1_code 39 = .ok (.iload_n 2, 1) := by decide +kernel
theorem d_Repeats_init_40 : decode prog_8_method_1_code 40 = .ok (.new 9, 3) := by decide +kernel
theorem d_Repeats_init_43 : decode prog_8_method_1_code 43 = .ok (.dup, 1) := by decide +kernel
theorem d_Repeats_init_44 : decode prog_8_method_1_code 44 = .ok (.invokespecial 23, 3) := by decide +kernel
theorem d_Repeats_init_47 : decode prog_8_method_1_code 47 = .ok (.aastore, 1) := by decide +kernel
theorem d_Repeats_init_48 : decode prog_8_method_1_code 48 = .ok (.iinc 2 1, 3) := by decide +kernel
theorem d_Repeats_init_51 : decode prog_8_method_1_code 51 = .ok (.goto (-21), 3) := by decide +kernel
theorem d_Repeats_init_54 : decode prog_8_method_1_code 54 = .ok (.return_, 1) := by decide +kernel
theorem d_Road_init_0 : decode prog_9_method_1_code 0 = .ok (.aload_n 0, 1) := by decide +kernel
theorem d_Road_init_1 : decode prog_9_method_1_code 1 = .ok (.invokespecial 3, 3) := by decide +kernel
theorem d_Road_init_4 : decode prog_9_method_1_code 4 = .ok (.aload_n 0, 1) := by decide +kernel
theorem d_Road_init_5 : decode prog_9_method_1_code 5 = .ok (.iload_n 1, 1) := by decide +kernel
theorem d_Road_init_6 : decode prog_9_method_1_code 6 = .ok (.bipush 12, 2) := by decide +kernel
theorem d_Road_init_8 : decode prog_9_method_1_code 8 = .ok (.imul, 1) := by decide +kernel
theorem d_Road_init_9 : decode prog_9_method_1_code 9 = .ok (.newarray .int, 2) := by decide +kernel
theorem d_Road_init_11 : decode prog_9_method_1_code 11 = .ok (.putfield 9, 3) := by decide +kernel
theorem d_Road_init_14 : decode prog_9_method_1_code 14 = .ok (.return_, 1) := by decide +kernel
theorem d_Sounding_init_0 : decode prog_10_method_1_code 0 = .ok (.aload_n 0, 1) := by decide +kernel
theorem d_Sounding_init_1 : decode prog_10_method_1_code 1 = .ok (.invokespecial 3, 3) := by decide +kernel
theorem d_Sounding_init_4 : decode prog_10_method_1_code 4 = .ok (.aload_n 0, 1) := by decide +kernel
theorem d_Sounding_init_5 : decode prog_10_method_1_code 5 = .ok (.sipush 480, 3) := by decide +kernel
theorem d_Sounding_init_8 : decode prog_10_method_1_code 8 = .ok (.anewarray 9, 3) := by decide +kernel
theorem d_Sounding_init_11 : decode prog_10_method_1_code 11 = .ok (.putfield 11, 3) := by decide +kernel
theorem d_Sounding_init_14 : decode prog_10_method_1_code 14 = .ok (.aload_n 0, 1) := by decide +kernel
theorem d_Sounding_init_15 : decode prog_10_method_1_code 15 = .ok (.sipush 480, 3) := by decide +kernel
theorem d_Sounding_init_18 : decode prog_10_method_1_code 18 = .ok (.newarray .int, 2) := by decide +kernel
theorem d_Sounding_init_20 : decode prog_10_method_1_code 20 = .ok (.putfield 17, 3) := by decide +kernel
theorem d_Sounding_init_23 : decode prog_10_method_1_code 23 = .ok (.aload_n 0, 1) := by decide +kernel
theorem d_Sounding_init_24 : decode prog_10_method_1_code 24 = .ok (.iconst (-1), 1) := by decide +kernel
theorem d_Sounding_init_25 : decode prog_10_method_1_code 25 = .ok (.putfield 21, 3) := by decide +kernel
theorem d_Sounding_init_28 : decode prog_10_method_1_code 28 = .ok (.return_, 1) := by decide +kernel
theorem d_SR_signAt_0 : decode prog_1_method_4_code 0 = .ok (.aload_n 0, 1) := by decide +kernel
theorem d_SR_signAt_1 : decode prog_1_method_4_code 1 = .ok (.getfield 14, 3) := by decide +kernel
theorem d_SR_signAt_4 : decode prog_1_method_4_code 4 = .ok (.iload_n 1, 1) := by decide +kernel
theorem d_SR_signAt_5 : decode prog_1_method_4_code 5 = .ok (.iload_n 2, 1) := by decide +kernel
theorem d_SR_signAt_6 : decode prog_1_method_4_code 6 = .ok (.invokevirtual 86, 3) := by decide +kernel
theorem d_SR_signAt_9 : decode prog_1_method_4_code 9 = .ok (.ireturn, 1) := by decide +kernel
theorem d_SR_check_0 : decode prog_1_method_7_code 0 = .ok (.aload_n 0, 1) := by decide +kernel
theorem d_SR_check_1 : decode prog_1_method_7_code 1 = .ok (.invokevirtual 140, 3) := by decide +kernel
theorem d_SR_check_4 : decode prog_1_method_7_code 4 = .ok (.aload_n 0, 1) := by decide +kernel
theorem d_SR_check_5 : decode prog_1_method_7_code 5 = .ok (.getfield 143, 3) := by decide +kernel
theorem d_SR_check_8 : decode prog_1_method_7_code 8 = .ok (.ireturn, 1) := by decide +kernel
theorem d_SR_knowRoad_0 : decode prog_1_method_19_code 0 = .ok (.aload_n 0, 1) := by decide +kernel
theorem d_SR_knowRoad_1 : decode prog_1_method_19_code 1 = .ok (.getfield 95, 3) := by decide +kernel
theorem d_SR_knowRoad_4 : decode prog_1_method_19_code 4 = .ok (.ifCond .eq 4, 3) := by decide +kernel
theorem d_SR_knowRoad_7 : decode prog_1_method_19_code 7 = .ok (.return_, 1) := by decide +kernel
theorem d_SR_knowRoad_8 : decode prog_1_method_19_code 8 = .ok (.aload_n 0, 1) := by decide +kernel
theorem d_SR_knowRoad_9 : decode prog_1_method_19_code 9 = .ok (.getfield 28, 3) := by decide +kernel
theorem d_SR_knowRoad_12 : decode prog_1_method_19_code 12 = .ok (.aload_n 0, 1) := by decide +kernel
theorem d_SR_knowRoad_13 : decode prog_1_method_19_code 13 = .ok (.getfield 14, 3) := by decide +kernel
theorem d_SR_knowRoad_16 : decode prog_1_method_19_code 16 = .ok (.invokevirtual 203, 3) := by decide +kernel
theorem d_SR_knowRoad_19 : decode prog_1_method_19_code 19 = .ok (.aload_n 0, 1) := by decide +kernel
theorem d_SR_knowRoad_20 : decode prog_1_method_19_code 20 = .ok (.aload_n 0, 1) := by decide +kernel
theorem d_SR_knowRoad_21 : decode prog_1_method_19_code 21 = .ok (.getfield 14, 3) := by decide +kernel
theorem d_SR_knowRoad_24 : decode prog_1_method_19_code 24 = .ok (.aload_n 0, 1) := by decide +kernel
theorem d_SR_knowRoad_25 : decode prog_1_method_19_code 25 = .ok (.getfield 28, 3) := by decide +kernel
theorem d_SR_knowRoad_28 : decode prog_1_method_19_code 28 = .ok (.invokestatic 207, 3) := by decide +kernel
theorem d_SR_knowRoad_31 : decode prog_1_method_19_code 31 = .ok (.putfield 143, 3) := by decide +kernel
theorem d_SR_knowRoad_34 : decode prog_1_method_19_code 34 = .ok (.aload_n 0, 1) := by decide +kernel
theorem d_SR_knowRoad_35 : decode prog_1_method_19_code 35 = .ok (.getfield 143, 3) := by decide +kernel
theorem d_SR_knowRoad_38 : decode prog_1_method_19_code 38 = .ok (.ifCond .ne 18, 3) := by decide +kernel
theorem d_SR_knowRoad_41 : decode prog_1_method_19_code 41 = .ok (.aload_n 0, 1) := by decide +kernel
theorem d_SR_knowRoad_42 : decode prog_1_method_19_code 42 = .ok (.getfield 35, 3) := by decide +kernel
theorem d_SR_knowRoad_45 : decode prog_1_method_19_code 45 = .ok (.aload_n 0, 1) := by decide +kernel
theorem d_SR_knowRoad_46 : decode prog_1_method_19_code 46 = .ok (.getfield 14, 3) := by decide +kernel
theorem d_SR_knowRoad_49 : decode prog_1_method_19_code 49 = .ok (.aload_n 0, 1) := by decide +kernel
theorem d_SR_knowRoad_50 : decode prog_1_method_19_code 50 = .ok (.getfield 28, 3) := by decide +kernel
theorem d_SR_knowRoad_53 : decode prog_1_method_19_code 53 = .ok (.invokevirtual 213, 3) := by decide +kernel
theorem d_SR_knowRoad_56 : decode prog_1_method_19_code 56 = .ok (.aload_n 0, 1) := by decide +kernel
theorem d_SR_knowRoad_57 : decode prog_1_method_19_code 57 = .ok (.iconst 1, 1) := by decide +kernel
theorem d_SR_knowRoad_58 : decode prog_1_method_19_code 58 = .ok (.putfield 95, 3) := by decide +kernel
theorem d_SR_knowRoad_61 : decode prog_1_method_19_code 61 = .ok (.return_, 1) := by decide +kernel
theorem d_Repeats_gather_0 : decode prog_8_method_2_code 0 = .ok (.aload_n 0, 1) := by decide +kernel
theorem d_Repeats_gather_1 : decode prog_8_method_2_code 1 = .ok (.iconst 0, 1) := by decide +kernel
theorem d_Repeats_gather_2 : decode prog_8_method_2_code 2 = .ok (.putfield 24, 3) := by decide +kernel
theorem d_Repeats_gather_5 : decode prog_8_method_2_code 5 = .ok (.iconst 0, 1) := by decide +kernel
theorem d_Repeats_gather_6 : decode prog_8_method_2_code 6 = .ok (.istore_n 2, 1) := by decide +kernel
theorem d_Repeats_gather_7 : decode prog_8_method_2_code 7 = .ok (.iload_n 2, 1) := by decide +kernel
theorem d_Repeats_gather_8 : decode prog_8_method_2_code 8 = .ok (.aload_n 0, 1) := by decide +kernel
theorem d_Repeats_gather_9 : decode prog_8_method_2_code 9 = .ok (.getfield 17, 3) := by decide +kernel
theorem d_Repeats_gather_12 : decode prog_8_method_2_code 12 = .ok (.arraylength, 1) := by decide +kernel
theorem d_Repeats_gather_13 : decode prog_8_method_2_code 13 = .ok (.if_icmp .ge 23, 3) := by decide +kernel
theorem d_Repeats_gather_16 : decode prog_8_method_2_code 16 = .ok (.aload_n 0, 1) := by decide +kernel
theorem d_Repeats_gather_17 : decode prog_8_method_2_code 17 = .ok (.getfield 17, 3) := by decide +kernel
theorem d_Repeats_gather_20 : decode prog_8_method_2_code 20 = .ok (.iload_n 2, 1) := by decide +kernel
theorem d_Repeats_gather_21 : decode prog_8_method_2_code 21 = .ok (.aconst_null, 1) := by decide +kernel
theorem d_Repeats_gather_22 : decode prog_8_method_2_code 22 = .ok (.aastore, 1) := by decide +kernel
theorem d_Repeats_gather_23 : decode prog_8_method_2_code 23 = .ok (.aload_n 0, 1) := by decide +kernel
theorem d_Repeats_gather_24 : decode prog_8_method_2_code 24 = .ok (.getfield 20, 3) := by decide +kernel
theorem d_Repeats_gather_27 : decode prog_8_method_2_code 27 = .ok (.iload_n 2, 1) := by decide +kernel
theorem d_Repeats_gather_28 : decode prog_8_method_2_code 28 = .ok (.aconst_null, 1) := by decide +kernel
theorem d_Repeats_gather_29 : decode prog_8_method_2_code 29 = .ok (.aastore, 1) := by decide +kernel
theorem d_Repeats_gather_30 : decode prog_8_method_2_code 30 = .ok (.iinc 2 1, 3) := by decide +kernel
theorem d_Repeats_gather_33 : decode prog_8_method_2_code 33 = .ok (.goto (-26), 3) := by decide +kernel
theorem d_Repeats_gather_36 : decode prog_8_method_2_code 36 = .ok (.aload_n 0, 1) := by decide +kernel
theorem d_Repeats_gather_37 : decode prog_8_method_2_code 37 = .ok (.aload_n 1, 1) := by decide +kernel
theorem d_Repeats_gather_38 : decode prog_8_method_2_code 38 = .ok (.invokevirtual 28, 3) := by decide +kernel
theorem d_Repeats_gather_41 : decode prog_8_method_2_code 41 = .ok (.iconst 0, 1) := by decide +kernel
theorem d_Repeats_gather_42 : decode prog_8_method_2_code 42 = .ok (.istore_n 2, 1) := by decide +kernel
theorem d_Repeats_gather_43 : decode prog_8_method_2_code 43 = .ok (.iload_n 2, 1) := by decide +kernel
theorem d_Repeats_gather_44 : decode prog_8_method_2_code 44 = .ok (.aload_n 0, 1) := by decide +kernel
theorem d_Repeats_gather_45 : decode prog_8_method_2_code 45 = .ok (.getfield 24, 3) := by decide +kernel
theorem d_Repeats_gather_48 : decode prog_8_method_2_code 48 = .ok (.if_icmp .ge 20, 3) := by decide +kernel
theorem d_Repeats_gather_51 : decode prog_8_method_2_code 51 = .ok (.aload_n 0, 1) := by decide +kernel
theorem d_Repeats_gather_52 : decode prog_8_method_2_code 52 = .ok (.aload_n 1, 1) := by decide +kernel
theorem d_Repeats_gather_53 : decode prog_8_method_2_code 53 = .ok (.aload_n 0, 1) := by decide +kernel
theorem d_Repeats_gather_54 : decode prog_8_method_2_code 54 = .ok (.getfield 11, 3) := by decide +kernel
theorem d_Repeats_gather_57 : decode prog_8_method_2_code 57 = .ok (.iload_n 2, 1) := by decide +kernel
theorem d_Repeats_gather_58 : decode prog_8_method_2_code 58 = .ok (.aaload, 1) := by decide +kernel
theorem d_Repeats_gather_59 : decode prog_8_method_2_code 59 = .ok (.invokevirtual 32, 3) := by decide +kernel
theorem d_Repeats_gather_62 : decode prog_8_method_2_code 62 = .ok (.iinc 2 1, 3) := by decide +kernel
theorem d_Repeats_gather_65 : decode prog_8_method_2_code 65 = .ok (.goto (-22), 3) := by decide +kernel
theorem d_Repeats_gather_68 : decode prog_8_method_2_code 68 = .ok (.return_, 1) := by decide +kernel
theorem d_Repeats_gatherEnds_0 : decode prog_8_method_3_code 0 = .ok (.aconst_null, 1) := by decide +kernel
theorem d_Repeats_gatherEnds_1 : decode prog_8_method_3_code 1 = .ok (.astore_n 2, 1) := by decide +kernel
theorem d_Repeats_gatherEnds_2 : decode prog_8_method_3_code 2 = .ok (.iconst 0, 1) := by decide +kernel
theorem d_Repeats_gatherEnds_3 : decode prog_8_method_3_code 3 = .ok (.istore_n 3, 1) := by decide +kernel
theorem d_Repeats_gatherEnds_4 : decode prog_8_method_3_code 4 = .ok (.iload_n 3, 1) := by decide +kernel
theorem d_Repeats_gatherEnds_5 : decode prog_8_method_3_code 5 = .ok (.aload_n 0, 1) := by decide +kernel
theorem d_Repeats_gatherEnds_6 : decode prog_8_method_3_code 6 = .ok (.getfield 17, 3) := by decide +kernel
theorem d_Repeats_gatherEnds_9 : decode prog_8_method_3_code 9 = .ok (.arraylength, 1) := by decide +kernel
theorem d_Repeats_gatherEnds_10 : decode prog_8_method_3_code 10 = .ok (.if_icmp .ge 84, 3) := by decide +kernel
theorem d_Repeats_gatherEnds_13 : decode prog_8_method_3_code 13 = .ok (.aload_n 1, 1) := by decide +kernel
theorem d_Repeats_gatherEnds_14 : decode prog_8_method_3_code 14 = .ok (.iload_n 3, 1) := by decide +kernel
theorem d_Repeats_gatherEnds_15 : decode prog_8_method_3_code 15 = .ok (.iconst 1, 1) := by decide +kernel
theorem d_Repeats_gatherEnds_16 : decode prog_8_method_3_code 16 = .ok (.invokevirtual 36, 3) := by decide +kernel
theorem d_Repeats_gatherEnds_19 : decode prog_8_method_3_code 19 = .ok (.ifCond .eq 69, 3) := by decide +kernel
theorem d_Repeats_gatherEnds_22 : decode prog_8_method_3_code 22 = .ok (.aload_n 0, 1) := by decide +kernel
theorem d_Repeats_gatherEnds_23 : decode prog_8_method_3_code 23 = .ok (.getfield 24, 3) := by decide +kernel
theorem d_Repeats_gatherEnds_26 : decode prog_8_method_3_code 26 = .ok (.aload_n 0, 1) := by decide +kernel
theorem d_Repeats_gatherEnds_27 : decode prog_8_method_3_code 27 = .ok (.getfield 11, 3) := by decide +kernel
theorem d_Repeats_gatherEnds_30 : decode prog_8_method_3_code 30 = .ok (.arraylength, 1) := by decide +kernel
theorem d_Repeats_gatherEnds_31 : decode prog_8_method_3_code 31 = .ok (.if_icmp .ge 57, 3) := by decide +kernel
theorem d_Repeats_gatherEnds_34 : decode prog_8_method_3_code 34 = .ok (.aload_n 2, 1) := by decide +kernel
theorem d_Repeats_gatherEnds_35 : decode prog_8_method_3_code 35 = .ok (.ifnonnull 14, 3) := by decide +kernel
theorem d_Repeats_gatherEnds_38 : decode prog_8_method_3_code 38 = .ok (.aload_n 0, 1) := by decide +kernel
theorem d_Repeats_gatherEnds_39 : decode prog_8_method_3_code 39 = .ok (.aload_n 1, 1) := by decide +kernel
theorem d_Repeats_gatherEnds_40 : decode prog_8_method_3_code 40 = .ok (.iconst 0, 1) := by decide +kernel
theorem d_Repeats_gatherEnds_41 : decode prog_8_method_3_code 41 = .ok (.iload_n 3, 1) := by decide +kernel
theorem d_Repeats_gatherEnds_42 : decode prog_8_method_3_code 42 = .ok (.invokevirtual 42, 3) := by decide +kernel
theorem d_Repeats_gatherEnds_45 : decode prog_8_method_3_code 45 = .ok (.astore_n 2, 1) := by decide +kernel
theorem d_Repeats_gatherEnds_46 : decode prog_8_method_3_code 46 = .ok (.goto 30, 3) := by decide +kernel
theorem d_Repeats_gatherEnds_49 : decode prog_8_method_3_code 49 = .ok (.aload_n 1, 1) := by decide +kernel
theorem d_Repeats_gatherEnds_50 : decode prog_8_method_3_code 50 = .ok (.aload_n 2, 1) := by decide +kernel
theorem d_Repeats_gatherEnds_51 : decode prog_8_method_3_code 51 = .ok (.getfield 46, 3) := by decide +kernel
theorem d_Repeats_gatherEnds_54 : decode prog_8_method_3_code 54 = .ok (.iconst 1, 1) := by decide +kernel
theorem d_Repeats_gatherEnds_55 : decode prog_8_method_3_code 55 = .ok (.iadd, 1) := by decide +kernel
theorem d_Repeats_gatherEnds_56 : decode prog_8_method_3_code 56 = .ok (.iload_n 3, 1) := by decide +kernel
theorem d_Repeats_gatherEnds_57 : decode prog_8_method_3_code 57 = .ok (.invokestatic 49, 3) := by decide +kernel
theorem d_Repeats_gatherEnds_60 : decode prog_8_method_3_code 60 = .ok (.ifCond .ne 16, 3) := by decide +kernel
theorem d_Repeats_gatherEnds_63 : decode prog_8_method_3_code 63 = .ok (.aload_n 0, 1) := by decide +kernel
theorem d_Repeats_gatherEnds_64 : decode prog_8_method_3_code 64 = .ok (.aload_n 1, 1) := by decide +kernel
theorem d_Repeats_gatherEnds_65 : decode prog_8_method_3_code 65 = .ok (.aload_n 2, 1) := by decide +kernel
theorem d_Repeats_gatherEnds_66 : decode prog_8_method_3_code 66 = .ok (.getfield 46, 3) := by decide +kernel
theorem d_Repeats_gatherEnds_69 : decode prog_8_method_3_code 69 = .ok (.iconst 1, 1) := by decide +kernel
theorem d_Repeats_gatherEnds_70 : decode prog_8_method_3_code 70 = .ok (.iadd, 1) := by decide +kernel
theorem d_Repeats_gatherEnds_71 : decode prog_8_method_3_code 71 = .ok (.iload_n 3, 1) := by decide +kernel
theorem d_Repeats_gatherEnds_72 : decode prog_8_method_3_code 72 = .ok (.invokevirtual 42, 3) := by decide +kernel
theorem d_Repeats_gatherEnds_75 : decode prog_8_method_3_code 75 = .ok (.astore_n 2, 1) := by decide +kernel
theorem d_Repeats_gatherEnds_76 : decode prog_8_method_3_code 76 = .ok (.aload_n 2, 1) := by decide +kernel
theorem d_Repeats_gatherEnds_77 : decode prog_8_method_3_code 77 = .ok (.iload_n 3, 1) := by decide +kernel
theorem d_Repeats_gatherEnds_78 : decode prog_8_method_3_code 78 = .ok (.putfield 46, 3) := by decide +kernel
theorem d_Repeats_gatherEnds_81 : decode prog_8_method_3_code 81 = .ok (.aload_n 0, 1) := by decide +kernel
theorem d_Repeats_gatherEnds_82 : decode prog_8_method_3_code 82 = .ok (.getfield 17, 3) := by decide +kernel
theorem d_Repeats_gatherEnds_85 : decode prog_8_method_3_code 85 = .ok (.iload_n 3, 1) := by decide +kernel
theorem d_Repeats_gatherEnds_86 : decode prog_8_method_3_code 86 = .ok (.aload_n 2, 1) := by decide +kernel
theorem d_Repeats_gatherEnds_87 : decode prog_8_method_3_code 87 = .ok (.aastore, 1) := by decide +kernel
theorem d_Repeats_gatherEnds_88 : decode prog_8_method_3_code 88 = .ok (.iinc 3 1, 3) := by decide +kernel
theorem d_Repeats_gatherEnds_91 : decode prog_8_method_3_code 91 = .ok (.goto (-87), 3) := by decide +kernel
theorem d_Repeats_gatherEnds_94 : decode prog_8_method_3_code 94 = .ok (.return_, 1) := by decide +kernel
theorem d_Repeats_begin_0 : decode prog_8_method_5_code 0 = .ok (.aload_n 1, 1) := by decide +kernel
theorem d_Repeats_begin_1 : decode prog_8_method_5_code 1 = .ok (.iconst 0, 1) := by decide +kernel
theorem d_Repeats_begin_2 : decode prog_8_method_5_code 2 = .ok (.iload_n 2, 1) := by decide +kernel
theorem d_Repeats_begin_3 : decode prog_8_method_5_code 3 = .ok (.iload_n 3, 1) := by decide +kernel
theorem d_Repeats_begin_4 : decode prog_8_method_5_code 4 = .ok (.invokevirtual 53, 3) := by decide +kernel
theorem d_Repeats_begin_7 : decode prog_8_method_5_code 7 = .ok (.istore 4, 2) := by decide +kernel
theorem d_Repeats_begin_9 : decode prog_8_method_5_code 9 = .ok (.aload_n 0, 1) := by decide +kernel
theorem d_Repeats_begin_10 : decode prog_8_method_5_code 10 = .ok (.getfield 11, 3) := by decide +kernel
theorem d_Repeats_begin_13 : decode prog_8_method_5_code 13 = .ok (.aload_n 0, 1) := by decide +kernel
theorem d_Repeats_begin_14 : decode prog_8_method_5_code 14 = .ok (.getfield 24, 3) := by decide +kernel
theorem d_Repeats_begin_17 : decode prog_8_method_5_code 17 = .ok (.aaload, 1) := by decide +kernel
theorem d_Repeats_begin_18 : decode prog_8_method_5_code 18 = .ok (.astore 5, 2) := by decide +kernel
theorem d_Repeats_begin_20 : decode prog_8_method_5_code 20 = .ok (.aload 5, 2) := by decide +kernel
theorem d_Repeats_begin_22 : decode prog_8_method_5_code 22 = .ok (.iload 4, 2) := by decide +kernel
theorem d_Repeats_begin_24 : decode prog_8_method_5_code 24 = .ok (.iconst (-1), 1) := by decide +kernel
theorem d_Repeats_begin_25 : decode prog_8_method_5_code 25 = .ok (.if_icmp .ne 7, 3) := by decide +kernel
theorem d_Repeats_begin_28 : decode prog_8_method_5_code 28 = .ok (.iload_n 2, 1) := by decide +kernel
theorem d_Repeats_begin_29 : decode prog_8_method_5_code 29 = .ok (.goto 5, 3) := by decide +kernel
theorem d_Repeats_begin_32 : decode prog_8_method_5_code 32 = .ok (.iload 4, 2) := by decide +kernel
theorem d_Repeats_begin_34 : decode prog_8_method_5_code 34 = .ok (.putfield 57, 3) := by decide +kernel
theorem d_Repeats_begin_37 : decode prog_8_method_5_code 37 = .ok (.aload 5, 2) := by decide +kernel
theorem d_Repeats_begin_39 : decode prog_8_method_5_code 39 = .ok (.iload_n 3, 1) := by decide +kernel
theorem d_Repeats_begin_40 : decode prog_8_method_5_code 40 = .ok (.putfield 60, 3) := by decide +kernel
theorem d_Repeats_begin_43 : decode prog_8_method_5_code 43 = .ok (.aload 5, 2) := by decide +kernel
theorem d_Repeats_begin_45 : decode prog_8_method_5_code 45 = .ok (.iconst (-1), 1) := by decide +kernel
theorem d_Repeats_begin_46 : decode prog_8_method_5_code 46 = .ok (.putfield 63, 3) := by decide +kernel
theorem d_Repeats_begin_49 : decode prog_8_method_5_code 49 = .ok (.aload 5, 2) := by decide +kernel
theorem d_Repeats_begin_51 : decode prog_8_method_5_code 51 = .ok (.iconst (-1), 1) := by decide +kernel
theorem d_Repeats_begin_52 : decode prog_8_method_5_code 52 = .ok (.putfield 66, 3) := by decide +kernel
theorem d_Repeats_begin_55 : decode prog_8_method_5_code 55 = .ok (.aload 5, 2) := by decide +kernel
theorem d_Repeats_begin_57 : decode prog_8_method_5_code 57 = .ok (.aload_n 1, 1) := by decide +kernel
theorem d_Repeats_begin_58 : decode prog_8_method_5_code 58 = .ok (.iload_n 3, 1) := by decide +kernel
theorem d_Repeats_begin_59 : decode prog_8_method_5_code 59 = .ok (.iconst 1, 1) := by decide +kernel
theorem d_Repeats_begin_60 : decode prog_8_method_5_code 60 = .ok (.invokevirtual 69, 3) := by decide +kernel
theorem d_Repeats_begin_63 : decode prog_8_method_5_code 63 = .ok (.putfield 73, 3) := by decide +kernel
theorem d_Repeats_begin_66 : decode prog_8_method_5_code 66 = .ok (.aload_n 0, 1) := by decide +kernel
theorem d_Repeats_begin_67 : decode prog_8_method_5_code 67 = .ok (.dup, 1) := by decide +kernel
theorem d_Repeats_begin_68 : decode prog_8_method_5_code 68 = .ok (.getfield 24, 3) := by decide +kernel
theorem d_Repeats_begin_71 : decode prog_8_method_5_code 71 = .ok (.iconst 1, 1) := by decide +kernel
theorem d_Repeats_begin_72 : decode prog_8_method_5_code 72 = .ok (.iadd, 1) := by decide +kernel
theorem d_Repeats_begin_73 : decode prog_8_method_5_code 73 = .ok (.putfield 24, 3) := by decide +kernel
theorem d_Repeats_begin_76 : decode prog_8_method_5_code 76 = .ok (.aload 5, 2) := by decide +kernel
theorem d_Repeats_begin_78 : decode prog_8_method_5_code 78 = .ok (.areturn, 1) := by decide +kernel
theorem d_Repeats_goesOn_0 : decode prog_8_method_4_code 0 = .ok (.aload_n 0, 1) := by decide +kernel
theorem d_Repeats_goesOn_1 : decode prog_8_method_4_code 1 = .ok (.iload_n 1, 1) := by decide +kernel
theorem d_Repeats_goesOn_2 : decode prog_8_method_4_code 2 = .ok (.iconst 2, 1) := by decide +kernel
theorem d_Repeats_goesOn_3 : decode prog_8_method_4_code 3 = .ok (.invokevirtual 36, 3) := by decide +kernel
theorem d_Repeats_goesOn_6 : decode prog_8_method_4_code 6 = .ok (.ifCond .eq 18, 3) := by decide +kernel
theorem d_Repeats_goesOn_9 : decode prog_8_method_4_code 9 = .ok (.aload_n 0, 1) := by decide +kernel
theorem d_Repeats_goesOn_10 : decode prog_8_method_4_code 10 = .ok (.iconst 0, 1) := by decide +kernel
theorem d_Repeats_goesOn_11 : decode prog_8_method_4_code 11 = .ok (.iload_n 1, 1) := by decide +kernel
theorem d_Repeats_goesOn_12 : decode prog_8_method_4_code 12 = .ok (.iload_n 2, 1) := by decide +kernel
theorem d_Repeats_goesOn_13 : decode prog_8_method_4_code 13 = .ok (.invokevirtual 53, 3) := by decide +kernel
theorem d_Repeats_goesOn_16 : decode prog_8_method_4_code 16 = .ok (.iconst (-1), 1) := by decide +kernel
theorem d_Repeats_goesOn_17 : decode prog_8_method_4_code 17 = .ok (.if_icmp .ne 7, 3) := by decide +kernel
theorem d_Repeats_goesOn_20 : decode prog_8_method_4_code 20 = .ok (.iconst 1, 1) := by decide +kernel
theorem d_Repeats_goesOn_21 : decode prog_8_method_4_code 21 = .ok (.goto 4, 3) := by decide +kernel
theorem d_Repeats_goesOn_24 : decode prog_8_method_4_code 24 = .ok (.iconst 0, 1) := by decide +kernel
theorem d_Repeats_goesOn_25 : decode prog_8_method_4_code 25 = .ok (.ireturn, 1) := by decide +kernel
theorem d_Repeats_gatherEndings_0 : decode prog_8_method_6_code 0 = .ok (.aload_n 2, 1) := by decide +kernel
theorem d_Repeats_gatherEndings_1 : decode prog_8_method_6_code 1 = .ok (.getfield 57, 3) := by decide +kernel
theorem d_Repeats_gatherEndings_4 : decode prog_8_method_6_code 4 = .ok (.istore_n 3, 1) := by decide +kernel
theorem d_Repeats_gatherEndings_5 : decode prog_8_method_6_code 5 = .ok (.iload_n 3, 1) := by decide +kernel
theorem d_Repeats_gatherEndings_6 : decode prog_8_method_6_code 6 = .ok (.aload_n 2, 1) := by decide +kernel
theorem d_Repeats_gatherEndings_7 : decode prog_8_method_6_code 7 = .ok (.getfield 60, 3) := by decide +kernel
theorem d_Repeats_gatherEndings_10 : decode prog_8_method_6_code 10 = .ok (.if_icmp .gt 16, 3) := by decide +kernel
theorem d_Repeats_gatherEndings_13 : decode prog_8_method_6_code 13 = .ok (.aload_n 0, 1) := by decide +kernel
theorem d_Repeats_gatherEndings_14 : decode prog_8_method_6_code 14 = .ok (.aload_n 1, 1) := by decide +kernel
theorem d_Repeats_gatherEndings_15 : decode prog_8_method_6_code 15 = .ok (.aload_n 2, 1) := by decide +kernel
theorem d_Repeats_gatherEndings_16 : decode prog_8_method_6_code 16 = .ok (.iload_n 3, 1) := by decide +kernel
theorem d_Repeats_gatherEndings_17 : decode prog_8_method_6_code 17 = .ok (.invokevirtual 76, 3) := by decide +kernel
theorem d_Repeats_gatherEndings_20 : decode prog_8_method_6_code 20 = .ok (.iinc 3 1, 3) := by decide +kernel
theorem d_Repeats_gatherEndings_23 : decode prog_8_method_6_code 23 = .ok (.goto (-18), 3) := by decide +kernel
theorem d_Repeats_gatherEndings_26 : decode prog_8_method_6_code 26 = .ok (.aload_n 2, 1) := by decide +kernel
theorem d_Repeats_gatherEndings_27 : decode prog_8_method_6_code 27 = .ok (.invokevirtual 80, 3) := by decide +kernel
theorem d_Repeats_gatherEndings_30 : decode prog_8_method_6_code 30 = .ok (.ifCond .ne 4, 3) := by decide +kernel
theorem d_Repeats_gatherEndings_33 : decode prog_8_method_6_code 33 = .ok (.return_, 1) := by decide +kernel
theorem d_Repeats_gatherEndings_34 : decode prog_8_method_6_code 34 = .ok (.aload_n 2, 1) := by decide +kernel
theorem d_Repeats_gatherEndings_35 : decode prog_8_method_6_code 35 = .ok (.getfield 60, 3) := by decide +kernel
theorem d_Repeats_gatherEndings_38 : decode prog_8_method_6_code 38 = .ok (.istore_n 3, 1) := by decide +kernel
theorem d_Repeats_gatherEndings_39 : decode prog_8_method_6_code 39 = .ok (.iload_n 3, 1) := by decide +kernel
theorem d_Repeats_gatherEndings_40 : decode prog_8_method_6_code 40 = .ok (.aload_n 2, 1) := by decide +kernel
theorem d_Repeats_gatherEndings_41 : decode prog_8_method_6_code 41 = .ok (.getfield 46, 3) := by decide +kernel
theorem d_Repeats_gatherEndings_44 : decode prog_8_method_6_code 44 = .ok (.if_icmp .gt 27, 3) := by decide +kernel
theorem d_Repeats_gatherEndings_47 : decode prog_8_method_6_code 47 = .ok (.aload_n 0, 1) := by decide +kernel
theorem d_Repeats_gatherEndings_48 : decode prog_8_method_6_code 48 = .ok (.iload_n 3, 1) := by decide +kernel
theorem d_Repeats_gatherEndings_49 : decode prog_8_method_6_code 49 = .ok (.invokevirtual 84, 3) := by decide +kernel
theorem d_Repeats_gatherEndings_52 : decode prog_8_method_6_code 52 = .ok (.aload_n 2, 1) := by decide +kernel
theorem d_Repeats_gatherEndings_53 : decode prog_8_method_6_code 53 = .ok (.if_acmp .ne 12, 3) := by decide +kernel
theorem d_Repeats_gatherEndings_56 : decode prog_8_method_6_code 56 = .ok (.aload_n 0, 1) := by decide +kernel
theorem d_Repeats_gatherEndings_57 : decode prog_8_method_6_code 57 = .ok (.aload_n 1, 1) := by decide +kernel
theorem d_Repeats_gatherEndings_58 : decode prog_8_method_6_code 58 = .ok (.aload_n 2, 1) := by decide +kernel
theorem d_Repeats_gatherEndings_59 : decode prog_8_method_6_code 59 = .ok (.iload_n 3, 1) := by decide +kernel
theorem d_Repeats_gatherEndings_60 : decode prog_8_method_6_code 60 = .ok (.iconst 1, 1) := by decide +kernel
theorem d_Repeats_gatherEndings_61 : decode prog_8_method_6_code 61 = .ok (.iadd, 1) := by decide +kernel
theorem d_Repeats_gatherEndings_62 : decode prog_8_method_6_code 62 = .ok (.invokevirtual 76, 3) := by decide +kernel
theorem d_Repeats_gatherEndings_65 : decode prog_8_method_6_code 65 = .ok (.iinc 3 1, 3) := by decide +kernel
theorem d_Repeats_gatherEndings_68 : decode prog_8_method_6_code 68 = .ok (.goto (-29), 3) := by decide +kernel
theorem d_Repeats_gatherEndings_71 : decode prog_8_method_6_code 71 = .ok (.return_, 1) := by decide +kernel
theorem d_Repeats_takeEnding_0 : decode prog_8_method_7_code 0 = .ok (.aload_n 1, 1) := by decide +kernel
theorem d_Repeats_takeEnding_1 : decode prog_8_method_7_code 1 = .ok (.iload_n 3, 1) := by decide +kernel
theorem d_Repeats_takeEnding_2 : decode prog_8_method_7_code 2 = .ok (.iconst 2, 1) := by decide +kernel
theorem d_Repeats_takeEnding_3 : decode prog_8_method_7_code 3 = .ok (.invokevirtual 36, 3) := by decide +kernel
theorem d_Repeats_takeEnding_6 : decode prog_8_method_7_code 6 = .ok (.ifCond .eq 36, 3) := by decide +kernel
theorem d_Repeats_takeEnding_9 : decode prog_8_method_7_code 9 = .ok (.aload_n 0, 1) := by decide +kernel
theorem d_Repeats_takeEnding_10 : decode prog_8_method_7_code 10 = .ok (.getfield 20, 3) := by decide +kernel
theorem d_Repeats_takeEnding_13 : decode prog_8_method_7_code 13 = .ok (.iload_n 3, 1) := by decide +kernel
theorem d_Repeats_takeEnding_14 : decode prog_8_method_7_code 14 = .ok (.aaload, 1) := by decide +kernel
theorem d_Repeats_takeEnding_15 : decode prog_8_method_7_code 15 = .ok (.ifnonnull 27, 3) := by decide +kernel
theorem d_Repeats_takeEnding_18 : decode prog_8_method_7_code 18 = .ok (.aload_n 0, 1) := by decide +kernel
theorem d_Repeats_takeEnding_19 : decode prog_8_method_7_code 19 = .ok (.getfield 20, 3) := by decide +kernel
theorem d_Repeats_takeEnding_22 : decode prog_8_method_7_code 22 = .ok (.iload_n 3, 1) := by decide +kernel
theorem d_Repeats_takeEnding_23 : decode prog_8_method_7_code 23 = .ok (.aload_n 2, 1) := by decide +kernel
theorem d_Repeats_takeEnding_24 : decode prog_8_method_7_code 24 = .ok (.aastore, 1) := by decide +kernel
theorem d_Repeats_takeEnding_25 : decode prog_8_method_7_code 25 = .ok (.aload_n 2, 1) := by decide +kernel
theorem d_Repeats_takeEnding_26 : decode prog_8_method_7_code 26 = .ok (.iload_n 3, 1) := by decide +kernel
theorem d_Repeats_takeEnding_27 : decode prog_8_method_7_code 27 = .ok (.putfield 66, 3) := by decide +kernel
theorem d_Repeats_takeEnding_30 : decode prog_8_method_7_code 30 = .ok (.aload_n 2, 1) := by decide +kernel
theorem d_Repeats_takeEnding_31 : decode prog_8_method_7_code 31 = .ok (.invokevirtual 80, 3) := by decide +kernel
theorem d_Repeats_takeEnding_34 : decode prog_8_method_7_code 34 = .ok (.ifCond .ne 8, 3) := by decide +kernel
theorem d_Repeats_takeEnding_37 : decode prog_8_method_7_code 37 = .ok (.aload_n 2, 1) := by decide +kernel
theorem d_Repeats_takeEnding_38 : decode prog_8_method_7_code 38 = .ok (.iload_n 3, 1) := by decide +kernel
theorem d_Repeats_takeEnding_39 : decode prog_8_method_7_code 39 = .ok (.putfield 63, 3) := by decide +kernel
theorem d_Repeats_takeEnding_42 : decode prog_8_method_7_code 42 = .ok (.return_, 1) := by decide +kernel
theorem d_Repeats_ofEnd_0 : decode prog_8_method_8_code 0 = .ok (.iload_n 1, 1) := by decide +kernel
theorem d_Repeats_ofEnd_1 : decode prog_8_method_8_code 1 = .ok (.ifCond .lt 21, 3) := by decide +kernel
theorem d_Repeats_ofEnd_4 : decode prog_8_method_8_code 4 = .ok (.iload_n 1, 1) := by decide +kernel
theorem d_Repeats_ofEnd_5 : decode prog_8_method_8_code 5 = .ok (.aload_n 0, 1) := by decide +kernel
theorem d_Repeats_ofEnd_6 : decode prog_8_method_8_code 6 = .ok (.getfield 17, 3) := by decide +kernel
theorem d_Repeats_ofEnd_9 : decode prog_8_method_8_code 9 = .ok (.arraylength, 1) := by decide +kernel
theorem d_Repeats_ofEnd_10 : decode prog_8_method_8_code 10 = .ok (.if_icmp .ge 12, 3) := by decide +kernel
theorem d_Repeats_ofEnd_13 : decode prog_8_method_8_code 13 = .ok (.aload_n 0, 1) := by decide +kernel
theorem d_Repeats_ofEnd_14 : decode prog_8_method_8_code 14 = .ok (.getfield 17, 3) := by decide +kernel
theorem d_Repeats_ofEnd_17 : decode prog_8_method_8_code 17 = .ok (.iload_n 1, 1) := by decide +kernel
theorem d_Repeats_ofEnd_18 : decode prog_8_method_8_code 18 = .ok (.aaload, 1) := by decide +kernel
theorem d_Repeats_ofEnd_19 : decode prog_8_method_8_code 19 = .ok (.goto 4, 3) := by decide +kernel
theorem d_Repeats_ofEnd_22 : decode prog_8_method_8_code 22 = .ok (.aconst_null, 1) := by decide +kernel
theorem d_Repeats_ofEnd_23 : decode prog_8_method_8_code 23 = .ok (.areturn, 1) := by decide +kernel
theorem d_Faults_least_0 : decode prog_2_method_2_code 0 = .ok (.iconst 1, 1) := by decide +kernel
theorem d_Faults_least_1 : decode prog_2_method_2_code 1 = .ok (.istore_n 2, 1) := by decide +kernel
theorem d_Faults_least_2 : decode prog_2_method_2_code 2 = .ok (.iload_n 2, 1) := by decide +kernel
theorem d_Faults_least_3 : decode prog_2_method_2_code 3 = .ok (.bipush 7, 2) := by decide +kernel
theorem d_Faults_least_5 : decode prog_2_method_2_code 5 = .ok (.if_icmp .gt 42, 3) := by decide +kernel
theorem d_Faults_least_8 : decode prog_2_method_2_code 8 = .ok (.iconst 0, 1) := by decide +kernel
theorem d_Faults_least_9 : decode prog_2_method_2_code 9 = .ok (.istore_n 3, 1) := by decide +kernel
theorem d_Faults_least_10 : decode prog_2_method_2_code 10 = .ok (.iload_n 3, 1) := by decide +kernel
theorem d_Faults_least_11 : decode prog_2_method_2_code 11 = .ok (.aload_n 0, 1) := by decide +kernel
theorem d_Faults_least_12 : decode prog_2_method_2_code 12 = .ok (.getfield 11, 3) := by decide +kernel
theorem d_Faults_least_15 : decode prog_2_method_2_code 15 = .ok (.if_icmp .ge 26, 3) := by decide +kernel
theorem d_Faults_least_18 : decode prog_2_method_2_code 18 = .ok (.iload_n 2, 1) := by decide +kernel
theorem d_Faults_least_19 : decode prog_2_method_2_code 19 = .ok (.aload_n 0, 1) := by decide +kernel
theorem d_Faults_least_20 : decode prog_2_method_2_code 20 = .ok (.aload_n 1, 1) := by decide +kernel
theorem d_Faults_least_21 : decode prog_2_method_2_code 21 = .ok (.iload_n 3, 1) := by decide +kernel
theorem d_Faults_least_22 : decode prog_2_method_2_code 22 = .ok (.invokestatic 17, 3) := by decide +kernel
theorem d_Faults_least_25 : decode prog_2_method_2_code 25 = .ok (.ifCond .eq 10, 3) := by decide +kernel
theorem d_Faults_least_28 : decode prog_2_method_2_code 28 = .ok (.bipush 100, 2) := by decide +kernel
theorem d_Faults_least_30 : decode prog_2_method_2_code 30 = .ok (.iload_n 2, 1) := by decide +kernel
theorem d_Faults_least_31 : decode prog_2_method_2_code 31 = .ok (.imul, 1) := by decide +kernel
theorem d_Faults_least_32 : decode prog_2_method_2_code 32 = .ok (.iload_n 3, 1) := by decide +kernel
theorem d_Faults_least_33 : decode prog_2_method_2_code 33 = .ok (.iadd, 1) := by decide +kernel
theorem d_Faults_least_34 : decode prog_2_method_2_code 34 = .ok (.ireturn, 1) := by decide +kernel
theorem d_Faults_least_35 : decode prog_2_method_2_code 35 = .ok (.iinc 3 1, 3) := by decide +kernel
theorem d_Faults_least_38 : decode prog_2_method_2_code 38 = .ok (.goto (-28), 3) := by decide +kernel
theorem d_Faults_least_41 : decode prog_2_method_2_code 41 = .ok (.iinc 2 1, 3) := by decide +kernel
theorem d_Faults_least_44 : decode prog_2_method_2_code 44 = .ok (.goto (-42), 3) := by decide +kernel
theorem d_Faults_least_47 : decode prog_2_method_2_code 47 = .ok (.iconst 0, 1) := by decide +kernel
theorem d_Faults_least_48 : decode prog_2_method_2_code 48 = .ok (.ireturn, 1) := by decide +kernel
theorem d_Faults_isThere_0 : decode prog_2_method_3_code 0 = .ok (.iload_n 0, 1) := by decide +kernel
theorem d_Faults_isThere_1 : decode prog_2_method_3_code 1 = .ok (.tableswitch 175 1 6 #[39, 62, 85, 109, 116, 150], 39) := by decide +kernel
theorem d_Faults_isThere_40 : decode prog_2_method_3_code 40 = .ok (.aload_n 1, 1) := by decide +kernel
theorem d_Faults_isThere_41 : decode prog_2_method_3_code 41 = .ok (.iload_n 3, 1) := by decide +kernel
theorem d_Faults_isThere_42 : decode prog_2_method_3_code 42 = .ok (.iconst 0, 1) := by decide +kernel
theorem d_Faults_isThere_43 : decode prog_2_method_3_code 43 = .ok (.invokevirtual 21, 3) := by decide +kernel
theorem d_Faults_isThere_46 : decode prog_2_method_3_code 46 = .ok (.ifCond .eq 15, 3) := by decide +kernel
theorem d_Faults_isThere_49 : decode prog_2_method_3_code 49 = .ok (.aload_n 1, 1) := by decide +kernel
theorem d_Faults_isThere_50 : decode prog_2_method_3_code 50 = .ok (.iload_n 3, 1) := by decide +kernel
theorem d_Faults_isThere_51 : decode prog_2_method_3_code 51 = .ok (.invokestatic 25, 3) := by decide +kernel
theorem d_Faults_isThere_54 : decode prog_2_method_3_code 54 = .ok (.ifCond .eq 7, 3) := by decide +kernel
theorem d_Faults_isThere_57 : decode prog_2_method_3_code 57 = .ok (.iconst 1, 1) := by decide +kernel
theorem d_Faults_isThere_58 : decode prog_2_method_3_code 58 = .ok (.goto 4, 3) := by decide +kernel
theorem d_Faults_isThere_61 : decode prog_2_method_3_code 61 = .ok (.iconst 0, 1) := by decide +kernel
theorem d_Faults_isThere_62 : decode prog_2_method_3_code 62 = .ok (.ireturn, 1) := by decide +kernel
theorem d_Faults_isThere_63 : decode prog_2_method_3_code 63 = .ok (.aload_n 1, 1) := by decide +kernel
theorem d_Faults_isThere_64 : decode prog_2_method_3_code 64 = .ok (.iload_n 3, 1) := by decide +kernel
theorem d_Faults_isThere_65 : decode prog_2_method_3_code 65 = .ok (.iconst 2, 1) := by decide +kernel
theorem d_Faults_isThere_66 : decode prog_2_method_3_code 66 = .ok (.invokevirtual 21, 3) := by decide +kernel
theorem d_Faults_isThere_69 : decode prog_2_method_3_code 69 = .ok (.ifCond .eq 15, 3) := by decide +kernel
theorem d_Faults_isThere_72 : decode prog_2_method_3_code 72 = .ok (.aload_n 2, 1) := by decide +kernel
theorem d_Faults_isThere_73 : decode prog_2_method_3_code 73 = .ok (.iload_n 3, 1) := by decide +kernel
theorem d_Faults_isThere_74 : decode prog_2_method_3_code 74 = .ok (.invokestatic 29, 3) := by decide +kernel
theorem d_Faults_isThere_77 : decode prog_2_method_3_code 77 = .ok (.ifCond .eq 7, 3) := by decide +kernel
theorem d_Faults_isThere_80 : decode prog_2_method_3_code 80 = .ok (.iconst 1, 1) := by decide +kernel
theorem d_Faults_isThere_81 : decode prog_2_method_3_code 81 = .ok (.goto 4, 3) := by decide +kernel
theorem d_Faults_isThere_84 : decode prog_2_method_3_code 84 = .ok (.iconst 0, 1) := by decide +kernel
theorem d_Faults_isThere_85 : decode prog_2_method_3_code 85 = .ok (.ireturn, 1) := by decide +kernel
theorem d_Faults_isThere_86 : decode prog_2_method_3_code 86 = .ok (.aload_n 1, 1) := by decide +kernel
theorem d_Faults_isThere_87 : decode prog_2_method_3_code 87 = .ok (.iload_n 3, 1) := by decide +kernel
theorem d_Faults_isThere_88 : decode prog_2_method_3_code 88 = .ok (.iconst 1, 1) := by decide +kernel
theorem d_Faults_isThere_89 : decode prog_2_method_3_code 89 = .ok (.invokevirtual 21, 3) := by decide +kernel
theorem d_Faults_isThere_92 : decode prog_2_method_3_code 92 = .ok (.ifCond .eq 16, 3) := by decide +kernel
theorem d_Faults_isThere_95 : decode prog_2_method_3_code 95 = .ok (.aload_n 1, 1) := by decide +kernel
theorem d_Faults_isThere_96 : decode prog_2_method_3_code 96 = .ok (.aload_n 2, 1) := by decide +kernel
theorem d_Faults_isThere_97 : decode prog_2_method_3_code 97 = .ok (.iload_n 3, 1) := by decide +kernel
theorem d_Faults_isThere_98 : decode prog_2_method_3_code 98 = .ok (.invokestatic 33, 3) := by decide +kernel
theorem d_Faults_isThere_101 : decode prog_2_method_3_code 101 = .ok (.ifCond .eq 7, 3) := by decide +kernel
theorem d_Faults_isThere_104 : decode prog_2_method_3_code 104 = .ok (.iconst 1, 1) := by decide +kernel
theorem d_Faults_isThere_105 : decode prog_2_method_3_code 105 = .ok (.goto 4, 3) := by decide +kernel
theorem d_Faults_isThere_108 : decode prog_2_method_3_code 108 = .ok (.iconst 0, 1) := by decide +kernel
theorem d_Faults_isThere_109 : decode prog_2_method_3_code 109 = .ok (.ireturn, 1) := by decide +kernel
theorem d_Faults_isThere_110 : decode prog_2_method_3_code 110 = .ok (.aload_n 1, 1) := by decide +kernel
theorem d_Faults_isThere_111 : decode prog_2_method_3_code 111 = .ok (.aload_n 2, 1) := by decide +kernel
theorem d_Faults_isThere_112 : decode prog_2_method_3_code 112 = .ok (.iload_n 3, 1) := by decide +kernel
theorem d_Faults_isThere_113 : decode prog_2_method_3_code 113 = .ok (.invokestatic 37, 3) := by decide +kernel
theorem d_Faults_isThere_116 : decode prog_2_method_3_code 116 = .ok (.ireturn, 1) := by decide +kernel
theorem d_Faults_isThere_117 : decode prog_2_method_3_code 117 = .ok (.aload_n 1, 1) := by decide +kernel
theorem d_Faults_isThere_118 : decode prog_2_method_3_code 118 = .ok (.iconst 3, 1) := by decide +kernel
theorem d_Faults_isThere_119 : decode prog_2_method_3_code 119 = .ok (.iload_n 3, 1) := by decide +kernel
theorem d_Faults_isThere_120 : decode prog_2_method_3_code 120 = .ok (.invokestatic 40, 3) := by decide +kernel
theorem d_Faults_isThere_123 : decode prog_2_method_3_code 123 = .ok (.ifCond .ne 22, 3) := by decide +kernel
theorem d_Faults_isThere_126 : decode prog_2_method_3_code 126 = .ok (.aload_n 1, 1) := by decide +kernel
theorem d_Faults_isThere_127 : decode prog_2_method_3_code 127 = .ok (.iconst 4, 1) := by decide +kernel
theorem d_Faults_isThere_128 : decode prog_2_method_3_code 128 = .ok (.iload_n 3, 1) := by decide +kernel
theorem d_Faults_isThere_129 : decode prog_2_method_3_code 129 = .ok (.invokestatic 40, 3) := by decide +kernel
theorem d_Faults_isThere_132 : decode prog_2_method_3_code 132 = .ok (.ifCond .ne 13, 3) := by decide +kernel
theorem d_Faults_isThere_135 : decode prog_2_method_3_code 135 = .ok (.aload_n 1, 1) := by decide +kernel
theorem d_Faults_isThere_136 : decode prog_2_method_3_code 136 = .ok (.bipush 7, 2) := by decide +kernel
theorem d_Faults_isThere_138 : decode prog_2_method_3_code 138 = .ok (.iload_n 3, 1) := by decide +kernel
theorem d_Faults_isThere_139 : decode prog_2_method_3_code 139 = .ok (.invokestatic 40, 3) := by decide +kernel
theorem d_Faults_isThere_142 : decode prog_2_method_3_code 142 = .ok (.ifCond .eq 7, 3) := by decide +kernel
theorem d_Faults_isThere_145 : decode prog_2_method_3_code 145 = .ok (.iconst 1, 1) := by decide +kernel
theorem d_Faults_isThere_146 : decode prog_2_method_3_code 146 = .ok (.goto 4, 3) := by decide +kernel
theorem d_Faults_isThere_149 : decode prog_2_method_3_code 149 = .ok (.iconst 0, 1) := by decide +kernel
theorem d_Faults_isThere_150 : decode prog_2_method_3_code 150 = .ok (.ireturn, 1) := by decide +kernel
theorem d_Faults_isThere_151 : decode prog_2_method_3_code 151 = .ok (.aload_n 1, 1) := by decide +kernel
theorem d_Faults_isThere_152 : decode prog_2_method_3_code 152 = .ok (.iload_n 3, 1) := by decide +kernel
theorem d_Faults_isThere_153 : decode prog_2_method_3_code 153 = .ok (.bipush 7, 2) := by decide +kernel
theorem d_Faults_isThere_155 : decode prog_2_method_3_code 155 = .ok (.invokevirtual 21, 3) := by decide +kernel
theorem d_Faults_isThere_158 : decode prog_2_method_3_code 158 = .ok (.ifCond .eq 16, 3) := by decide +kernel
theorem d_Faults_isThere_161 : decode prog_2_method_3_code 161 = .ok (.aload_n 1, 1) := by decide +kernel
theorem d_Faults_isThere_162 : decode prog_2_method_3_code 162 = .ok (.iload_n 3, 1) := by decide +kernel
theorem d_Faults_isThere_163 : decode prog_2_method_3_code 163 = .ok (.invokestatic 44, 3) := by decide +kernel
theorem d_Faults_isThere_166 : decode prog_2_method_3_code 166 = .ok (.iconst (-1), 1) := by decide +kernel
theorem d_Faults_isThere_167 : decode prog_2_method_3_code 167 = .ok (.if_icmp .ne 7, 3) := by decide +kernel
theorem d_Faults_isThere_170 : decode prog_2_method_3_code 170 = .ok (.iconst 1, 1) := by decide +kernel
theorem d_Faults_isThere_171 : decode prog_2_method_3_code 171 = .ok (.goto 4, 3) := by decide +kernel
theorem d_Faults_isThere_174 : decode prog_2_method_3_code 174 = .ok (.iconst 0, 1) := by decide +kernel
theorem d_Faults_isThere_175 : decode prog_2_method_3_code 175 = .ok (.ireturn, 1) := by decide +kernel
theorem d_Faults_isThere_176 : decode prog_2_method_3_code 176 = .ok (.aload_n 1, 1) := by decide +kernel
theorem d_Faults_isThere_177 : decode prog_2_method_3_code 177 = .ok (.iload_n 3, 1) := by decide +kernel
theorem d_Faults_isThere_178 : decode prog_2_method_3_code 178 = .ok (.bipush 7, 2) := by decide +kernel
theorem d_Faults_isThere_180 : decode prog_2_method_3_code 180 = .ok (.invokevirtual 21, 3) := by decide +kernel
theorem d_Faults_isThere_183 : decode prog_2_method_3_code 183 = .ok (.ifCond .eq 15, 3) := by decide +kernel
theorem d_Faults_isThere_186 : decode prog_2_method_3_code 186 = .ok (.aload_n 1, 1) := by decide +kernel
theorem d_Faults_isThere_187 : decode prog_2_method_3_code 187 = .ok (.iload_n 3, 1) := by decide +kernel
theorem d_Faults_isThere_188 : decode prog_2_method_3_code 188 = .ok (.invokestatic 50, 3) := by decide +kernel
theorem d_Faults_isThere_191 : decode prog_2_method_3_code 191 = .ok (.ifCond .eq 7, 3) := by decide +kernel
theorem d_Faults_isThere_194 : decode prog_2_method_3_code 194 = .ok (.iconst 1, 1) := by decide +kernel
theorem d_Faults_isThere_195 : decode prog_2_method_3_code 195 = .ok (.goto 4, 3) := by decide +kernel
theorem d_Faults_isThere_198 : decode prog_2_method_3_code 198 = .ok (.iconst 0, 1) := by decide +kernel
theorem d_Faults_isThere_199 : decode prog_2_method_3_code 199 = .ok (.ireturn, 1) := by decide +kernel
theorem d_Faults_isNeverEnded_0 : decode prog_2_method_4_code 0 = .ok (.iload_n 1, 1) := by decide +kernel
theorem d_Faults_isNeverEnded_1 : decode prog_2_method_4_code 1 = .ok (.istore_n 2, 1) := by decide +kernel
theorem d_Faults_isNeverEnded_2 : decode prog_2_method_4_code 2 = .ok (.iload_n 2, 1) := by decide +kernel
theorem d_Faults_isNeverEnded_3 : decode prog_2_method_4_code 3 = .ok (.aload_n 0, 1) := by decide +kernel
theorem d_Faults_isNeverEnded_4 : decode prog_2_method_4_code 4 = .ok (.getfield 11, 3) := by decide +kernel
theorem d_Faults_isNeverEnded_7 : decode prog_2_method_4_code 7 = .ok (.if_icmp .ge 36, 3) := by decide +kernel
theorem d_Faults_isNeverEnded_10 : decode prog_2_method_4_code 10 = .ok (.iload_n 2, 1) := by decide +kernel
theorem d_Faults_isNeverEnded_11 : decode prog_2_method_4_code 11 = .ok (.iload_n 1, 1) := by decide +kernel
theorem d_Faults_isNeverEnded_12 : decode prog_2_method_4_code 12 = .ok (.if_icmp .le 14, 3) := by decide +kernel
theorem d_Faults_isNeverEnded_15 : decode prog_2_method_4_code 15 = .ok (.aload_n 0, 1) := by decide +kernel
theorem d_Faults_isNeverEnded_16 : decode prog_2_method_4_code 16 = .ok (.iload_n 2, 1) := by decide +kernel
theorem d_Faults_isNeverEnded_17 : decode prog_2_method_4_code 17 = .ok (.iconst 0, 1) := by decide +kernel
theorem d_Faults_isNeverEnded_18 : decode prog_2_method_4_code 18 = .ok (.invokevirtual 21, 3) := by decide +kernel
theorem d_Faults_isNeverEnded_21 : decode prog_2_method_4_code 21 = .ok (.ifCond .eq 5, 3) := by decide +kernel
theorem d_Faults_isNeverEnded_24 : decode prog_2_method_4_code 24 = .ok (.iconst 1, 1) := by decide +kernel
theorem d_Faults_isNeverEnded_25 : decode prog_2_method_4_code 25 = .ok (.ireturn, 1) := by decide +kernel
theorem d_Faults_isNeverEnded_26 : decode prog_2_method_4_code 26 = .ok (.aload_n 0, 1) := by decide +kernel
theorem d_Faults_isNeverEnded_27 : decode prog_2_method_4_code 27 = .ok (.iload_n 2, 1) := by decide +kernel
theorem d_Faults_isNeverEnded_28 : decode prog_2_method_4_code 28 = .ok (.iconst 1, 1) := by decide +kernel
theorem d_Faults_isNeverEnded_29 : decode prog_2_method_4_code 29 = .ok (.invokevirtual 21, 3) := by decide +kernel
theorem d_Faults_isNeverEnded_32 : decode prog_2_method_4_code 32 = .ok (.ifCond .eq 5, 3) := by decide +kernel
theorem d_Faults_isNeverEnded_35 : decode prog_2_method_4_code 35 = .ok (.iconst 0, 1) := by decide +kernel
theorem d_Faults_isNeverEnded_36 : decode prog_2_method_4_code 36 = .ok (.ireturn, 1) := by decide +kernel
theorem d_Faults_isNeverEnded_37 : decode prog_2_method_4_code 37 = .ok (.iinc 2 1, 3) := by decide +kernel
theorem d_Faults_isNeverEnded_40 : decode prog_2_method_4_code 40 = .ok (.goto (-38), 3) := by decide +kernel
theorem d_Faults_isNeverEnded_43 : decode prog_2_method_4_code 43 = .ok (.iconst 1, 1) := by decide +kernel
theorem d_Faults_isNeverEnded_44 : decode prog_2_method_4_code 44 = .ok (.ireturn, 1) := by decide +kernel
theorem d_Faults_isStrayEnding_0 : decode prog_2_method_5_code 0 = .ok (.aload_n 0, 1) := by decide +kernel
theorem d_Faults_isStrayEnding_1 : decode prog_2_method_5_code 1 = .ok (.iload_n 1, 1) := by decide +kernel
theorem d_Faults_isStrayEnding_2 : decode prog_2_method_5_code 2 = .ok (.invokevirtual 53, 3) := by decide +kernel
theorem d_Faults_isStrayEnding_5 : decode prog_2_method_5_code 5 = .ok (.astore_n 2, 1) := by decide +kernel
theorem d_Faults_isStrayEnding_6 : decode prog_2_method_5_code 6 = .ok (.aload_n 2, 1) := by decide +kernel
theorem d_Faults_isStrayEnding_7 : decode prog_2_method_5_code 7 = .ok (.ifnull 19, 3) := by decide +kernel
theorem d_Faults_isStrayEnding_10 : decode prog_2_method_5_code 10 = .ok (.iload_n 1, 1) := by decide +kernel
theorem d_Faults_isStrayEnding_11 : decode prog_2_method_5_code 11 = .ok (.aload_n 2, 1) := by decide +kernel
theorem d_Faults_isStrayEnding_12 : decode prog_2_method_5_code 12 = .ok (.getfield 59, 3) := by decide +kernel
theorem d_Faults_isStrayEnding_15 : decode prog_2_method_5_code 15 = .ok (.if_icmp .gt 15, 3) := by decide +kernel
theorem d_Faults_isStrayEnding_18 : decode prog_2_method_5_code 18 = .ok (.iload_n 1, 1) := by decide +kernel
theorem d_Faults_isStrayEnding_19 : decode prog_2_method_5_code 19 = .ok (.aload_n 2, 1) := by decide +kernel
theorem d_Faults_isStrayEnding_20 : decode prog_2_method_5_code 20 = .ok (.getfield 64, 3) := by decide +kernel
theorem d_Faults_isStrayEnding_23 : decode prog_2_method_5_code 23 = .ok (.if_icmp .eq 7, 3) := by decide +kernel
theorem d_Faults_isStrayEnding_26 : decode prog_2_method_5_code 26 = .ok (.iconst 1, 1) := by decide +kernel
theorem d_Faults_isStrayEnding_27 : decode prog_2_method_5_code 27 = .ok (.goto 4, 3) := by decide +kernel
theorem d_Faults_isStrayEnding_30 : decode prog_2_method_5_code 30 = .ok (.iconst 0, 1) := by decide +kernel
theorem d_Faults_isStrayEnding_31 : decode prog_2_method_5_code 31 = .ok (.ireturn, 1) := by decide +kernel
theorem d_Repeats_ofEnding_0 : decode prog_8_method_9_code 0 = .ok (.iload_n 1, 1) := by decide +kernel
theorem d_Repeats_ofEnding_1 : decode prog_8_method_9_code 1 = .ok (.ifCond .lt 21, 3) := by decide +kernel
theorem d_Repeats_ofEnding_4 : decode prog_8_method_9_code 4 = .ok (.iload_n 1, 1) := by decide +kernel
theorem d_Repeats_ofEnding_5 : decode prog_8_method_9_code 5 = .ok (.aload_n 0, 1) := by decide +kernel
theorem d_Repeats_ofEnding_6 : decode prog_8_method_9_code 6 = .ok (.getfield 20, 3) := by decide +kernel
theorem d_Repeats_ofEnding_9 : decode prog_8_method_9_code 9 = .ok (.arraylength, 1) := by decide +kernel
theorem d_Repeats_ofEnding_10 : decode prog_8_method_9_code 10 = .ok (.if_icmp .ge 12, 3) := by decide +kernel
theorem d_Repeats_ofEnding_13 : decode prog_8_method_9_code 13 = .ok (.aload_n 0, 1) := by decide +kernel
theorem d_Repeats_ofEnding_14 : decode prog_8_method_9_code 14 = .ok (.getfield 20, 3) := by decide +kernel
theorem d_Repeats_ofEnding_17 : decode prog_8_method_9_code 17 = .ok (.iload_n 1, 1) := by decide +kernel
theorem d_Repeats_ofEnding_18 : decode prog_8_method_9_code 18 = .ok (.aaload, 1) := by decide +kernel
theorem d_Repeats_ofEnding_19 : decode prog_8_method_9_code 19 = .ok (.goto 4, 3) := by decide +kernel
theorem d_Repeats_ofEnding_22 : decode prog_8_method_9_code 22 = .ok (.aconst_null, 1) := by decide +kernel
theorem d_Repeats_ofEnding_23 : decode prog_8_method_9_code 23 = .ok (.areturn, 1) := by decide +kernel
theorem d_Faults_isUnlikeItsRepeat_0 : decode prog_2_method_6_code 0 = .ok (.aload_n 1, 1) := by decide +kernel
theorem d_Faults_isUnlikeItsRepeat_1 : decode prog_2_method_6_code 1 = .ok (.iload_n 2, 1) := by decide +kernel
theorem d_Faults_isUnlikeItsRepeat_2 : decode prog_2_method_6_code 2 = .ok (.invokevirtual 67, 3) := by decide +kernel
theorem d_Faults_isUnlikeItsRepeat_5 : decode prog_2_method_6_code 5 = .ok (.astore_n 3, 1) := by decide +kernel
theorem d_Faults_isUnlikeItsRepeat_6 : decode prog_2_method_6_code 6 = .ok (.aload_n 3, 1) := by decide +kernel
theorem d_Faults_isUnlikeItsRepeat_7 : decode prog_2_method_6_code 7 = .ok (.ifnull 10, 3) := by decide +kernel
theorem d_Faults_isUnlikeItsRepeat_10 : decode prog_2_method_6_code 10 = .ok (.aload_n 3, 1) := by decide +kernel
theorem d_Faults_isUnlikeItsRepeat_11 : decode prog_2_method_6_code 11 = .ok (.invokevirtual 70, 3) := by decide +kernel
theorem d_Faults_isUnlikeItsRepeat_14 : decode prog_2_method_6_code 14 = .ok (.ifCond .ne 5, 3) := by decide +kernel
theorem d_Faults_isUnlikeItsRepeat_17 : decode prog_2_method_6_code 17 = .ok (.iconst 0, 1) := by decide +kernel
theorem d_Faults_isUnlikeItsRepeat_18 : decode prog_2_method_6_code 18 = .ok (.ireturn, 1) := by decide +kernel
theorem d_Faults_isUnlikeItsRepeat_19 : decode prog_2_method_6_code 19 = .ok (.aload_n 0, 1) := by decide +kernel
theorem d_Faults_isUnlikeItsRepeat_20 : decode prog_2_method_6_code 20 = .ok (.iload_n 2, 1) := by decide +kernel
theorem d_Faults_isUnlikeItsRepeat_21 : decode prog_2_method_6_code 21 = .ok (.iconst 1, 1) := by decide +kernel
theorem d_Faults_isUnlikeItsRepeat_22 : decode prog_2_method_6_code 22 = .ok (.invokevirtual 74, 3) := by decide +kernel
theorem d_Faults_isUnlikeItsRepeat_25 : decode prog_2_method_6_code 25 = .ok (.aload_n 3, 1) := by decide +kernel
theorem d_Faults_isUnlikeItsRepeat_26 : decode prog_2_method_6_code 26 = .ok (.getfield 78, 3) := by decide +kernel
theorem d_Faults_isUnlikeItsRepeat_29 : decode prog_2_method_6_code 29 = .ok (.if_icmp .ne 14, 3) := by decide +kernel
theorem d_Faults_isUnlikeItsRepeat_32 : decode prog_2_method_6_code 32 = .ok (.aload_n 1, 1) := by decide +kernel
theorem d_Faults_isUnlikeItsRepeat_33 : decode prog_2_method_6_code 33 = .ok (.iload_n 2, 1) := by decide +kernel
theorem d_Faults_isUnlikeItsRepeat_34 : decode prog_2_method_6_code 34 = .ok (.iconst 1, 1) := by decide +kernel
theorem d_Faults_isUnlikeItsRepeat_35 : decode prog_2_method_6_code 35 = .ok (.iadd, 1) := by decide +kernel
theorem d_Faults_isUnlikeItsRepeat_36 : decode prog_2_method_6_code 36 = .ok (.invokevirtual 53, 3) := by decide +kernel
theorem d_Faults_isUnlikeItsRepeat_39 : decode prog_2_method_6_code 39 = .ok (.aload_n 3, 1) := by decide +kernel
theorem d_Faults_isUnlikeItsRepeat_40 : decode prog_2_method_6_code 40 = .ok (.if_acmp .eq 7, 3) := by decide +kernel
theorem d_Faults_isUnlikeItsRepeat_43 : decode prog_2_method_6_code 43 = .ok (.iconst 1, 1) := by decide +kernel
theorem d_Faults_isUnlikeItsRepeat_44 : decode prog_2_method_6_code 44 = .ok (.goto 4, 3) := by decide +kernel
theorem d_Faults_isUnlikeItsRepeat_47 : decode prog_2_method_6_code 47 = .ok (.iconst 0, 1) := by decide +kernel
theorem d_Faults_isUnlikeItsRepeat_48 : decode prog_2_method_6_code 48 = .ok (.ireturn, 1) := by decide +kernel
theorem d_Faults_isFirstOfWrongPasses_0 : decode prog_2_method_7_code 0 = .ok (.aload_n 1, 1) := by decide +kernel
theorem d_Faults_isFirstOfWrongPasses_1 : decode prog_2_method_7_code 1 = .ok (.iload_n 2, 1) := by decide +kernel
theorem d_Faults_isFirstOfWrongPasses_2 : decode prog_2_method_7_code 2 = .ok (.invokevirtual 81, 3) := by decide +kernel
theorem d_Faults_isFirstOfWrongPasses_5 : decode prog_2_method_7_code 5 = .ok (.astore_n 3, 1) := by decide +kernel
theorem d_Faults_isFirstOfWrongPasses_6 : decode prog_2_method_7_code 6 = .ok (.aload_n 3, 1) := by decide +kernel
theorem d_Faults_isFirstOfWrongPasses_7 : decode prog_2_method_7_code 7 = .ok (.ifnull 18, 3) := by decide +kernel
theorem d_Faults_isFirstOfWrongPasses_10 : decode prog_2_method_7_code 10 = .ok (.aload_n 3, 1) := by decide +kernel
theorem d_Faults_isFirstOfWrongPasses_11 : decode prog_2_method_7_code 11 = .ok (.getfield 84, 3) := by decide +kernel
theorem d_Faults_isFirstOfWrongPasses_14 : decode prog_2_method_7_code 14 = .ok (.iload_n 2, 1) := by decide +kernel
theorem d_Faults_isFirstOfWrongPasses_15 : decode prog_2_method_7_code 15 = .ok (.if_icmp .ne 10, 3) := by decide +kernel
theorem d_Faults_isFirstOfWrongPasses_18 : decode prog_2_method_7_code 18 = .ok (.aload_n 3, 1) := by decide +kernel
theorem d_Faults_isFirstOfWrongPasses_19 : decode prog_2_method_7_code 19 = .ok (.invokevirtual 70, 3) := by decide +kernel
theorem d_Faults_isFirstOfWrongPasses_22 : decode prog_2_method_7_code 22 = .ok (.ifCond .ne 5, 3) := by decide +kernel
theorem d_Faults_isFirstOfWrongPasses_25 : decode prog_2_method_7_code 25 = .ok (.iconst 0, 1) := by decide +kernel
theorem d_Faults_isFirstOfWrongPasses_26 : decode prog_2_method_7_code 26 = .ok (.ireturn, 1) := by decide +kernel
theorem d_Faults_isFirstOfWrongPasses_27 : decode prog_2_method_7_code 27 = .ok (.iconst 0, 1) := by decide +kernel
theorem d_Faults_isFirstOfWrongPasses_28 : decode prog_2_method_7_code 28 = .ok (.istore 4, 2) := by decide +kernel
theorem d_Faults_isFirstOfWrongPasses_30 : decode prog_2_method_7_code 30 = .ok (.iload_n 2, 1) := by decide +kernel
theorem d_Faults_isFirstOfWrongPasses_31 : decode prog_2_method_7_code 31 = .ok (.istore 5, 2) := by decide +kernel
theorem d_Faults_isFirstOfWrongPasses_33 : decode prog_2_method_7_code 33 = .ok (.iload 5, 2) := by decide +kernel
theorem d_Faults_isFirstOfWrongPasses_35 : decode prog_2_method_7_code 35 = .ok (.aload_n 3, 1) := by decide +kernel
theorem d_Faults_isFirstOfWrongPasses_36 : decode prog_2_method_7_code 36 = .ok (.getfield 87, 3) := by decide +kernel
theorem d_Faults_isFirstOfWrongPasses_39 : decode prog_2_method_7_code 39 = .ok (.if_icmp .gt 45, 3) := by decide +kernel
theorem d_Faults_isFirstOfWrongPasses_42 : decode prog_2_method_7_code 42 = .ok (.aload_n 1, 1) := by decide +kernel
theorem d_Faults_isFirstOfWrongPasses_43 : decode prog_2_method_7_code 43 = .ok (.iload 5, 2) := by decide +kernel
theorem d_Faults_isFirstOfWrongPasses_45 : decode prog_2_method_7_code 45 = .ok (.invokevirtual 53, 3) := by decide +kernel
theorem d_Faults_isFirstOfWrongPasses_48 : decode prog_2_method_7_code 48 = .ok (.aload_n 3, 1) := by decide +kernel
theorem d_Faults_isFirstOfWrongPasses_49 : decode prog_2_method_7_code 49 = .ok (.if_acmp .ne 29, 3) := by decide +kernel
theorem d_Faults_isFirstOfWrongPasses_52 : decode prog_2_method_7_code 52 = .ok (.aload_n 0, 1) := by decide +kernel
theorem d_Faults_isFirstOfWrongPasses_53 : decode prog_2_method_7_code 53 = .ok (.iload 5, 2) := by decide +kernel
theorem d_Faults_isFirstOfWrongPasses_55 : decode prog_2_method_7_code 55 = .ok (.iconst 2, 1) := by decide +kernel
theorem d_Faults_isFirstOfWrongPasses_56 : decode prog_2_method_7_code 56 = .ok (.invokevirtual 74, 3) := by decide +kernel
theorem d_Faults_isFirstOfWrongPasses_59 : decode prog_2_method_7_code 59 = .ok (.istore 6, 2) := by decide +kernel
theorem d_Faults_isFirstOfWrongPasses_61 : decode prog_2_method_7_code 61 = .ok (.iload 4, 2) := by decide +kernel
theorem d_Faults_isFirstOfWrongPasses_63 : decode prog_2_method_7_code 63 = .ok (.iload 6, 2) := by decide +kernel
theorem d_Faults_isFirstOfWrongPasses_65 : decode prog_2_method_7_code 65 = .ok (.iand, 1) := by decide +kernel
theorem d_Faults_isFirstOfWrongPasses_66 : decode prog_2_method_7_code 66 = .ok (.ifCond .eq 5, 3) := by decide +kernel
theorem d_Faults_isFirstOfWrongPasses_69 : decode prog_2_method_7_code 69 = .ok (.iconst 1, 1) := by decide +kernel
theorem d_Faults_isFirstOfWrongPasses_70 : decode prog_2_method_7_code 70 = .ok (.ireturn, 1) := by decide +kernel
theorem d_Faults_isFirstOfWrongPasses_71 : decode prog_2_method_7_code 71 = .ok (.iload 4, 2) := by decide +kernel
theorem d_Faults_isFirstOfWrongPasses_73 : decode prog_2_method_7_code 73 = .ok (.iload 6, 2) := by decide +kernel
theorem d_Faults_isFirstOfWrongPasses_75 : decode prog_2_method_7_code 75 = .ok (.ior, 1) := by decide +kernel
theorem d_Faults_isFirstOfWrongPasses_76 : decode prog_2_method_7_code 76 = .ok (.istore 4, 2) := by decide +kernel
theorem d_Faults_isFirstOfWrongPasses_78 : decode prog_2_method_7_code 78 = .ok (.iinc 5 1, 3) := by decide +kernel
theorem d_Faults_isFirstOfWrongPasses_81 : decode prog_2_method_7_code 81 = .ok (.goto (-48), 3) := by decide +kernel
theorem d_Faults_isFirstOfWrongPasses_84 : decode prog_2_method_7_code 84 = .ok (.iconst 1, 1) := by decide +kernel
theorem d_Faults_isFirstOfWrongPasses_85 : decode prog_2_method_7_code 85 = .ok (.aload_n 3, 1) := by decide +kernel
theorem d_Faults_isFirstOfWrongPasses_86 : decode prog_2_method_7_code 86 = .ok (.getfield 78, 3) := by decide +kernel
theorem d_Faults_isFirstOfWrongPasses_89 : decode prog_2_method_7_code 89 = .ok (.ishl, 1) := by decide +kernel
theorem d_Faults_isFirstOfWrongPasses_90 : decode prog_2_method_7_code 90 = .ok (.iconst 1, 1) := by decide +kernel
theorem d_Faults_isFirstOfWrongPasses_91 : decode prog_2_method_7_code 91 = .ok (.isub, 1) := by decide +kernel
theorem d_Faults_isFirstOfWrongPasses_92 : decode prog_2_method_7_code 92 = .ok (.istore 5, 2) := by decide +kernel
theorem d_Faults_isFirstOfWrongPasses_94 : decode prog_2_method_7_code 94 = .ok (.iload 4, 2) := by decide +kernel
theorem d_Faults_isFirstOfWrongPasses_96 : decode prog_2_method_7_code 96 = .ok (.iload 5, 2) := by decide +kernel
theorem d_Faults_isFirstOfWrongPasses_98 : decode prog_2_method_7_code 98 = .ok (.if_icmp .ne 18, 3) := by decide +kernel
theorem d_Faults_isFirstOfWrongPasses_101 : decode prog_2_method_7_code 101 = .ok (.aload_n 0, 1) := by decide +kernel
theorem d_Faults_isFirstOfWrongPasses_102 : decode prog_2_method_7_code 102 = .ok (.aload_n 3, 1) := by decide +kernel
theorem d_Faults_isFirstOfWrongPasses_103 : decode prog_2_method_7_code 103 = .ok (.getfield 87, 3) := by decide +kernel
theorem d_Faults_isFirstOfWrongPasses_106 : decode prog_2_method_7_code 106 = .ok (.aload_n 3, 1) := by decide +kernel
theorem d_Faults_isFirstOfWrongPasses_107 : decode prog_2_method_7_code 107 = .ok (.getfield 78, 3) := by decide +kernel
theorem d_Faults_isFirstOfWrongPasses_110 : decode prog_2_method_7_code 110 = .ok (.invokevirtual 90, 3) := by decide +kernel
theorem d_Faults_isFirstOfWrongPasses_113 : decode prog_2_method_7_code 113 = .ok (.ifCond .ne 7, 3) := by decide +kernel
theorem d_Faults_isFirstOfWrongPasses_116 : decode prog_2_method_7_code 116 = .ok (.iconst 1, 1) := by decide +kernel
theorem d_Faults_isFirstOfWrongPasses_117 : decode prog_2_method_7_code 117 = .ok (.goto 4, 3) := by decide +kernel
theorem d_Faults_isFirstOfWrongPasses_120 : decode prog_2_method_7_code 120 = .ok (.iconst 0, 1) := by decide +kernel
theorem d_Faults_isFirstOfWrongPasses_121 : decode prog_2_method_7_code 121 = .ok (.ireturn, 1) := by decide +kernel
theorem d_Repeats_around_0 : decode prog_8_method_10_code 0 = .ok (.iconst 0, 1) := by decide +kernel
theorem d_Repeats_around_1 : decode prog_8_method_10_code 1 = .ok (.istore_n 2, 1) := by decide +kernel
theorem d_Repeats_around_2 : decode prog_8_method_10_code 2 = .ok (.iload_n 2, 1) := by decide +kernel
theorem d_Repeats_around_3 : decode prog_8_method_10_code 3 = .ok (.aload_n 0, 1) := by decide +kernel
theorem d_Repeats_around_4 : decode prog_8_method_10_code 4 = .ok (.getfield 24, 3) := by decide +kernel
theorem d_Repeats_around_7 : decode prog_8_method_10_code 7 = .ok (.if_icmp .ge 29, 3) := by decide +kernel
theorem d_Repeats_around_10 : decode prog_8_method_10_code 10 = .ok (.aload_n 0, 1) := by decide +kernel
theorem d_Repeats_around_11 : decode prog_8_method_10_code 11 = .ok (.getfield 11, 3) := by decide +kernel
theorem d_Repeats_around_14 : decode prog_8_method_10_code 14 = .ok (.iload_n 2, 1) := by decide +kernel
theorem d_Repeats_around_15 : decode prog_8_method_10_code 15 = .ok (.aaload, 1) := by decide +kernel
theorem d_Repeats_around_16 : decode prog_8_method_10_code 16 = .ok (.iload_n 1, 1) := by decide +kernel
theorem d_Repeats_around_17 : decode prog_8_method_10_code 17 = .ok (.invokevirtual 88, 3) := by decide +kernel
theorem d_Repeats_around_20 : decode prog_8_method_10_code 20 = .ok (.ifCond .eq 10, 3) := by decide +kernel
theorem d_Repeats_around_23 : decode prog_8_method_10_code 23 = .ok (.aload_n 0, 1) := by decide +kernel
theorem d_Repeats_around_24 : decode prog_8_method_10_code 24 = .ok (.getfield 11, 3) := by decide +kernel
theorem d_Repeats_around_27 : decode prog_8_method_10_code 27 = .ok (.iload_n 2, 1) := by decide +kernel
theorem d_Repeats_around_28 : decode prog_8_method_10_code 28 = .ok (.aaload, 1) := by decide +kernel
theorem d_Repeats_around_29 : decode prog_8_method_10_code 29 = .ok (.areturn, 1) := by decide +kernel
theorem d_Repeats_around_30 : decode prog_8_method_10_code 30 = .ok (.iinc 2 1, 3) := by decide +kernel
theorem d_Repeats_around_33 : decode prog_8_method_10_code 33 = .ok (.goto (-31), 3) := by decide +kernel
theorem d_Repeats_around_36 : decode prog_8_method_10_code 36 = .ok (.aconst_null, 1) := by decide +kernel
theorem d_Repeats_around_37 : decode prog_8_method_10_code 37 = .ok (.areturn, 1) := by decide +kernel
theorem d_Faults_isSecond_0 : decode prog_2_method_8_code 0 = .ok (.aload_n 0, 1) := by decide +kernel
theorem d_Faults_isSecond_1 : decode prog_2_method_8_code 1 = .ok (.iload_n 2, 1) := by decide +kernel
theorem d_Faults_isSecond_2 : decode prog_2_method_8_code 2 = .ok (.iload_n 1, 1) := by decide +kernel
theorem d_Faults_isSecond_3 : decode prog_2_method_8_code 3 = .ok (.invokevirtual 21, 3) := by decide +kernel
theorem d_Faults_isSecond_6 : decode prog_2_method_8_code 6 = .ok (.ifCond .eq 20, 3) := by decide +kernel
theorem d_Faults_isSecond_9 : decode prog_2_method_8_code 9 = .ok (.aload_n 0, 1) := by decide +kernel
theorem d_Faults_isSecond_10 : decode prog_2_method_8_code 10 = .ok (.iload_n 1, 1) := by decide +kernel
theorem d_Faults_isSecond_11 : decode prog_2_method_8_code 11 = .ok (.iconst 0, 1) := by decide +kernel
theorem d_Faults_isSecond_12 : decode prog_2_method_8_code 12 = .ok (.iload_n 2, 1) := by decide +kernel
theorem d_Faults_isSecond_13 : decode prog_2_method_8_code 13 = .ok (.iconst 1, 1) := by decide +kernel
theorem d_Faults_isSecond_14 : decode prog_2_method_8_code 14 = .ok (.isub, 1) := by decide +kernel
theorem d_Faults_isSecond_15 : decode prog_2_method_8_code 15 = .ok (.invokevirtual 93, 3) := by decide +kernel
theorem d_Faults_isSecond_18 : decode prog_2_method_8_code 18 = .ok (.iconst (-1), 1) := by decide +kernel
theorem d_Faults_isSecond_19 : decode prog_2_method_8_code 19 = .ok (.if_icmp .eq 7, 3) := by decide +kernel
theorem d_Faults_isSecond_22 : decode prog_2_method_8_code 22 = .ok (.iconst 1, 1) := by decide +kernel
theorem d_Faults_isSecond_23 : decode prog_2_method_8_code 23 = .ok (.goto 4, 3) := by decide +kernel
theorem d_Faults_isSecond_26 : decode prog_2_method_8_code 26 = .ok (.iconst 0, 1) := by decide +kernel
theorem d_Faults_isSecond_27 : decode prog_2_method_8_code 27 = .ok (.ireturn, 1) := by decide +kernel
theorem d_Faults_lacksItsWay_0 : decode prog_2_method_9_code 0 = .ok (.aload_n 0, 1) := by decide +kernel
theorem d_Faults_lacksItsWay_1 : decode prog_2_method_9_code 1 = .ok (.iload_n 1, 1) := by decide +kernel
theorem d_Faults_lacksItsWay_2 : decode prog_2_method_9_code 2 = .ok (.invokestatic 44, 3) := by decide +kernel
theorem d_Faults_lacksItsWay_5 : decode prog_2_method_9_code 5 = .ok (.istore_n 2, 1) := by decide +kernel
theorem d_Faults_lacksItsWay_6 : decode prog_2_method_9_code 6 = .ok (.aload_n 0, 1) := by decide +kernel
theorem d_Faults_lacksItsWay_7 : decode prog_2_method_9_code 7 = .ok (.iload_n 1, 1) := by decide +kernel
theorem d_Faults_lacksItsWay_8 : decode prog_2_method_9_code 8 = .ok (.bipush 7, 2) := by decide +kernel
theorem d_Faults_lacksItsWay_10 : decode prog_2_method_9_code 10 = .ok (.invokevirtual 74, 3) := by decide +kernel
theorem d_Faults_lacksItsWay_13 : decode prog_2_method_9_code 13 = .ok (.invokestatic 97, 3) := by decide +kernel
theorem d_Faults_lacksItsWay_16 : decode prog_2_method_9_code 16 = .ok (.istore_n 3, 1) := by decide +kernel
theorem d_Faults_lacksItsWay_17 : decode prog_2_method_9_code 17 = .ok (.iload_n 3, 1) := by decide +kernel
theorem d_Faults_lacksItsWay_18 : decode prog_2_method_9_code 18 = .ok (.iconst 1, 1) := by decide +kernel
theorem d_Faults_lacksItsWay_19 : decode prog_2_method_9_code 19 = .ok (.if_icmp .ne 20, 3) := by decide +kernel
theorem d_Faults_lacksItsWay_22 : decode prog_2_method_9_code 22 = .ok (.aload_n 0, 1) := by decide +kernel
theorem d_Faults_lacksItsWay_23 : decode prog_2_method_9_code 23 = .ok (.iconst 5, 1) := by decide +kernel
theorem d_Faults_lacksItsWay_24 : decode prog_2_method_9_code 24 = .ok (.iload_n 2, 1) := by decide +kernel
theorem d_Faults_lacksItsWay_25 : decode prog_2_method_9_code 25 = .ok (.iload_n 1, 1) := by decide +kernel
theorem d_Faults_lacksItsWay_26 : decode prog_2_method_9_code 26 = .ok (.invokevirtual 93, 3) := by decide +kernel
theorem d_Faults_lacksItsWay_29 : decode prog_2_method_9_code 29 = .ok (.iconst (-1), 1) := by decide +kernel
theorem d_Faults_lacksItsWay_30 : decode prog_2_method_9_code 30 = .ok (.if_icmp .ne 7, 3) := by decide +kernel
theorem d_Faults_lacksItsWay_33 : decode prog_2_method_9_code 33 = .ok (.iconst 1, 1) := by decide +kernel
theorem d_Faults_lacksItsWay_34 : decode prog_2_method_9_code 34 = .ok (.goto 4, 3) := by decide +kernel
theorem d_Faults_lacksItsWay_37 : decode prog_2_method_9_code 37 = .ok (.iconst 0, 1) := by decide +kernel
theorem d_Faults_lacksItsWay_38 : decode prog_2_method_9_code 38 = .ok (.ireturn, 1) := by decide +kernel
theorem d_Faults_lacksItsWay_39 : decode prog_2_method_9_code 39 = .ok (.iload_n 3, 1) := by decide +kernel
theorem d_Faults_lacksItsWay_40 : decode prog_2_method_9_code 40 = .ok (.iconst 2, 1) := by decide +kernel
theorem d_Faults_lacksItsWay_41 : decode prog_2_method_9_code 41 = .ok (.if_icmp .ne 39, 3) := by decide +kernel
theorem d_Faults_lacksItsWay_44 : decode prog_2_method_9_code 44 = .ok (.aload_n 0, 1) := by decide +kernel
theorem d_Faults_lacksItsWay_45 : decode prog_2_method_9_code 45 = .ok (.bipush 6, 2) := by decide +kernel
theorem d_Faults_lacksItsWay_47 : decode prog_2_method_9_code 47 = .ok (.iload_n 2, 1) := by decide +kernel
theorem d_Faults_lacksItsWay_48 : decode prog_2_method_9_code 48 = .ok (.iload_n 1, 1) := by decide +kernel
theorem d_Faults_lacksItsWay_49 : decode prog_2_method_9_code 49 = .ok (.invokevirtual 93, 3) := by decide +kernel
theorem d_Faults_lacksItsWay_52 : decode prog_2_method_9_code 52 = .ok (.iconst (-1), 1) := by decide +kernel
theorem d_Faults_lacksItsWay_53 : decode prog_2_method_9_code 53 = .ok (.if_icmp .eq 21, 3) := by decide +kernel
theorem d_Faults_lacksItsWay_56 : decode prog_2_method_9_code 56 = .ok (.aload_n 0, 1) := by decide +kernel
theorem d_Faults_lacksItsWay_57 : decode prog_2_method_9_code 57 = .ok (.iconst 4, 1) := by decide +kernel
theorem d_Faults_lacksItsWay_58 : decode prog_2_method_9_code 58 = .ok (.iload_n 1, 1) := by decide +kernel
theorem d_Faults_lacksItsWay_59 : decode prog_2_method_9_code 59 = .ok (.iconst 1, 1) := by decide +kernel
theorem d_Faults_lacksItsWay_60 : decode prog_2_method_9_code 60 = .ok (.iadd, 1) := by decide +kernel
theorem d_Faults_lacksItsWay_61 : decode prog_2_method_9_code 61 = .ok (.aload_n 0, 1) := by decide +kernel
theorem d_Faults_lacksItsWay_62 : decode prog_2_method_9_code 62 = .ok (.getfield 11, 3) := by decide +kernel
theorem d_Faults_lacksItsWay_65 : decode prog_2_method_9_code 65 = .ok (.iconst 1, 1) := by decide +kernel
theorem d_Faults_lacksItsWay_66 : decode prog_2_method_9_code 66 = .ok (.isub, 1) := by decide +kernel
theorem d_Faults_lacksItsWay_67 : decode prog_2_method_9_code 67 = .ok (.invokevirtual 93, 3) := by decide +kernel
theorem d_Faults_lacksItsWay_70 : decode prog_2_method_9_code 70 = .ok (.iconst (-1), 1) := by decide +kernel
theorem d_Faults_lacksItsWay_71 : decode prog_2_method_9_code 71 = .ok (.if_icmp .ne 7, 3) := by decide +kernel
theorem d_Faults_lacksItsWay_74 : decode prog_2_method_9_code 74 = .ok (.iconst 1, 1) := by decide +kernel
theorem d_Faults_lacksItsWay_75 : decode prog_2_method_9_code 75 = .ok (.goto 4, 3) := by decide +kernel
theorem d_Faults_lacksItsWay_78 : decode prog_2_method_9_code 78 = .ok (.iconst 0, 1) := by decide +kernel
theorem d_Faults_lacksItsWay_79 : decode prog_2_method_9_code 79 = .ok (.ireturn, 1) := by decide +kernel
theorem d_Faults_lacksItsWay_80 : decode prog_2_method_9_code 80 = .ok (.iconst 0, 1) := by decide +kernel
theorem d_Faults_lacksItsWay_81 : decode prog_2_method_9_code 81 = .ok (.ireturn, 1) := by decide +kernel
theorem d_Road_walk_0 : decode prog_9_method_2_code 0 = .ok (.aload_n 0, 1) := by decide +kernel
theorem d_Road_walk_1 : decode prog_9_method_2_code 1 = .ok (.iconst 0, 1) := by decide +kernel
theorem d_Road_walk_2 : decode prog_9_method_2_code 2 = .ok (.putfield 15, 3) := by decide +kernel
theorem d_Road_walk_5 : decode prog_9_method_2_code 5 = .ok (.aload_n 0, 1) := by decide +kernel
theorem d_Road_walk_6 : decode prog_9_method_2_code 6 = .ok (.iconst 0, 1) := by decide +kernel
theorem d_Road_walk_7 : decode prog_9_method_2_code 7 = .ok (.putfield 19, 3) := by decide +kernel
theorem d_Road_walk_10 : decode prog_9_method_2_code 10 = .ok (.aload_n 0, 1) := by decide +kernel
theorem d_Road_walk_11 : decode prog_9_method_2_code 11 = .ok (.iconst 0, 1) := by decide +kernel
theorem d_Road_walk_12 : decode prog_9_method_2_code 12 = .ok (.putfield 23, 3) := by decide +kernel
theorem d_Road_walk_15 : decode prog_9_method_2_code 15 = .ok (.aload_n 0, 1) := by decide +kernel
theorem d_Road_walk_16 : decode prog_9_method_2_code 16 = .ok (.iconst 0, 1) := by decide +kernel
theorem d_Road_walk_17 : decode prog_9_method_2_code 17 = .ok (.putfield 26, 3) := by decide +kernel
theorem d_Road_walk_20 : decode prog_9_method_2_code 20 = .ok (.aload_n 0, 1) := by decide +kernel
theorem d_Road_walk_21 : decode prog_9_method_2_code 21 = .ok (.iconst 1, 1) := by decide +kernel
theorem d_Road_walk_22 : decode prog_9_method_2_code 22 = .ok (.putfield 29, 3) := by decide +kernel
theorem d_Road_walk_25 : decode prog_9_method_2_code 25 = .ok (.aload_n 2, 1) := by decide +kernel
theorem d_Road_walk_26 : decode prog_9_method_2_code 26 = .ok (.invokevirtual 32, 3) := by decide +kernel
theorem d_Road_walk_29 : decode prog_9_method_2_code 29 = .ok (.iconst 0, 1) := by decide +kernel
theorem d_Road_walk_30 : decode prog_9_method_2_code 30 = .ok (.istore_n 3, 1) := by decide +kernel
theorem d_Road_walk_31 : decode prog_9_method_2_code 31 = .ok (.iload_n 3, 1) := by decide +kernel
theorem d_Road_walk_32 : decode prog_9_method_2_code 32 = .ok (.iconst (-1), 1) := by decide +kernel
theorem d_Road_walk_33 : decode prog_9_method_2_code 33 = .ok (.if_icmp .eq 75, 3) := by decide +kernel
theorem d_Road_walk_36 : decode prog_9_method_2_code 36 = .ok (.aload_n 0, 1) := by decide +kernel
theorem d_Road_walk_37 : decode prog_9_method_2_code 37 = .ok (.getfield 15, 3) := by decide +kernel
theorem d_Road_walk_40 : decode prog_9_method_2_code 40 = .ok (.aload_n 0, 1) := by decide +kernel
theorem d_Road_walk_41 : decode prog_9_method_2_code 41 = .ok (.getfield 9, 3) := by decide +kernel
theorem d_Road_walk_44 : decode prog_9_method_2_code 44 = .ok (.arraylength, 1) := by decide +kernel
theorem d_Road_walk_45 : decode prog_9_method_2_code 45 = .ok (.if_icmp .ge 63, 3) := by decide +kernel
theorem d_Road_walk_48 : decode prog_9_method_2_code 48 = .ok (.aload_n 0, 1) := by decide +kernel
theorem d_Road_walk_49 : decode prog_9_method_2_code 49 = .ok (.iload_n 3, 1) := by decide +kernel
theorem d_Road_walk_50 : decode prog_9_method_2_code 50 = .ok (.aload_n 1, 1) := by decide +kernel
theorem d_Road_walk_51 : decode prog_9_method_2_code 51 = .ok (.aload_n 2, 1) := by decide +kernel
theorem d_Road_walk_52 : decode prog_9_method_2_code 52 = .ok (.invokevirtual 37, 3) := by decide +kernel
theorem d_Road_walk_55 : decode prog_9_method_2_code 55 = .ok (.istore 4, 2) := by decide +kernel
theorem d_Road_walk_57 : decode prog_9_method_2_code 57 = .ok (.aload_n 0, 1) := by decide +kernel
theorem d_Road_walk_58 : decode prog_9_method_2_code 58 = .ok (.iload 4, 2) := by decide +kernel
theorem d_Road_walk_60 : decode prog_9_method_2_code 60 = .ok (.aload_n 2, 1) := by decide +kernel
theorem d_Road_walk_61 : decode prog_9_method_2_code 61 = .ok (.invokevirtual 41, 3) := by decide +kernel
theorem d_Road_walk_64 : decode prog_9_method_2_code 64 = .ok (.istore 5, 2) := by decide +kernel
theorem d_Road_walk_66 : decode prog_9_method_2_code 66 = .ok (.iload 4, 2) := by decide +kernel
theorem d_Road_walk_68 : decode prog_9_method_2_code 68 = .ok (.aload_n 1, 1) := by decide +kernel
theorem d_Road_walk_69 : decode prog_9_method_2_code 69 = .ok (.aload_n 2, 1) := by decide +kernel
theorem d_Road_walk_70 : decode prog_9_method_2_code 70 = .ok (.invokestatic 45, 3) := by decide +kernel
theorem d_Road_walk_73 : decode prog_9_method_2_code 73 = .ok (.aload_n 0, 1) := by decide +kernel
theorem d_Road_walk_74 : decode prog_9_method_2_code 74 = .ok (.getfield 9, 3) := by decide +kernel
theorem d_Road_walk_77 : decode prog_9_method_2_code 77 = .ok (.aload_n 0, 1) := by decide +kernel
theorem d_Road_walk_78 : decode prog_9_method_2_code 78 = .ok (.getfield 15, 3) := by decide +kernel
theorem d_Road_walk_81 : decode prog_9_method_2_code 81 = .ok (.iload 4, 2) := by decide +kernel
theorem d_Road_walk_83 : decode prog_9_method_2_code 83 = .ok (.iastore, 1) := by decide +kernel
theorem d_Road_walk_84 : decode prog_9_method_2_code 84 = .ok (.aload_n 0, 1) := by decide +kernel
theorem d_Road_walk_85 : decode prog_9_method_2_code 85 = .ok (.dup, 1) := by decide +kernel
theorem d_Road_walk_86 : decode prog_9_method_2_code 86 = .ok (.getfield 15, 3) := by decide +kernel
theorem d_Road_walk_89 : decode prog_9_method_2_code 89 = .ok (.iconst 1, 1) := by decide +kernel
theorem d_Road_walk_90 : decode prog_9_method_2_code 90 = .ok (.iadd, 1) := by decide +kernel
theorem d_Road_walk_91 : decode prog_9_method_2_code 91 = .ok (.putfield 15, 3) := by decide +kernel
theorem d_Road_walk_94 : decode prog_9_method_2_code 94 = .ok (.aload_n 0, 1) := by decide +kernel
theorem d_Road_walk_95 : decode prog_9_method_2_code 95 = .ok (.iload 4, 2) := by decide +kernel
theorem d_Road_walk_97 : decode prog_9_method_2_code 97 = .ok (.iload 5, 2) := by decide +kernel
theorem d_Road_walk_99 : decode prog_9_method_2_code 99 = .ok (.aload_n 1, 1) := by decide +kernel
theorem d_Road_walk_100 : decode prog_9_method_2_code 100 = .ok (.aload_n 2, 1) := by decide +kernel
theorem d_Road_walk_101 : decode prog_9_method_2_code 101 = .ok (.invokevirtual 49, 3) := by decide +kernel
theorem d_Road_walk_104 : decode prog_9_method_2_code 104 = .ok (.istore_n 3, 1) := by decide +kernel
theorem d_Road_walk_105 : decode prog_9_method_2_code 105 = .ok (.goto (-74), 3) := by decide +kernel
theorem d_Road_walk_108 : decode prog_9_method_2_code 108 = .ok (.return_, 1) := by decide +kernel
theorem d_Repeats_resetPasses_0 : decode prog_8_method_11_code 0 = .ok (.iconst 0, 1) := by decide +kernel
theorem d_Repeats_resetPasses_1 : decode prog_8_method_11_code 1 = .ok (.istore_n 1, 1) := by decide +kernel
theorem d_Repeats_resetPasses_2 : decode prog_8_method_11_code 2 = .ok (.iload_n 1, 1) := by decide +kernel
theorem d_Repeats_resetPasses_3 : decode prog_8_method_11_code 3 = .ok (.aload_n 0, 1) := by decide +kernel
theorem d_Repeats_resetPasses_4 : decode prog_8_method_11_code 4 = .ok (.getfield 24, 3) := by decide +kernel
theorem d_Repeats_resetPasses_7 : decode prog_8_method_11_code 7 = .ok (.if_icmp .ge 19, 3) := by decide +kernel
theorem d_Repeats_resetPasses_10 : decode prog_8_method_11_code 10 = .ok (.aload_n 0, 1) := by decide +kernel
theorem d_Repeats_resetPasses_11 : decode prog_8_method_11_code 11 = .ok (.getfield 11, 3) := by decide +kernel
theorem d_Repeats_resetPasses_14 : decode prog_8_method_11_code 14 = .ok (.iload_n 1, 1) := by decide +kernel
theorem d_Repeats_resetPasses_15 : decode prog_8_method_11_code 15 = .ok (.aaload, 1) := by decide +kernel
theorem d_Repeats_resetPasses_16 : decode prog_8_method_11_code 16 = .ok (.iconst 1, 1) := by decide +kernel
theorem d_Repeats_resetPasses_17 : decode prog_8_method_11_code 17 = .ok (.putfield 92, 3) := by decide +kernel
theorem d_Repeats_resetPasses_20 : decode prog_8_method_11_code 20 = .ok (.iinc 1 1, 3) := by decide +kernel
theorem d_Repeats_resetPasses_23 : decode prog_8_method_11_code 23 = .ok (.goto (-21), 3) := by decide +kernel
theorem d_Repeats_resetPasses_26 : decode prog_8_method_11_code 26 = .ok (.return_, 1) := by decide +kernel
theorem d_Road_insteadOf_0 : decode prog_9_method_3_code 0 = .ok (.aload_n 3, 1) := by decide +kernel
theorem d_Road_insteadOf_1 : decode prog_9_method_3_code 1 = .ok (.iload_n 1, 1) := by decide +kernel
theorem d_Road_insteadOf_2 : decode prog_9_method_3_code 2 = .ok (.invokevirtual 53, 3) := by decide +kernel
theorem d_Road_insteadOf_5 : decode prog_9_method_3_code 5 = .ok (.astore 4, 2) := by decide +kernel
theorem d_Road_insteadOf_7 : decode prog_9_method_3_code 7 = .ok (.aload 4, 2) := by decide +kernel
theorem d_Road_insteadOf_9 : decode prog_9_method_3_code 9 = .ok (.ifnonnull 5, 3) := by decide +kernel
theorem d_Road_insteadOf_12 : decode prog_9_method_3_code 12 = .ok (.iload_n 1, 1) := by decide +kernel
theorem d_Road_insteadOf_13 : decode prog_9_method_3_code 13 = .ok (.ireturn, 1) := by decide +kernel
theorem d_Road_insteadOf_14 : decode prog_9_method_3_code 14 = .ok (.aload_n 0, 1) := by decide +kernel
theorem d_Road_insteadOf_15 : decode prog_9_method_3_code 15 = .ok (.getfield 29, 3) := by decide +kernel
theorem d_Road_insteadOf_18 : decode prog_9_method_3_code 18 = .ok (.ifCond .eq 11, 3) := by decide +kernel
theorem d_Road_insteadOf_21 : decode prog_9_method_3_code 21 = .ok (.aload 4, 2) := by decide +kernel
theorem d_Road_insteadOf_23 : decode prog_9_method_3_code 23 = .ok (.getfield 57, 3) := by decide +kernel
theorem d_Road_insteadOf_26 : decode prog_9_method_3_code 26 = .ok (.goto 8, 3) := by decide +kernel
theorem d_Road_insteadOf_29 : decode prog_9_method_3_code 29 = .ok (.aload 4, 2) := by decide +kernel
theorem d_Road_insteadOf_31 : decode prog_9_method_3_code 31 = .ok (.getfield 62, 3) := by decide +kernel
theorem d_Road_insteadOf_34 : decode prog_9_method_3_code 34 = .ok (.istore 5, 2) := by decide +kernel
theorem d_Road_insteadOf_36 : decode prog_9_method_3_code 36 = .ok (.iload_n 1, 1) := by decide +kernel
theorem d_Road_insteadOf_37 : decode prog_9_method_3_code 37 = .ok (.istore 6, 2) := by decide +kernel
theorem d_Road_insteadOf_39 : decode prog_9_method_3_code 39 = .ok (.iload_n 1, 1) := by decide +kernel
theorem d_Road_insteadOf_40 : decode prog_9_method_3_code 40 = .ok (.istore 7, 2) := by decide +kernel
theorem d_Road_insteadOf_42 : decode prog_9_method_3_code 42 = .ok (.iload 7, 2) := by decide +kernel
theorem d_Road_insteadOf_44 : decode prog_9_method_3_code 44 = .ok (.aload 4, 2) := by decide +kernel
theorem d_Road_insteadOf_46 : decode prog_9_method_3_code 46 = .ok (.getfield 65, 3) := by decide +kernel
theorem d_Road_insteadOf_49 : decode prog_9_method_3_code 49 = .ok (.if_icmp .gt 38, 3) := by decide +kernel
theorem d_Road_insteadOf_52 : decode prog_9_method_3_code 52 = .ok (.aload_n 3, 1) := by decide +kernel
theorem d_Road_insteadOf_53 : decode prog_9_method_3_code 53 = .ok (.iload 7, 2) := by decide +kernel
theorem d_Road_insteadOf_55 : decode prog_9_method_3_code 55 = .ok (.invokevirtual 53, 3) := by decide +kernel
theorem d_Road_insteadOf_58 : decode prog_9_method_3_code 58 = .ok (.aload 4, 2) := by decide +kernel
theorem d_Road_insteadOf_60 : decode prog_9_method_3_code 60 = .ok (.if_acmp .ne 21, 3) := by decide +kernel
theorem d_Road_insteadOf_63 : decode prog_9_method_3_code 63 = .ok (.iload 7, 2) := by decide +kernel
theorem d_Road_insteadOf_65 : decode prog_9_method_3_code 65 = .ok (.istore 6, 2) := by decide +kernel
theorem d_Road_insteadOf_67 : decode prog_9_method_3_code 67 = .ok (.aload_n 2, 1) := by decide +kernel
theorem d_Road_insteadOf_68 : decode prog_9_method_3_code 68 = .ok (.iload 7, 2) := by decide +kernel
theorem d_Road_insteadOf_70 : decode prog_9_method_3_code 70 = .ok (.iload 5, 2) := by decide +kernel
theorem d_Road_insteadOf_72 : decode prog_9_method_3_code 72 = .ok (.invokevirtual 68, 3) := by decide +kernel
theorem d_Road_insteadOf_75 : decode prog_9_method_3_code 75 = .ok (.ifCond .eq 6, 3) := by decide +kernel
theorem d_Road_insteadOf_78 : decode prog_9_method_3_code 78 = .ok (.iload 7, 2) := by decide +kernel
theorem d_Road_insteadOf_80 : decode prog_9_method_3_code 80 = .ok (.ireturn, 1) := by decide +kernel
theorem d_Road_insteadOf_81 : decode prog_9_method_3_code 81 = .ok (.iinc 7 1, 3) := by decide +kernel
theorem d_Road_insteadOf_84 : decode prog_9_method_3_code 84 = .ok (.goto (-42), 3) := by decide +kernel
theorem d_Road_insteadOf_87 : decode prog_9_method_3_code 87 = .ok (.iload 6, 2) := by decide +kernel
theorem d_Road_insteadOf_89 : decode prog_9_method_3_code 89 = .ok (.ireturn, 1) := by decide +kernel
theorem d_Road_isToComeAgain_0 : decode prog_9_method_4_code 0 = .ok (.aload_n 2, 1) := by decide +kernel
theorem d_Road_isToComeAgain_1 : decode prog_9_method_4_code 1 = .ok (.iload_n 1, 1) := by decide +kernel
theorem d_Road_isToComeAgain_2 : decode prog_9_method_4_code 2 = .ok (.invokevirtual 74, 3) := by decide +kernel
theorem d_Road_isToComeAgain_5 : decode prog_9_method_4_code 5 = .ok (.astore_n 3, 1) := by decide +kernel
theorem d_Road_isToComeAgain_6 : decode prog_9_method_4_code 6 = .ok (.aload_n 0, 1) := by decide +kernel
theorem d_Road_isToComeAgain_7 : decode prog_9_method_4_code 7 = .ok (.getfield 29, 3) := by decide +kernel
theorem d_Road_isToComeAgain_10 : decode prog_9_method_4_code 10 = .ok (.ifCond .eq 22, 3) := by decide +kernel
theorem d_Road_isToComeAgain_13 : decode prog_9_method_4_code 13 = .ok (.aload_n 3, 1) := by decide +kernel
theorem d_Road_isToComeAgain_14 : decode prog_9_method_4_code 14 = .ok (.ifnull 18, 3) := by decide +kernel
theorem d_Road_isToComeAgain_17 : decode prog_9_method_4_code 17 = .ok (.aload_n 3, 1) := by decide +kernel
theorem d_Road_isToComeAgain_18 : decode prog_9_method_4_code 18 = .ok (.getfield 57, 3) := by decide +kernel
theorem d_Road_isToComeAgain_21 : decode prog_9_method_4_code 21 = .ok (.aload_n 3, 1) := by decide +kernel
theorem d_Road_isToComeAgain_22 : decode prog_9_method_4_code 22 = .ok (.getfield 62, 3) := by decide +kernel
theorem d_Road_isToComeAgain_25 : decode prog_9_method_4_code 25 = .ok (.if_icmp .ge 7, 3) := by decide +kernel
theorem d_Road_isToComeAgain_28 : decode prog_9_method_4_code 28 = .ok (.iconst 1, 1) := by decide +kernel
theorem d_Road_isToComeAgain_29 : decode prog_9_method_4_code 29 = .ok (.goto 4, 3) := by decide +kernel
theorem d_Road_isToComeAgain_32 : decode prog_9_method_4_code 32 = .ok (.iconst 0, 1) := by decide +kernel
theorem d_Road_isToComeAgain_33 : decode prog_9_method_4_code 33 = .ok (.ireturn, 1) := by decide +kernel
theorem d_Road_leaveRepeatAtLastPass_0 : decode prog_9_method_5_code 0 = .ok (.aload_n 2, 1) := by decide +kernel
theorem d_Road_leaveRepeatAtLastPass_1 : decode prog_9_method_5_code 1 = .ok (.iload_n 0, 1) := by decide +kernel
theorem d_Road_leaveRepeatAtLastPass_2 : decode prog_9_method_5_code 2 = .ok (.invokevirtual 53, 3) := by decide +kernel
theorem d_Road_leaveRepeatAtLastPass_5 : decode prog_9_method_5_code 5 = .ok (.astore_n 3, 1) := by decide +kernel
theorem d_Road_leaveRepeatAtLastPass_6 : decode prog_9_method_5_code 6 = .ok (.aload_n 3, 1) := by decide +kernel
theorem d_Road_leaveRepeatAtLastPass_7 : decode prog_9_method_5_code 7 = .ok (.ifnull 20, 3) := by decide +kernel
theorem d_Road_leaveRepeatAtLastPass_10 : decode prog_9_method_5_code 10 = .ok (.aload_n 1, 1) := by decide +kernel
theorem d_Road_leaveRepeatAtLastPass_11 : decode prog_9_method_5_code 11 = .ok (.iload_n 0, 1) := by decide +kernel
theorem d_Road_leaveRepeatAtLastPass_12 : decode prog_9_method_5_code 12 = .ok (.aload_n 3, 1) := by decide +kernel
theorem d_Road_leaveRepeatAtLastPass_13 : decode prog_9_method_5_code 13 = .ok (.getfield 62, 3) := by decide +kernel
theorem d_Road_leaveRepeatAtLastPass_16 : decode prog_9_method_5_code 16 = .ok (.invokevirtual 68, 3) := by decide +kernel
theorem d_Road_leaveRepeatAtLastPass_19 : decode prog_9_method_5_code 19 = .ok (.ifCond .eq 8, 3) := by decide +kernel
theorem d_Road_leaveRepeatAtLastPass_22 : decode prog_9_method_5_code 22 = .ok (.aload_n 3, 1) := by decide +kernel
theorem d_Road_leaveRepeatAtLastPass_23 : decode prog_9_method_5_code 23 = .ok (.iconst 1, 1) := by decide +kernel
theorem d_Road_leaveRepeatAtLastPass_24 : decode prog_9_method_5_code 24 = .ok (.putfield 57, 3) := by decide +kernel
theorem d_Road_leaveRepeatAtLastPass_27 : decode prog_9_method_5_code 27 = .ok (.return_, 1) := by decide +kernel
theorem d_Road_behind_0 : decode prog_9_method_6_code 0 = .ok (.aload 4, 2) := by decide +kernel
theorem d_Road_behind_2 : decode prog_9_method_6_code 2 = .ok (.iload_n 1, 1) := by decide +kernel
theorem d_Road_behind_3 : decode prog_9_method_6_code 3 = .ok (.invokevirtual 77, 3) := by decide +kernel
theorem d_Road_behind_6 : decode prog_9_method_6_code 6 = .ok (.astore 5, 2) := by decide +kernel
theorem d_Road_behind_8 : decode prog_9_method_6_code 8 = .ok (.aload 5, 2) := by decide +kernel
theorem d_Road_behind_10 : decode prog_9_method_6_code 10 = .ok (.ifnull 46, 3) := by decide +kernel
theorem d_Road_behind_13 : decode prog_9_method_6_code 13 = .ok (.aload_n 0, 1) := by decide +kernel
theorem d_Road_behind_14 : decode prog_9_method_6_code 14 = .ok (.getfield 29, 3) := by decide +kernel
theorem d_Road_behind_17 : decode prog_9_method_6_code 17 = .ok (.ifCond .eq 39, 3) := by decide +kernel
theorem d_Road_behind_20 : decode prog_9_method_6_code 20 = .ok (.aload 5, 2) := by decide +kernel
theorem d_Road_behind_22 : decode prog_9_method_6_code 22 = .ok (.getfield 57, 3) := by decide +kernel
theorem d_Road_behind_25 : decode prog_9_method_6_code 25 = .ok (.aload 5, 2) := by decide +kernel
theorem d_Road_behind_27 : decode prog_9_method_6_code 27 = .ok (.getfield 62, 3) := by decide +kernel
theorem d_Road_behind_30 : decode prog_9_method_6_code 30 = .ok (.if_icmp .ge 20, 3) := by decide +kernel
theorem d_Road_behind_33 : decode prog_9_method_6_code 33 = .ok (.aload 5, 2) := by decide +kernel
theorem d_Road_behind_35 : decode prog_9_method_6_code 35 = .ok (.dup, 1) := by decide +kernel
theorem d_Road_behind_36 : decode prog_9_method_6_code 36 = .ok (.getfield 57, 3) := by decide +kernel
theorem d_Road_behind_39 : decode prog_9_method_6_code 39 = .ok (.iconst 1, 1) := by decide +kernel
theorem d_Road_behind_40 : decode prog_9_method_6_code 40 = .ok (.iadd, 1) := by decide +kernel
theorem d_Road_behind_41 : decode prog_9_method_6_code 41 = .ok (.putfield 57, 3) := by decide +kernel
theorem d_Road_behind_44 : decode prog_9_method_6_code 44 = .ok (.aload 5, 2) := by decide +kernel
theorem d_Road_behind_46 : decode prog_9_method_6_code 46 = .ok (.getfield 80, 3) := by decide +kernel
theorem d_Road_behind_49 : decode prog_9_method_6_code 49 = .ok (.ireturn, 1) := by decide +kernel
theorem d_Road_behind_50 : decode prog_9_method_6_code 50 = .ok (.aload 5, 2) := by decide +kernel
theorem d_Road_behind_52 : decode prog_9_method_6_code 52 = .ok (.iconst 1, 1) := by decide +kernel
theorem d_Road_behind_53 : decode prog_9_method_6_code 53 = .ok (.putfield 57, 3) := by decide +kernel
theorem d_Road_behind_56 : decode prog_9_method_6_code 56 = .ok (.iload_n 2, 1) := by decide +kernel
theorem d_Road_behind_57 : decode prog_9_method_6_code 57 = .ok (.ifCond .ne 105, 3) := by decide +kernel
theorem d_Road_behind_60 : decode prog_9_method_6_code 60 = .ok (.aload_n 0, 1) := by decide +kernel
theorem d_Road_behind_61 : decode prog_9_method_6_code 61 = .ok (.getfield 19, 3) := by decide +kernel
theorem d_Road_behind_64 : decode prog_9_method_6_code 64 = .ok (.ifCond .eq 22, 3) := by decide +kernel
theorem d_Road_behind_67 : decode prog_9_method_6_code 67 = .ok (.aload_n 0, 1) := by decide +kernel
theorem d_Road_behind_68 : decode prog_9_method_6_code 68 = .ok (.getfield 26, 3) := by decide +kernel
theorem d_Road_behind_71 : decode prog_9_method_6_code 71 = .ok (.iconst 1, 1) := by decide +kernel
theorem d_Road_behind_72 : decode prog_9_method_6_code 72 = .ok (.if_icmp .ne 14, 3) := by decide +kernel
theorem d_Road_behind_75 : decode prog_9_method_6_code 75 = .ok (.aload_n 3, 1) := by decide +kernel
theorem d_Road_behind_76 : decode prog_9_method_6_code 76 = .ok (.iload_n 1, 1) := by decide +kernel
theorem d_Road_behind_77 : decode prog_9_method_6_code 77 = .ok (.iconst 5, 1) := by decide +kernel
theorem d_Road_behind_78 : decode prog_9_method_6_code 78 = .ok (.invokevirtual 85, 3) := by decide +kernel
theorem d_Road_behind_81 : decode prog_9_method_6_code 81 = .ok (.ifCond .eq 5, 3) := by decide +kernel
theorem d_Road_behind_84 : decode prog_9_method_6_code 84 = .ok (.iconst (-1), 1) := by decide +kernel
theorem d_Road_behind_85 : decode prog_9_method_6_code 85 = .ok (.ireturn, 1) := by decide +kernel
theorem d_Road_behind_86 : decode prog_9_method_6_code 86 = .ok (.aload_n 0, 1) := by decide +kernel
theorem d_Road_behind_87 : decode prog_9_method_6_code 87 = .ok (.getfield 19, 3) := by decide +kernel
theorem d_Road_behind_90 : decode prog_9_method_6_code 90 = .ok (.ifCond .eq 46, 3) := by decide +kernel
theorem d_Road_behind_93 : decode prog_9_method_6_code 93 = .ok (.aload_n 0, 1) := by decide +kernel
theorem d_Road_behind_94 : decode prog_9_method_6_code 94 = .ok (.getfield 26, 3) := by decide +kernel
theorem d_Road_behind_97 : decode prog_9_method_6_code 97 = .ok (.iconst 2, 1) := by decide +kernel
theorem d_Road_behind_98 : decode prog_9_method_6_code 98 = .ok (.if_icmp .ne 38, 3) := by decide +kernel
theorem d_Road_behind_101 : decode prog_9_method_6_code 101 = .ok (.aload_n 0, 1) := by decide +kernel
theorem d_Road_behind_102 : decode prog_9_method_6_code 102 = .ok (.getfield 23, 3) := by decide +kernel
theorem d_Road_behind_105 : decode prog_9_method_6_code 105 = .ok (.ifCond .ne 31, 3) := by decide +kernel
theorem d_Road_behind_108 : decode prog_9_method_6_code 108 = .ok (.aload_n 3, 1) := by decide +kernel
theorem d_Road_behind_109 : decode prog_9_method_6_code 109 = .ok (.iload_n 1, 1) := by decide +kernel
theorem d_Road_behind_110 : decode prog_9_method_6_code 110 = .ok (.bipush 6, 2) := by decide +kernel
theorem d_Road_behind_112 : decode prog_9_method_6_code 112 = .ok (.invokevirtual 85, 3) := by decide +kernel
theorem d_Road_behind_115 : decode prog_9_method_6_code 115 = .ok (.ifCond .eq 21, 3) := by decide +kernel
theorem d_Road_behind_118 : decode prog_9_method_6_code 118 = .ok (.aload_n 0, 1) := by decide +kernel
theorem d_Road_behind_119 : decode prog_9_method_6_code 119 = .ok (.iconst 1, 1) := by decide +kernel
theorem d_Road_behind_120 : decode prog_9_method_6_code 120 = .ok (.putfield 23, 3) := by decide +kernel
theorem d_Road_behind_123 : decode prog_9_method_6_code 123 = .ok (.aload_n 3, 1) := by decide +kernel
theorem d_Road_behind_124 : decode prog_9_method_6_code 124 = .ok (.iconst 4, 1) := by decide +kernel
theorem d_Road_behind_125 : decode prog_9_method_6_code 125 = .ok (.iconst 0, 1) := by decide +kernel
theorem d_Road_behind_126 : decode prog_9_method_6_code 126 = .ok (.aload_n 3, 1) := by decide +kernel
theorem d_Road_behind_127 : decode prog_9_method_6_code 127 = .ok (.getfield 88, 3) := by decide +kernel
theorem d_Road_behind_130 : decode prog_9_method_6_code 130 = .ok (.iconst 1, 1) := by decide +kernel
theorem d_Road_behind_131 : decode prog_9_method_6_code 131 = .ok (.isub, 1) := by decide +kernel
theorem d_Road_behind_132 : decode prog_9_method_6_code 132 = .ok (.invokevirtual 91, 3) := by decide +kernel
theorem d_Road_behind_135 : decode prog_9_method_6_code 135 = .ok (.ireturn, 1) := by decide +kernel
theorem d_Road_behind_136 : decode prog_9_method_6_code 136 = .ok (.aload_n 0, 1) := by decide +kernel
theorem d_Road_behind_137 : decode prog_9_method_6_code 137 = .ok (.getfield 19, 3) := by decide +kernel
theorem d_Road_behind_140 : decode prog_9_method_6_code 140 = .ok (.ifCond .ne 22, 3) := by decide +kernel
theorem d_Road_behind_143 : decode prog_9_method_6_code 143 = .ok (.aload_n 3, 1) := by decide +kernel
theorem d_Road_behind_144 : decode prog_9_method_6_code 144 = .ok (.iload_n 1, 1) := by decide +kernel
theorem d_Road_behind_145 : decode prog_9_method_6_code 145 = .ok (.bipush 7, 2) := by decide +kernel
theorem d_Road_behind_147 : decode prog_9_method_6_code 147 = .ok (.invokevirtual 85, 3) := by decide +kernel
theorem d_Road_behind_150 : decode prog_9_method_6_code 150 = .ok (.ifCond .eq 12, 3) := by decide +kernel
theorem d_Road_behind_153 : decode prog_9_method_6_code 153 = .ok (.aload_n 0, 1) := by decide +kernel
theorem d_Road_behind_154 : decode prog_9_method_6_code 154 = .ok (.iload_n 1, 1) := by decide +kernel
theorem d_Road_behind_155 : decode prog_9_method_6_code 155 = .ok (.aload_n 3, 1) := by decide +kernel
theorem d_Road_behind_156 : decode prog_9_method_6_code 156 = .ok (.aload 4, 2) := by decide +kernel
theorem d_Road_behind_158 : decode prog_9_method_6_code 158 = .ok (.invokevirtual 95, 3) := by decide +kernel
theorem d_Road_behind_161 : decode prog_9_method_6_code 161 = .ok (.ireturn, 1) := by decide +kernel
theorem d_Road_behind_162 : decode prog_9_method_6_code 162 = .ok (.aload_n 3, 1) := by decide +kernel
theorem d_Road_behind_163 : decode prog_9_method_6_code 163 = .ok (.iload_n 1, 1) := by decide +kernel
theorem d_Road_behind_164 : decode prog_9_method_6_code 164 = .ok (.iconst 1, 1) := by decide +kernel
theorem d_Road_behind_165 : decode prog_9_method_6_code 165 = .ok (.iadd, 1) := by decide +kernel
theorem d_Road_behind_166 : decode prog_9_method_6_code 166 = .ok (.invokevirtual 98, 3) := by decide +kernel
theorem d_Road_behind_169 : decode prog_9_method_6_code 169 = .ok (.ifCond .eq 9, 3) := by decide +kernel
theorem d_Road_behind_172 : decode prog_9_method_6_code 172 = .ok (.iload_n 1, 1) := by decide +kernel
theorem d_Road_behind_173 : decode prog_9_method_6_code 173 = .ok (.iconst 1, 1) := by decide +kernel
theorem d_Road_behind_174 : decode prog_9_method_6_code 174 = .ok (.iadd, 1) := by decide +kernel
theorem d_Road_behind_175 : decode prog_9_method_6_code 175 = .ok (.goto 4, 3) := by decide +kernel
theorem d_Road_behind_178 : decode prog_9_method_6_code 178 = .ok (.iconst (-1), 1) := by decide +kernel
theorem d_Road_behind_179 : decode prog_9_method_6_code 179 = .ok (.ireturn, 1) := by decide +kernel
theorem d_Road_jumpFrom_0 : decode prog_9_method_7_code 0 = .ok (.aload_n 2, 1) := by decide +kernel
theorem d_Road_jumpFrom_1 : decode prog_9_method_7_code 1 = .ok (.iload_n 1, 1) := by decide +kernel
theorem d_Road_jumpFrom_2 : decode prog_9_method_7_code 2 = .ok (.bipush 7, 2) := by decide +kernel
theorem d_Road_jumpFrom_4 : decode prog_9_method_7_code 4 = .ok (.invokevirtual 102, 3) := by decide +kernel
theorem d_Road_jumpFrom_7 : decode prog_9_method_7_code 7 = .ok (.istore 4, 2) := by decide +kernel
theorem d_Road_jumpFrom_9 : decode prog_9_method_7_code 9 = .ok (.aload_n 0, 1) := by decide +kernel
theorem d_Road_jumpFrom_10 : decode prog_9_method_7_code 10 = .ok (.iconst 1, 1) := by decide +kernel
theorem d_Road_jumpFrom_11 : decode prog_9_method_7_code 11 = .ok (.putfield 19, 3) := by decide +kernel
theorem d_Road_jumpFrom_14 : decode prog_9_method_7_code 14 = .ok (.aload_n 0, 1) := by decide +kernel
theorem d_Road_jumpFrom_15 : decode prog_9_method_7_code 15 = .ok (.iload 4, 2) := by decide +kernel
theorem d_Road_jumpFrom_17 : decode prog_9_method_7_code 17 = .ok (.invokestatic 106, 3) := by decide +kernel
theorem d_Road_jumpFrom_20 : decode prog_9_method_7_code 20 = .ok (.putfield 26, 3) := by decide +kernel
theorem d_Road_jumpFrom_23 : decode prog_9_method_7_code 23 = .ok (.aload_n 0, 1) := by decide +kernel
theorem d_Road_jumpFrom_24 : decode prog_9_method_7_code 24 = .ok (.iload 4, 2) := by decide +kernel
theorem d_Road_jumpFrom_26 : decode prog_9_method_7_code 26 = .ok (.invokestatic 109, 3) := by decide +kernel
theorem d_Road_jumpFrom_29 : decode prog_9_method_7_code 29 = .ok (.putfield 29, 3) := by decide +kernel
theorem d_Road_jumpFrom_32 : decode prog_9_method_7_code 32 = .ok (.aload_n 3, 1) := by decide +kernel
theorem d_Road_jumpFrom_33 : decode prog_9_method_7_code 33 = .ok (.invokevirtual 32, 3) := by decide +kernel
theorem d_Road_jumpFrom_36 : decode prog_9_method_7_code 36 = .ok (.aload_n 2, 1) := by decide +kernel
theorem d_Road_jumpFrom_37 : decode prog_9_method_7_code 37 = .ok (.iload_n 1, 1) := by decide +kernel
theorem d_Road_jumpFrom_38 : decode prog_9_method_7_code 38 = .ok (.invokestatic 112, 3) := by decide +kernel
theorem d_Road_jumpFrom_41 : decode prog_9_method_7_code 41 = .ok (.ireturn, 1) := by decide +kernel
theorem d_SR_plays_0 : decode prog_1_method_8_code 0 = .ok (.aload_n 0, 1) := by decide +kernel
theorem d_SR_plays_1 : decode prog_1_method_8_code 1 = .ok (.invokevirtual 140, 3) := by decide +kernel
theorem d_SR_plays_4 : decode prog_1_method_8_code 4 = .ok (.aload_n 0, 1) := by decide +kernel
theorem d_SR_plays_5 : decode prog_1_method_8_code 5 = .ok (.getfield 143, 3) := by decide +kernel
theorem d_SR_plays_8 : decode prog_1_method_8_code 8 = .ok (.ifCond .ne 13, 3) := by decide +kernel
theorem d_SR_plays_11 : decode prog_1_method_8_code 11 = .ok (.aload_n 0, 1) := by decide +kernel
theorem d_SR_plays_12 : decode prog_1_method_8_code 12 = .ok (.getfield 35, 3) := by decide +kernel
theorem d_SR_plays_15 : decode prog_1_method_8_code 15 = .ok (.getfield 146, 3) := by decide +kernel
theorem d_SR_plays_18 : decode prog_1_method_8_code 18 = .ok (.goto 4, 3) := by decide +kernel
theorem d_SR_plays_21 : decode prog_1_method_8_code 21 = .ok (.iconst (-1), 1) := by decide +kernel
theorem d_SR_plays_22 : decode prog_1_method_8_code 22 = .ok (.ireturn, 1) := by decide +kernel
theorem d_SR_bar_0 : decode prog_1_method_2_code 0 = .ok (.aload_n 0, 1) := by decide +kernel
theorem d_SR_bar_1 : decode prog_1_method_2_code 1 = .ok (.getfield 14, 3) := by decide +kernel
theorem d_SR_bar_4 : decode prog_1_method_2_code 4 = .ok (.iload_n 1, 1) := by decide +kernel
theorem d_SR_bar_5 : decode prog_1_method_2_code 5 = .ok (.invokevirtual 46, 3) := by decide +kernel
theorem d_SR_bar_8 : decode prog_1_method_2_code 8 = .ok (.ifCond .eq 24, 3) := by decide +kernel
theorem d_SR_bar_11 : decode prog_1_method_2_code 11 = .ok (.iload_n 2, 1) := by decide +kernel
theorem d_SR_bar_12 : decode prog_1_method_2_code 12 = .ok (.iconst 1, 1) := by decide +kernel
theorem d_SR_bar_13 : decode prog_1_method_2_code 13 = .ok (.bipush 32, 2) := by decide +kernel
theorem d_SR_bar_15 : decode prog_1_method_2_code 15 = .ok (.invokestatic 50, 3) := by decide +kernel
theorem d_SR_bar_18 : decode prog_1_method_2_code 18 = .ok (.ifCond .eq 14, 3) := by decide +kernel
theorem d_SR_bar_21 : decode prog_1_method_2_code 21 = .ok (.iload_n 3, 1) := by decide +kernel
theorem d_SR_bar_22 : decode prog_1_method_2_code 22 = .ok (.iconst 1, 1) := by decide +kernel
theorem d_SR_bar_23 : decode prog_1_method_2_code 23 = .ok (.sipush 1000, 3) := by decide +kernel
theorem d_SR_bar_26 : decode prog_1_method_2_code 26 = .ok (.invokestatic 50, 3) := by decide +kernel
theorem d_SR_bar_29 : decode prog_1_method_2_code 29 = .ok (.ifCond .ne 13, 3) := by decide +kernel
theorem d_SR_bar_32 : decode prog_1_method_2_code 32 = .ok (.new 54, 3) := by decide +kernel
theorem d_SR_bar_35 : decode prog_1_method_2_code 35 = .ok (.dup, 1) := by decide +kernel
theorem d_SR_bar_36 : decode prog_1_method_2_code 36 = .ok (.ldc 56, 2) := by decide +kernel
theorem d_SR_bar_38 : decode prog_1_method_2_code 38 = .ok (.invokespecial 58, 3) := by decide +kernel
theorem d_SR_bar_41 : decode prog_1_method_2_code 41 = .ok (.athrow, 1) := by decide +kernel
theorem d_SR_bar_42 : decode prog_1_method_2_code 42 = .ok (.aload_n 0, 1) := by decide +kernel
theorem d_SR_bar_43 : decode prog_1_method_2_code 43 = .ok (.getfield 21, 3) := by decide +kernel
theorem d_SR_bar_46 : decode prog_1_method_2_code 46 = .ok (.iload_n 1, 1) := by decide +kernel
theorem d_SR_bar_47 : decode prog_1_method_2_code 47 = .ok (.invokevirtual 61, 3) := by decide +kernel
theorem d_SR_bar_50 : decode prog_1_method_2_code 50 = .ok (.iload_n 2, 1) := by decide +kernel
theorem d_SR_bar_51 : decode prog_1_method_2_code 51 = .ok (.if_icmp .le 13, 3) := by decide +kernel
theorem d_SR_bar_54 : decode prog_1_method_2_code 54 = .ok (.new 65, 3) := by decide +kernel
theorem d_SR_bar_57 : decode prog_1_method_2_code 57 = .ok (.dup, 1) := by decide +kernel
theorem d_SR_bar_58 : decode prog_1_method_2_code 58 = .ok (.ldc 67, 2) := by decide +kernel
theorem d_SR_bar_60 : decode prog_1_method_2_code 60 = .ok (.invokespecial 69, 3) := by decide +kernel
theorem d_SR_bar_63 : decode prog_1_method_2_code 63 = .ok (.athrow, 1) := by decide +kernel
theorem d_SR_bar_64 : decode prog_1_method_2_code 64 = .ok (.aload_n 0, 1) := by decide +kernel
theorem d_SR_bar_65 : decode prog_1_method_2_code 65 = .ok (.getfield 14, 3) := by decide +kernel
theorem d_SR_bar_68 : decode prog_1_method_2_code 68 = .ok (.iload_n 1, 1) := by decide +kernel
theorem d_SR_bar_69 : decode prog_1_method_2_code 69 = .ok (.iload_n 2, 1) := by decide +kernel
theorem d_SR_bar_70 : decode prog_1_method_2_code 70 = .ok (.iload_n 3, 1) := by decide +kernel
theorem d_SR_bar_71 : decode prog_1_method_2_code 71 = .ok (.invokevirtual 70, 3) := by decide +kernel
theorem d_SR_bar_74 : decode prog_1_method_2_code 74 = .ok (.aload_n 0, 1) := by decide +kernel
theorem d_SR_bar_75 : decode prog_1_method_2_code 75 = .ok (.getfield 42, 3) := by decide +kernel
theorem d_SR_bar_78 : decode prog_1_method_2_code 78 = .ok (.invokevirtual 74, 3) := by decide +kernel
theorem d_SR_bar_81 : decode prog_1_method_2_code 81 = .ok (.return_, 1) := by decide +kernel
theorem d_SR_isWithin_0 : decode prog_1_method_25_code 0 = .ok (.iload_n 0, 1) := by decide +kernel
theorem d_SR_isWithin_1 : decode prog_1_method_25_code 1 = .ok (.iload_n 1, 1) := by decide +kernel
theorem d_SR_isWithin_2 : decode prog_1_method_25_code 2 = .ok (.if_icmp .lt 12, 3) := by decide +kernel
theorem d_SR_isWithin_5 : decode prog_1_method_25_code 5 = .ok (.iload_n 0, 1) := by decide +kernel
theorem d_SR_isWithin_6 : decode prog_1_method_25_code 6 = .ok (.iload_n 2, 1) := by decide +kernel
theorem d_SR_isWithin_7 : decode prog_1_method_25_code 7 = .ok (.if_icmp .gt 7, 3) := by decide +kernel
theorem d_SR_isWithin_10 : decode prog_1_method_25_code 10 = .ok (.iconst 1, 1) := by decide +kernel
theorem d_SR_isWithin_11 : decode prog_1_method_25_code 11 = .ok (.goto 4, 3) := by decide +kernel
theorem d_SR_isWithin_14 : decode prog_1_method_25_code 14 = .ok (.iconst 0, 1) := by decide +kernel
theorem d_SR_isWithin_15 : decode prog_1_method_25_code 15 = .ok (.ireturn, 1) := by decide +kernel
theorem d_Notes_endIn_0 : decode prog_5_method_7_code 0 = .ok (.iconst 0, 1) := by decide +kernel
theorem d_Notes_endIn_1 : decode prog_5_method_7_code 1 = .ok (.istore_n 2, 1) := by decide +kernel
theorem d_Notes_endIn_2 : decode prog_5_method_7_code 2 = .ok (.iconst 0, 1) := by decide +kernel
theorem d_Notes_endIn_3 : decode prog_5_method_7_code 3 = .ok (.istore_n 3, 1) := by decide +kernel
theorem d_Notes_endIn_4 : decode prog_5_method_7_code 4 = .ok (.iload_n 3, 1) := by decide +kernel
theorem d_Notes_endIn_5 : decode prog_5_method_7_code 5 = .ok (.aload_n 0, 1) := by decide +kernel
theorem d_Notes_endIn_6 : decode prog_5_method_7_code 6 = .ok (.getfield 17, 3) := by decide +kernel
theorem d_Notes_endIn_9 : decode prog_5_method_7_code 9 = .ok (.if_icmp .ge 36, 3) := by decide +kernel
theorem d_Notes_endIn_12 : decode prog_5_method_7_code 12 = .ok (.aload_n 0, 1) := by decide +kernel
theorem d_Notes_endIn_13 : decode prog_5_method_7_code 13 = .ok (.getfield 11, 3) := by decide +kernel
theorem d_Notes_endIn_16 : decode prog_5_method_7_code 16 = .ok (.iload_n 3, 1) := by decide +kernel
theorem d_Notes_endIn_17 : decode prog_5_method_7_code 17 = .ok (.aaload, 1) := by decide +kernel
theorem d_Notes_endIn_18 : decode prog_5_method_7_code 18 = .ok (.getfield 43, 3) := by decide +kernel
theorem d_Notes_endIn_21 : decode prog_5_method_7_code 21 = .ok (.iload_n 1, 1) := by decide +kernel
theorem d_Notes_endIn_22 : decode prog_5_method_7_code 22 = .ok (.if_icmp .ne 17, 3) := by decide +kernel
theorem d_Notes_endIn_25 : decode prog_5_method_7_code 25 = .ok (.iload_n 2, 1) := by decide +kernel
theorem d_Notes_endIn_26 : decode prog_5_method_7_code 26 = .ok (.aload_n 0, 1) := by decide +kernel
theorem d_Notes_endIn_27 : decode prog_5_method_7_code 27 = .ok (.getfield 11, 3) := by decide +kernel
theorem d_Notes_endIn_30 : decode prog_5_method_7_code 30 = .ok (.iload_n 3, 1) := by decide +kernel
theorem d_Notes_endIn_31 : decode prog_5_method_7_code 31 = .ok (.aaload, 1) := by decide +kernel
theorem d_Notes_endIn_32 : decode prog_5_method_7_code 32 = .ok (.invokevirtual 46, 3) := by decide +kernel
theorem d_Notes_endIn_35 : decode prog_5_method_7_code 35 = .ok (.invokestatic 50, 3) := by decide +kernel
theorem d_Notes_endIn_38 : decode prog_5_method_7_code 38 = .ok (.istore_n 2, 1) := by decide +kernel
theorem d_Notes_endIn_39 : decode prog_5_method_7_code 39 = .ok (.iinc 3 1, 3) := by decide +kernel
theorem d_Notes_endIn_42 : decode prog_5_method_7_code 42 = .ok (.goto (-38), 3) := by decide +kernel
theorem d_Notes_endIn_45 : decode prog_5_method_7_code 45 = .ok (.iload_n 2, 1) := by decide +kernel
theorem d_Notes_endIn_46 : decode prog_5_method_7_code 46 = .ok (.ireturn, 1) := by decide +kernel
theorem d_Sounding_forget_0 : decode prog_10_method_2_code 0 = .ok (.aload_n 0, 1) := by decide +kernel
theorem d_Sounding_forget_1 : decode prog_10_method_2_code 1 = .ok (.iconst (-1), 1) := by decide +kernel
theorem d_Sounding_forget_2 : decode prog_10_method_2_code 2 = .ok (.putfield 21, 3) := by decide +kernel
theorem d_Sounding_forget_5 : decode prog_10_method_2_code 5 = .ok (.return_, 1) := by decide +kernel
theorem d_SR_sign_0 : decode prog_1_method_3_code 0 = .ok (.aload_n 0, 1) := by decide +kernel
theorem d_SR_sign_1 : decode prog_1_method_3_code 1 = .ok (.getfield 14, 3) := by decide +kernel
theorem d_SR_sign_4 : decode prog_1_method_3_code 4 = .ok (.iload_n 1, 1) := by decide +kernel
theorem d_SR_sign_5 : decode prog_1_method_3_code 5 = .ok (.invokevirtual 46, 3) := by decide +kernel
theorem d_SR_sign_8 : decode prog_1_method_3_code 8 = .ok (.ifCond .eq 18, 3) := by decide +kernel
theorem d_SR_sign_11 : decode prog_1_method_3_code 11 = .ok (.iload_n 2, 1) := by decide +kernel
theorem d_SR_sign_12 : decode prog_1_method_3_code 12 = .ok (.invokestatic 77, 3) := by decide +kernel
theorem d_SR_sign_15 : decode prog_1_method_3_code 15 = .ok (.ifCond .eq 11, 3) := by decide +kernel
theorem d_SR_sign_18 : decode prog_1_method_3_code 18 = .ok (.iload_n 2, 1) := by decide +kernel
theorem d_SR_sign_19 : decode prog_1_method_3_code 19 = .ok (.iload_n 3, 1) := by decide +kernel
theorem d_SR_sign_20 : decode prog_1_method_3_code 20 = .ok (.invokestatic 80, 3) := by decide +kernel
theorem d_SR_sign_23 : decode prog_1_method_3_code 23 = .ok (.ifCond .ne 13, 3) := by decide +kernel
theorem d_SR_sign_26 : decode prog_1_method_3_code 26 = .ok (.new 54, 3) := by decide +kernel
theorem d_SR_sign_29 : decode prog_1_method_3_code 29 = .ok (.dup, 1) := by decide +kernel
theorem d_SR_sign_30 : decode prog_1_method_3_code 30 = .ok (.ldc 84, 2) := by decide +kernel
theorem d_SR_sign_32 : decode prog_1_method_3_code 32 = .ok (.invokespecial 58, 3) := by decide +kernel
theorem d_SR_sign_35 : decode prog_1_method_3_code 35 = .ok (.athrow, 1) := by decide +kernel
theorem d_SR_sign_36 : decode prog_1_method_3_code 36 = .ok (.aload_n 0, 1) := by decide +kernel
theorem d_SR_sign_37 : decode prog_1_method_3_code 37 = .ok (.getfield 14, 3) := by decide +kernel
theorem d_SR_sign_40 : decode prog_1_method_3_code 40 = .ok (.iload_n 1, 1) := by decide +kernel
theorem d_SR_sign_41 : decode prog_1_method_3_code 41 = .ok (.iload_n 2, 1) := by decide +kernel
theorem d_SR_sign_42 : decode prog_1_method_3_code 42 = .ok (.invokevirtual 86, 3) := by decide +kernel
theorem d_SR_sign_45 : decode prog_1_method_3_code 45 = .ok (.istore 4, 2) := by decide +kernel
theorem d_SR_sign_47 : decode prog_1_method_3_code 47 = .ok (.iload_n 3, 1) := by decide +kernel
theorem d_SR_sign_48 : decode prog_1_method_3_code 48 = .ok (.iload 4, 2) := by decide +kernel
theorem d_SR_sign_50 : decode prog_1_method_3_code 50 = .ok (.if_icmp .ne 5, 3) := by decide +kernel
theorem d_SR_sign_53 : decode prog_1_method_3_code 53 = .ok (.iconst 0, 1) := by decide +kernel
theorem d_SR_sign_54 : decode prog_1_method_3_code 54 = .ok (.ireturn, 1) := by decide +kernel
theorem d_SR_sign_55 : decode prog_1_method_3_code 55 = .ok (.iload_n 3, 1) := by decide +kernel
theorem d_SR_sign_56 : decode prog_1_method_3_code 56 = .ok (.ifCond .eq 18, 3) := by decide +kernel
theorem d_SR_sign_59 : decode prog_1_method_3_code 59 = .ok (.iload 4, 2) := by decide +kernel
theorem d_SR_sign_61 : decode prog_1_method_3_code 61 = .ok (.ifCond .eq 13, 3) := by decide +kernel
theorem d_SR_sign_64 : decode prog_1_method_3_code 64 = .ok (.new 65, 3) := by decide +kernel
theorem d_SR_sign_67 : decode prog_1_method_3_code 67 = .ok (.dup, 1) := by decide +kernel
theorem d_SR_sign_68 : decode prog_1_method_3_code 68 = .ok (.ldc 90, 2) := by decide +kernel
theorem d_SR_sign_70 : decode prog_1_method_3_code 70 = .ok (.invokespecial 69, 3) := by decide +kernel
theorem d_SR_sign_73 : decode prog_1_method_3_code 73 = .ok (.athrow, 1) := by decide +kernel
theorem d_SR_sign_74 : decode prog_1_method_3_code 74 = .ok (.aload_n 0, 1) := by decide +kernel
theorem d_SR_sign_75 : decode prog_1_method_3_code 75 = .ok (.getfield 14, 3) := by decide +kernel
theorem d_SR_sign_78 : decode prog_1_method_3_code 78 = .ok (.iload_n 1, 1) := by decide +kernel
theorem d_SR_sign_79 : decode prog_1_method_3_code 79 = .ok (.iload_n 2, 1) := by decide +kernel
theorem d_SR_sign_80 : decode prog_1_method_3_code 80 = .ok (.iload_n 3, 1) := by decide +kernel
theorem d_SR_sign_81 : decode prog_1_method_3_code 81 = .ok (.invokevirtual 92, 3) := by decide +kernel
theorem d_SR_sign_84 : decode prog_1_method_3_code 84 = .ok (.aload_n 0, 1) := by decide +kernel
theorem d_SR_sign_85 : decode prog_1_method_3_code 85 = .ok (.iconst 0, 1) := by decide +kernel
theorem d_SR_sign_86 : decode prog_1_method_3_code 86 = .ok (.putfield 95, 3) := by decide +kernel
theorem d_SR_sign_89 : decode prog_1_method_3_code 89 = .ok (.aload_n 0, 1) := by decide +kernel
theorem d_SR_sign_90 : decode prog_1_method_3_code 90 = .ok (.getfield 42, 3) := by decide +kernel
theorem d_SR_sign_93 : decode prog_1_method_3_code 93 = .ok (.invokevirtual 74, 3) := by decide +kernel
theorem d_SR_sign_96 : decode prog_1_method_3_code 96 = .ok (.iconst 1, 1) := by decide +kernel
theorem d_SR_sign_97 : decode prog_1_method_3_code 97 = .ok (.ireturn, 1) := by decide +kernel
theorem d_SR_isKind_0 : decode prog_1_method_23_code 0 = .ok (.iload_n 0, 1) := by decide +kernel
theorem d_SR_isKind_1 : decode prog_1_method_23_code 1 = .ok (.iconst 0, 1) := by decide +kernel
theorem d_SR_isKind_2 : decode prog_1_method_23_code 2 = .ok (.bipush 9, 2) := by decide +kernel
theorem d_SR_isKind_4 : decode prog_1_method_23_code 4 = .ok (.invokestatic 50, 3) := by decide +kernel
theorem d_SR_isKind_7 : decode prog_1_method_23_code 7 = .ok (.ireturn, 1) := by decide +kernel
theorem d_SR_isValue_0 : decode prog_1_method_24_code 0 = .ok (.iload_n 1, 1) := by decide +kernel
theorem d_SR_isValue_1 : decode prog_1_method_24_code 1 = .ok (.ifCond .eq 27, 3) := by decide +kernel
theorem d_SR_isValue_4 : decode prog_1_method_24_code 4 = .ok (.iload_n 0, 1) := by decide +kernel
theorem d_SR_isValue_5 : decode prog_1_method_24_code 5 = .ok (.invokestatic 77, 3) := by decide +kernel
theorem d_SR_isValue_8 : decode prog_1_method_24_code 8 = .ok (.ifCond .eq 24, 3) := by decide +kernel
theorem d_SR_isValue_11 : decode prog_1_method_24_code 11 = .ok (.iload_n 1, 1) := by decide +kernel
theorem d_SR_isValue_12 : decode prog_1_method_24_code 12 = .ok (.getstatic 226, 3) := by decide +kernel
theorem d_SR_isValue_15 : decode prog_1_method_24_code 15 = .ok (.iload_n 0, 1) := by decide +kernel
theorem d_SR_isValue_16 : decode prog_1_method_24_code 16 = .ok (.iaload, 1) := by decide +kernel
theorem d_SR_isValue_17 : decode prog_1_method_24_code 17 = .ok (.getstatic 230, 3) := by decide +kernel
theorem d_SR_isValue_20 : decode prog_1_method_24_code 20 = .ok (.iload_n 0, 1) := by decide +kernel
theorem d_SR_isValue_21 : decode prog_1_method_24_code 21 = .ok (.iaload, 1) := by decide +kernel
theorem d_SR_isValue_22 : decode prog_1_method_24_code 22 = .ok (.invokestatic 50, 3) := by decide +kernel
theorem d_SR_isValue_25 : decode prog_1_method_24_code 25 = .ok (.ifCond .eq 7, 3) := by decide +kernel
theorem d_SR_isValue_28 : decode prog_1_method_24_code 28 = .ok (.iconst 1, 1) := by decide +kernel
theorem d_SR_isValue_29 : decode prog_1_method_24_code 29 = .ok (.goto 4, 3) := by decide +kernel
theorem d_SR_isValue_32 : decode prog_1_method_24_code 32 = .ok (.iconst 0, 1) := by decide +kernel
theorem d_SR_isValue_33 : decode prog_1_method_24_code 33 = .ok (.ireturn, 1) := by decide +kernel
theorem d_SR_note_0 : decode prog_1_method_5_code 0 = .ok (.iload_n 1, 1) := by decide +kernel
theorem d_SR_note_1 : decode prog_1_method_5_code 1 = .ok (.invokestatic 99, 3) := by decide +kernel
theorem d_SR_note_4 : decode prog_1_method_5_code 4 = .ok (.aload_n 0, 1) := by decide +kernel
theorem d_SR_note_5 : decode prog_1_method_5_code 5 = .ok (.getfield 14, 3) := by decide +kernel
theorem d_SR_note_8 : decode prog_1_method_5_code 8 = .ok (.iload_n 2, 1) := by decide +kernel
theorem d_SR_note_9 : decode prog_1_method_5_code 9 = .ok (.invokevirtual 46, 3) := by decide +kernel
theorem d_SR_note_12 : decode prog_1_method_5_code 12 = .ok (.ifCond .eq 14, 3) := by decide +kernel
theorem d_SR_note_15 : decode prog_1_method_5_code 15 = .ok (.iload 5, 2) := by decide +kernel
theorem d_SR_note_17 : decode prog_1_method_5_code 17 = .ok (.iconst 0, 1) := by decide +kernel
theorem d_SR_note_18 : decode prog_1_method_5_code 18 = .ok (.bipush 127, 2) := by decide +kernel
theorem d_SR_note_20 : decode prog_1_method_5_code 20 = .ok (.invokestatic 50, 3) := by decide +kernel
theorem d_SR_note_23 : decode prog_1_method_5_code 23 = .ok (.ifCond .ne 13, 3) := by decide +kernel
theorem d_SR_note_26 : decode prog_1_method_5_code 26 = .ok (.new 54, 3) := by decide +kernel
theorem d_SR_note_29 : decode prog_1_method_5_code 29 = .ok (.dup, 1) := by decide +kernel
theorem d_SR_note_30 : decode prog_1_method_5_code 30 = .ok (.ldc 102, 2) := by decide +kernel
theorem d_SR_note_32 : decode prog_1_method_5_code 32 = .ok (.invokespecial 58, 3) := by decide +kernel
theorem d_SR_note_35 : decode prog_1_method_5_code 35 = .ok (.athrow, 1) := by decide +kernel
theorem d_SR_note_36 : decode prog_1_method_5_code 36 = .ok (.iload_n 3, 1) := by decide +kernel
theorem d_SR_note_37 : decode prog_1_method_5_code 37 = .ok (.ifCond .lt 24, 3) := by decide +kernel
theorem d_SR_note_40 : decode prog_1_method_5_code 40 = .ok (.iload 4, 2) := by decide +kernel
theorem d_SR_note_42 : decode prog_1_method_5_code 42 = .ok (.iconst 1, 1) := by decide +kernel
theorem d_SR_note_43 : decode prog_1_method_5_code 43 = .ok (.if_icmp .lt 18, 3) := by decide +kernel
theorem d_SR_note_46 : decode prog_1_method_5_code 46 = .ok (.iload 4, 2) := by decide +kernel
theorem d_SR_note_48 : decode prog_1_method_5_code 48 = .ok (.aload_n 0, 1) := by decide +kernel
theorem d_SR_note_49 : decode prog_1_method_5_code 49 = .ok (.getfield 14, 3) := by decide +kernel
theorem d_SR_note_52 : decode prog_1_method_5_code 52 = .ok (.iload_n 2, 1) := by decide +kernel
theorem d_SR_note_53 : decode prog_1_method_5_code 53 = .ok (.invokevirtual 104, 3) := by decide +kernel
theorem d_SR_note_56 : decode prog_1_method_5_code 56 = .ok (.iload_n 3, 1) := by decide +kernel
theorem d_SR_note_57 : decode prog_1_method_5_code 57 = .ok (.isub, 1) := by decide +kernel
theorem d_SR_note_58 : decode prog_1_method_5_code 58 = .ok (.if_icmp .le 13, 3) := by decide +kernel
theorem d_SR_note_61 : decode prog_1_method_5_code 61 = .ok (.new 54, 3) := by decide +kernel
theorem d_SR_note_64 : decode prog_1_method_5_code 64 = .ok (.dup, 1) := by decide +kernel
theorem d_SR_note_65 : decode prog_1_method_5_code 65 = .ok (.ldc 107, 2) := by decide +kernel
theorem d_SR_note_67 : decode prog_1_method_5_code 67 = .ok (.invokespecial 58, 3) := by decide +kernel
theorem d_SR_note_70 : decode prog_1_method_5_code 70 = .ok (.athrow, 1) := by decide +kernel
theorem d_SR_note_71 : decode prog_1_method_5_code 71 = .ok (.aload_n 0, 1) := by decide +kernel
theorem d_SR_note_72 : decode prog_1_method_5_code 72 = .ok (.getfield 21, 3) := by decide +kernel
theorem d_SR_note_75 : decode prog_1_method_5_code 75 = .ok (.invokevirtual 109, 3) := by decide +kernel
theorem d_SR_note_78 : decode prog_1_method_5_code 78 = .ok (.ifCond .ne 18, 3) := by decide +kernel
theorem d_SR_note_81 : decode prog_1_method_5_code 81 = .ok (.aload_n 0, 1) := by decide +kernel
theorem d_SR_note_82 : decode prog_1_method_5_code 82 = .ok (.getfield 21, 3) := by decide +kernel
theorem d_SR_note_85 : decode prog_1_method_5_code 85 = .ok (.iload_n 1, 1) := by decide +kernel
theorem d_SR_note_86 : decode prog_1_method_5_code 86 = .ok (.iload_n 2, 1) := by decide +kernel
theorem d_SR_note_87 : decode prog_1_method_5_code 87 = .ok (.iload_n 3, 1) := by decide +kernel
theorem d_SR_note_88 : decode prog_1_method_5_code 88 = .ok (.iload 5, 2) := by decide +kernel
theorem d_SR_note_90 : decode prog_1_method_5_code 90 = .ok (.invokevirtual 113, 3) := by decide +kernel
theorem d_SR_note_93 : decode prog_1_method_5_code 93 = .ok (.ifnull 13, 3) := by decide +kernel
theorem d_SR_note_96 : decode prog_1_method_5_code 96 = .ok (.new 65, 3) := by decide +kernel
theorem d_SR_note_99 : decode prog_1_method_5_code 99 = .ok (.dup, 1) := by decide +kernel
theorem d_SR_note_100 : decode prog_1_method_5_code 100 = .ok (.ldc 117, 2) := by decide +kernel
theorem d_SR_note_102 : decode prog_1_method_5_code 102 = .ok (.invokespecial 69, 3) := by decide +kernel
theorem d_SR_note_105 : decode prog_1_method_5_code 105 = .ok (.athrow, 1) := by decide +kernel
theorem d_SR_note_106 : decode prog_1_method_5_code 106 = .ok (.aload_n 0, 1) := by decide +kernel
theorem d_SR_note_107 : decode prog_1_method_5_code 107 = .ok (.getfield 21, 3) := by decide +kernel
theorem d_SR_note_110 : decode prog_1_method_5_code 110 = .ok (.new 119, 3) := by decide +kernel
theorem d_SR_note_113 : decode prog_1_method_5_code 113 = .ok (.dup, 1) := by decide +kernel
theorem d_SR_note_114 : decode prog_1_method_5_code 114 = .ok (.iload_n 1, 1) := by decide +kernel
theorem d_SR_note_115 : decode prog_1_method_5_code 115 = .ok (.iload_n 2, 1) := by decide +kernel
theorem d_SR_note_116 : decode prog_1_method_5_code 116 = .ok (.iload_n 3, 1) := by decide +kernel
theorem d_SR_note_117 : decode prog_1_method_5_code 117 = .ok (.iload 4, 2) := by decide +kernel
theorem d_SR_note_119 : decode prog_1_method_5_code 119 = .ok (.iload 5, 2) := by decide +kernel
theorem d_SR_note_121 : decode prog_1_method_5_code 121 = .ok (.iload 6, 2) := by decide +kernel
theorem d_SR_note_123 : decode prog_1_method_5_code 123 = .ok (.invokespecial 121, 3) := by decide +kernel
theorem d_SR_note_126 : decode prog_1_method_5_code 126 = .ok (.invokevirtual 124, 3) := by decide +kernel
theorem d_SR_note_129 : decode prog_1_method_5_code 129 = .ok (.aload_n 0, 1) := by decide +kernel
theorem d_SR_note_130 : decode prog_1_method_5_code 130 = .ok (.getfield 42, 3) := by decide +kernel
theorem d_SR_note_133 : decode prog_1_method_5_code 133 = .ok (.invokevirtual 74, 3) := by decide +kernel
theorem d_SR_note_136 : decode prog_1_method_5_code 136 = .ok (.aload_n 0, 1) := by decide +kernel
theorem d_SR_note_137 : decode prog_1_method_5_code 137 = .ok (.getfield 21, 3) := by decide +kernel
theorem d_SR_note_140 : decode prog_1_method_5_code 140 = .ok (.getfield 128, 3) := by decide +kernel
theorem d_SR_note_143 : decode prog_1_method_5_code 143 = .ok (.ireturn, 1) := by decide +kernel
theorem d_SR_needPart_0 : decode prog_1_method_21_code 0 = .ok (.iload_n 0, 1) := by decide +kernel
theorem d_SR_needPart_1 : decode prog_1_method_21_code 1 = .ok (.iconst 0, 1) := by decide +kernel
theorem d_SR_needPart_2 : decode prog_1_method_21_code 2 = .ok (.iconst 2, 1) := by decide +kernel
theorem d_SR_needPart_3 : decode prog_1_method_21_code 3 = .ok (.invokestatic 50, 3) := by decide +kernel
theorem d_SR_needPart_6 : decode prog_1_method_21_code 6 = .ok (.ifCond .ne 13, 3) := by decide +kernel
theorem d_SR_needPart_9 : decode prog_1_method_21_code 9 = .ok (.new 54, 3) := by decide +kernel
theorem d_SR_needPart_12 : decode prog_1_method_21_code 12 = .ok (.dup, 1) := by decide +kernel
theorem d_SR_needPart_13 : decode prog_1_method_21_code 13 = .ok (.ldc 219, 2) := by decide +kernel
theorem d_SR_needPart_15 : decode prog_1_method_21_code 15 = .ok (.invokespecial 58, 3) := by decide +kernel
theorem d_SR_needPart_18 : decode prog_1_method_21_code 18 = .ok (.athrow, 1) := by decide +kernel
theorem d_SR_needPart_19 : decode prog_1_method_21_code 19 = .ok (.return_, 1) := by decide +kernel
theorem d_Notes_isFull_0 : decode prog_5_method_2_code 0 = .ok (.aload_n 0, 1) := by decide +kernel
theorem d_Notes_isFull_1 : decode prog_5_method_2_code 1 = .ok (.getfield 17, 3) := by decide +kernel
theorem d_Notes_isFull_4 : decode prog_5_method_2_code 4 = .ok (.aload_n 0, 1) := by decide +kernel
theorem d_Notes_isFull_5 : decode prog_5_method_2_code 5 = .ok (.getfield 11, 3) := by decide +kernel
theorem d_Notes_isFull_8 : decode prog_5_method_2_code 8 = .ok (.arraylength, 1) := by decide +kernel
theorem d_Notes_isFull_9 : decode prog_5_method_2_code 9 = .ok (.if_icmp .lt 7, 3) := by decide +kernel
theorem d_Notes_isFull_12 : decode prog_5_method_2_code 12 = .ok (.iconst 1, 1) := by decide +kernel
theorem d_Notes_isFull_13 : decode prog_5_method_2_code 13 = .ok (.goto 4, 3) := by decide +kernel
theorem d_Notes_isFull_16 : decode prog_5_method_2_code 16 = .ok (.iconst 0, 1) := by decide +kernel
theorem d_Notes_isFull_17 : decode prog_5_method_2_code 17 = .ok (.ireturn, 1) := by decide +kernel
theorem d_Notes_seek_0 : decode prog_5_method_5_code 0 = .ok (.iconst 0, 1) := by decide +kernel
theorem d_Notes_seek_1 : decode prog_5_method_5_code 1 = .ok (.istore 5, 2) := by decide +kernel
theorem d_Notes_seek_3 : decode prog_5_method_5_code 3 = .ok (.iload 5, 2) := by decide +kernel
theorem d_Notes_seek_5 : decode prog_5_method_5_code 5 = .ok (.aload_n 0, 1) := by decide +kernel
theorem d_Notes_seek_6 : decode prog_5_method_5_code 6 = .ok (.getfield 17, 3) := by decide +kernel
theorem d_Notes_seek_9 : decode prog_5_method_5_code 9 = .ok (.if_icmp .ge 50, 3) := by decide +kernel
theorem d_Notes_seek_12 : decode prog_5_method_5_code 12 = .ok (.aload_n 0, 1) := by decide +kernel
theorem d_Notes_seek_13 : decode prog_5_method_5_code 13 = .ok (.getfield 11, 3) := by decide +kernel
theorem d_Notes_seek_16 : decode prog_5_method_5_code 16 = .ok (.iload 5, 2) := by decide +kernel
theorem d_Notes_seek_18 : decode prog_5_method_5_code 18 = .ok (.aaload, 1) := by decide +kernel
theorem d_Notes_seek_19 : decode prog_5_method_5_code 19 = .ok (.astore 6, 2) := by decide +kernel
theorem d_Notes_seek_21 : decode prog_5_method_5_code 21 = .ok (.aload 6, 2) := by decide +kernel
theorem d_Notes_seek_23 : decode prog_5_method_5_code 23 = .ok (.iload_n 1, 1) := by decide +kernel
theorem d_Notes_seek_24 : decode prog_5_method_5_code 24 = .ok (.iload_n 2, 1) := by decide +kernel
theorem d_Notes_seek_25 : decode prog_5_method_5_code 25 = .ok (.invokevirtual 33, 3) := by decide +kernel
theorem d_Notes_seek_28 : decode prog_5_method_5_code 28 = .ok (.ifCond .eq 25, 3) := by decide +kernel
theorem d_Notes_seek_31 : decode prog_5_method_5_code 31 = .ok (.aload 6, 2) := by decide +kernel
theorem d_Notes_seek_33 : decode prog_5_method_5_code 33 = .ok (.getfield 37, 3) := by decide +kernel
theorem d_Notes_seek_36 : decode prog_5_method_5_code 36 = .ok (.iload_n 3, 1) := by decide +kernel
theorem d_Notes_seek_37 : decode prog_5_method_5_code 37 = .ok (.if_icmp .ne 16, 3) := by decide +kernel
theorem d_Notes_seek_40 : decode prog_5_method_5_code 40 = .ok (.aload 6, 2) := by decide +kernel
theorem d_Notes_seek_42 : decode prog_5_method_5_code 42 = .ok (.getfield 40, 3) := by decide +kernel
theorem d_Notes_seek_45 : decode prog_5_method_5_code 45 = .ok (.iload 4, 2) := by decide +kernel
theorem d_Notes_seek_47 : decode prog_5_method_5_code 47 = .ok (.if_icmp .ne 6, 3) := by decide +kernel
theorem d_Notes_seek_50 : decode prog_5_method_5_code 50 = .ok (.aload 6, 2) := by decide +kernel
theorem d_Notes_seek_52 : decode prog_5_method_5_code 52 = .ok (.areturn, 1) := by decide +kernel
theorem d_Notes_seek_53 : decode prog_5_method_5_code 53 = .ok (.iinc 5 1, 3) := by decide +kernel
theorem d_Notes_seek_56 : decode prog_5_method_5_code 56 = .ok (.goto (-53), 3) := by decide +kernel
theorem d_Notes_seek_59 : decode prog_5_method_5_code 59 = .ok (.aconst_null, 1) := by decide +kernel
theorem d_Notes_seek_60 : decode prog_5_method_5_code 60 = .ok (.areturn, 1) := by decide +kernel
theorem d_Notes_add_0 : decode prog_5_method_3_code 0 = .ok (.aload_n 0, 1) := by decide +kernel
theorem d_Notes_add_1 : decode prog_5_method_3_code 1 = .ok (.invokevirtual 21, 3) := by decide +kernel
theorem d_Notes_add_4 : decode prog_5_method_3_code 4 = .ok (.ifCond .eq 4, 3) := by decide +kernel
theorem d_Notes_add_7 : decode prog_5_method_3_code 7 = .ok (.return_, 1) := by decide +kernel
theorem d_Notes_add_8 : decode prog_5_method_3_code 8 = .ok (.aload_n 0, 1) := by decide +kernel
theorem d_Notes_add_9 : decode prog_5_method_3_code 9 = .ok (.getfield 17, 3) := by decide +kernel
theorem d_Notes_add_12 : decode prog_5_method_3_code 12 = .ok (.istore_n 2, 1) := by decide +kernel
theorem d_Notes_add_13 : decode prog_5_method_3_code 13 = .ok (.iload_n 2, 1) := by decide +kernel
theorem d_Notes_add_14 : decode prog_5_method_3_code 14 = .ok (.ifCond .le 38, 3) := by decide +kernel
theorem d_Notes_add_17 : decode prog_5_method_3_code 17 = .ok (.aload_n 0, 1) := by decide +kernel
theorem d_Notes_add_18 : decode prog_5_method_3_code 18 = .ok (.getfield 11, 3) := by decide +kernel
theorem d_Notes_add_21 : decode prog_5_method_3_code 21 = .ok (.iload_n 2, 1) := by decide +kernel
theorem d_Notes_add_22 : decode prog_5_method_3_code 22 = .ok (.iconst 1, 1) := by decide +kernel
theorem d_Notes_add_23 : decode prog_5_method_3_code 23 = .ok (.isub, 1) := by decide +kernel
theorem d_Notes_add_24 : decode prog_5_method_3_code 24 = .ok (.aaload, 1) := by decide +kernel
theorem d_Notes_add_25 : decode prog_5_method_3_code 25 = .ok (.aload_n 1, 1) := by decide +kernel
theorem d_Notes_add_26 : decode prog_5_method_3_code 26 = .ok (.invokevirtual 25, 3) := by decide +kernel
theorem d_Notes_add_29 : decode prog_5_method_3_code 29 = .ok (.ifCond .eq 23, 3) := by decide +kernel
theorem d_Notes_add_32 : decode prog_5_method_3_code 32 = .ok (.aload_n 0, 1) := by decide +kernel
theorem d_Notes_add_33 : decode prog_5_method_3_code 33 = .ok (.getfield 11, 3) := by decide +kernel
theorem d_Notes_add_36 : decode prog_5_method_3_code 36 = .ok (.iload_n 2, 1) := by decide +kernel
theorem d_Notes_add_37 : decode prog_5_method_3_code 37 = .ok (.aload_n 0, 1) := by decide +kernel
theorem d_Notes_add_38 : decode prog_5_method_3_code 38 = .ok (.getfield 11, 3) := by decide +kernel
theorem d_Notes_add_41 : decode prog_5_method_3_code 41 = .ok (.iload_n 2, 1) := by decide +kernel
theorem d_Notes_add_42 : decode prog_5_method_3_code 42 = .ok (.iconst 1, 1) := by decide +kernel
theorem d_Notes_add_43 : decode prog_5_method_3_code 43 = .ok (.isub, 1) := by decide +kernel
theorem d_Notes_add_44 : decode prog_5_method_3_code 44 = .ok (.aaload, 1) := by decide +kernel
theorem d_Notes_add_45 : decode prog_5_method_3_code 45 = .ok (.aastore, 1) := by decide +kernel
theorem d_Notes_add_46 : decode prog_5_method_3_code 46 = .ok (.iinc 2 (-1), 3) := by decide +kernel
theorem d_Notes_add_49 : decode prog_5_method_3_code 49 = .ok (.goto (-36), 3) := by decide +kernel
theorem d_Notes_add_52 : decode prog_5_method_3_code 52 = .ok (.aload_n 0, 1) := by decide +kernel
theorem d_Notes_add_53 : decode prog_5_method_3_code 53 = .ok (.getfield 11, 3) := by decide +kernel
theorem d_Notes_add_56 : decode prog_5_method_3_code 56 = .ok (.iload_n 2, 1) := by decide +kernel
theorem d_Notes_add_57 : decode prog_5_method_3_code 57 = .ok (.aload_n 1, 1) := by decide +kernel
theorem d_Notes_add_58 : decode prog_5_method_3_code 58 = .ok (.aastore, 1) := by decide +kernel
theorem d_Notes_add_59 : decode prog_5_method_3_code 59 = .ok (.aload_n 0, 1) := by decide +kernel
theorem d_Notes_add_60 : decode prog_5_method_3_code 60 = .ok (.dup, 1) := by decide +kernel
theorem d_Notes_add_61 : decode prog_5_method_3_code 61 = .ok (.getfield 17, 3) := by decide +kernel
theorem d_Notes_add_64 : decode prog_5_method_3_code 64 = .ok (.iconst 1, 1) := by decide +kernel
theorem d_Notes_add_65 : decode prog_5_method_3_code 65 = .ok (.iadd, 1) := by decide +kernel
theorem d_Notes_add_66 : decode prog_5_method_3_code 66 = .ok (.putfield 17, 3) := by decide +kernel
theorem d_Notes_add_69 : decode prog_5_method_3_code 69 = .ok (.return_, 1) := by decide +kernel
theorem d_SR_transpose_0 : decode prog_1_method_6_code 0 = .ok (.iload_n 1, 1) := by decide +kernel
theorem d_SR_transpose_1 : decode prog_1_method_6_code 1 = .ok (.invokestatic 99, 3) := by decide +kernel
theorem d_SR_transpose_4 : decode prog_1_method_6_code 4 = .ok (.aload_n 0, 1) := by decide +kernel
theorem d_SR_transpose_5 : decode prog_1_method_6_code 5 = .ok (.getfield 21, 3) := by decide +kernel
theorem d_SR_transpose_8 : decode prog_1_method_6_code 8 = .ok (.iload_n 1, 1) := by decide +kernel
theorem d_SR_transpose_9 : decode prog_1_method_6_code 9 = .ok (.iload_n 2, 1) := by decide +kernel
theorem d_SR_transpose_10 : decode prog_1_method_6_code 10 = .ok (.invokevirtual 132, 3) := by decide +kernel
theorem d_SR_transpose_13 : decode prog_1_method_6_code 13 = .ok (.ifCond .ne 13, 3) := by decide +kernel
theorem d_SR_transpose_16 : decode prog_1_method_6_code 16 = .ok (.new 54, 3) := by decide +kernel
theorem d_SR_transpose_19 : decode prog_1_method_6_code 19 = .ok (.dup, 1) := by decide +kernel
theorem d_SR_transpose_20 : decode prog_1_method_6_code 20 = .ok (.ldc 135, 2) := by decide +kernel
theorem d_SR_transpose_22 : decode prog_1_method_6_code 22 = .ok (.invokespecial 58, 3) := by decide +kernel
theorem d_SR_transpose_25 : decode prog_1_method_6_code 25 = .ok (.athrow, 1) := by decide +kernel
theorem d_SR_transpose_26 : decode prog_1_method_6_code 26 = .ok (.aload_n 0, 1) := by decide +kernel
theorem d_SR_transpose_27 : decode prog_1_method_6_code 27 = .ok (.getfield 21, 3) := by decide +kernel
theorem d_SR_transpose_30 : decode prog_1_method_6_code 30 = .ok (.iload_n 1, 1) := by decide +kernel
theorem d_SR_transpose_31 : decode prog_1_method_6_code 31 = .ok (.iload_n 2, 1) := by decide +kernel
theorem d_SR_transpose_32 : decode prog_1_method_6_code 32 = .ok (.invokevirtual 137, 3) := by decide +kernel
theorem d_SR_transpose_35 : decode prog_1_method_6_code 35 = .ok (.ireturn, 1) := by decide +kernel
theorem d_Notes_canShift_0 : decode prog_5_method_8_code 0 = .ok (.iconst 0, 1) := by decide +kernel
theorem d_Notes_canShift_1 : decode prog_5_method_8_code 1 = .ok (.istore_n 3, 1) := by decide +kernel
theorem d_Notes_canShift_2 : decode prog_5_method_8_code 2 = .ok (.iload_n 3, 1) := by decide +kernel
theorem d_Notes_canShift_3 : decode prog_5_method_8_code 3 = .ok (.aload_n 0, 1) := by decide +kernel
theorem d_Notes_canShift_4 : decode prog_5_method_8_code 4 = .ok (.getfield 17, 3) := by decide +kernel
theorem d_Notes_canShift_7 : decode prog_5_method_8_code 7 = .ok (.if_icmp .ge 55, 3) := by decide +kernel
theorem d_Notes_canShift_10 : decode prog_5_method_8_code 10 = .ok (.aload_n 0, 1) := by decide +kernel
theorem d_Notes_canShift_11 : decode prog_5_method_8_code 11 = .ok (.getfield 11, 3) := by decide +kernel
theorem d_Notes_canShift_14 : decode prog_5_method_8_code 14 = .ok (.iload_n 3, 1) := by decide +kernel
theorem d_Notes_canShift_15 : decode prog_5_method_8_code 15 = .ok (.aaload, 1) := by decide +kernel
theorem d_Notes_canShift_16 : decode prog_5_method_8_code 16 = .ok (.getfield 56, 3) := by decide +kernel
theorem d_Notes_canShift_19 : decode prog_5_method_8_code 19 = .ok (.iload_n 1, 1) := by decide +kernel
theorem d_Notes_canShift_20 : decode prog_5_method_8_code 20 = .ok (.if_icmp .ne 36, 3) := by decide +kernel
theorem d_Notes_canShift_23 : decode prog_5_method_8_code 23 = .ok (.aload_n 0, 1) := by decide +kernel
theorem d_Notes_canShift_24 : decode prog_5_method_8_code 24 = .ok (.getfield 11, 3) := by decide +kernel
theorem d_Notes_canShift_27 : decode prog_5_method_8_code 27 = .ok (.iload_n 3, 1) := by decide +kernel
theorem d_Notes_canShift_28 : decode prog_5_method_8_code 28 = .ok (.aaload, 1) := by decide +kernel
theorem d_Notes_canShift_29 : decode prog_5_method_8_code 29 = .ok (.getfield 40, 3) := by decide +kernel
theorem d_Notes_canShift_32 : decode prog_5_method_8_code 32 = .ok (.i2l, 1) := by decide +kernel
theorem d_Notes_canShift_33 : decode prog_5_method_8_code 33 = .ok (.iload_n 2, 1) := by decide +kernel
theorem d_Notes_canShift_34 : decode prog_5_method_8_code 34 = .ok (.i2l, 1) := by decide +kernel
theorem d_Notes_canShift_35 : decode prog_5_method_8_code 35 = .ok (.ladd, 1) := by decide +kernel
theorem d_Notes_canShift_36 : decode prog_5_method_8_code 36 = .ok (.lstore 4, 2) := by decide +kernel
theorem d_Notes_canShift_38 : decode prog_5_method_8_code 38 = .ok (.lload 4, 2) := by decide +kernel
theorem d_Notes_canShift_40 : decode prog_5_method_8_code 40 = .ok (.lconst 0, 1) := by decide +kernel
theorem d_Notes_canShift_41 : decode prog_5_method_8_code 41 = .ok (.lcmp, 1) := by decide +kernel
theorem d_Notes_canShift_42 : decode prog_5_method_8_code 42 = .ok (.ifCond .lt 12, 3) := by decide +kernel
theorem d_Notes_canShift_45 : decode prog_5_method_8_code 45 = .ok (.lload 4, 2) := by decide +kernel
theorem d_Notes_canShift_47 : decode prog_5_method_8_code 47 = .ok (.ldc2_w 59, 3) := by decide +kernel
theorem d_Notes_canShift_50 : decode prog_5_method_8_code 50 = .ok (.lcmp, 1) := by decide +kernel
theorem d_Notes_canShift_51 : decode prog_5_method_8_code 51 = .ok (.ifCond .le 5, 3) := by decide +kernel
theorem d_Notes_canShift_54 : decode prog_5_method_8_code 54 = .ok (.iconst 0, 1) := by decide +kernel
theorem d_Notes_canShift_55 : decode prog_5_method_8_code 55 = .ok (.ireturn, 1) := by decide +kernel
theorem d_Notes_canShift_56 : decode prog_5_method_8_code 56 = .ok (.iinc 3 1, 3) := by decide +kernel
theorem d_Notes_canShift_59 : decode prog_5_method_8_code 59 = .ok (.goto (-57), 3) := by decide +kernel
theorem d_Notes_canShift_62 : decode prog_5_method_8_code 62 = .ok (.iconst 1, 1) := by decide +kernel
theorem d_Notes_canShift_63 : decode prog_5_method_8_code 63 = .ok (.ireturn, 1) := by decide +kernel
theorem d_Notes_shift_0 : decode prog_5_method_9_code 0 = .ok (.iconst 0, 1) := by decide +kernel
theorem d_Notes_shift_1 : decode prog_5_method_9_code 1 = .ok (.istore_n 3, 1) := by decide +kernel
theorem d_Notes_shift_2 : decode prog_5_method_9_code 2 = .ok (.iconst 0, 1) := by decide +kernel
theorem d_Notes_shift_3 : decode prog_5_method_9_code 3 = .ok (.istore 4, 2) := by decide +kernel
theorem d_Notes_shift_5 : decode prog_5_method_9_code 5 = .ok (.iload 4, 2) := by decide +kernel
theorem d_Notes_shift_7 : decode prog_5_method_9_code 7 = .ok (.aload_n 0, 1) := by decide +kernel
theorem d_Notes_shift_8 : decode prog_5_method_9_code 8 = .ok (.getfield 17, 3) := by decide +kernel
theorem d_Notes_shift_11 : decode prog_5_method_9_code 11 = .ok (.if_icmp .ge 42, 3) := by decide +kernel
theorem d_Notes_shift_14 : decode prog_5_method_9_code 14 = .ok (.aload_n 0, 1) := by decide +kernel
theorem d_Notes_shift_15 : decode prog_5_method_9_code 15 = .ok (.getfield 11, 3) := by decide +kernel
theorem d_Notes_shift_18 : decode prog_5_method_9_code 18 = .ok (.iload 4, 2) := by decide +kernel
theorem d_Notes_shift_20 : decode prog_5_method_9_code 20 = .ok (.aaload, 1) := by decide +kernel
theorem d_Notes_shift_21 : decode prog_5_method_9_code 21 = .ok (.getfield 56, 3) := by decide +kernel
theorem d_Notes_shift_24 : decode prog_5_method_9_code 24 = .ok (.iload_n 1, 1) := by decide +kernel
theorem d_Notes_shift_25 : decode prog_5_method_9_code 25 = .ok (.if_icmp .ne 22, 3) := by decide +kernel
theorem d_Notes_shift_28 : decode prog_5_method_9_code 28 = .ok (.aload_n 0, 1) := by decide +kernel
theorem d_Notes_shift_29 : decode prog_5_method_9_code 29 = .ok (.getfield 11, 3) := by decide +kernel
theorem d_Notes_shift_32 : decode prog_5_method_9_code 32 = .ok (.iload 4, 2) := by decide +kernel
theorem d_Notes_shift_34 : decode prog_5_method_9_code 34 = .ok (.aaload, 1) := by decide +kernel
theorem d_Notes_shift_35 : decode prog_5_method_9_code 35 = .ok (.dup, 1) := by decide +kernel
theorem d_Notes_shift_36 : decode prog_5_method_9_code 36 = .ok (.getfield 40, 3) := by decide +kernel
theorem d_Notes_shift_39 : decode prog_5_method_9_code 39 = .ok (.iload_n 2, 1) := by decide +kernel
theorem d_Notes_shift_40 : decode prog_5_method_9_code 40 = .ok (.iadd, 1) := by decide +kernel
theorem d_Notes_shift_41 : decode prog_5_method_9_code 41 = .ok (.putfield 40, 3) := by decide +kernel
theorem d_Notes_shift_44 : decode prog_5_method_9_code 44 = .ok (.iinc 3 1, 3) := by decide +kernel
theorem d_Notes_shift_47 : decode prog_5_method_9_code 47 = .ok (.iinc 4 1, 3) := by decide +kernel
theorem d_Notes_shift_50 : decode prog_5_method_9_code 50 = .ok (.goto (-45), 3) := by decide +kernel
theorem d_Notes_shift_53 : decode prog_5_method_9_code 53 = .ok (.iload_n 3, 1) := by decide +kernel
theorem d_Notes_shift_54 : decode prog_5_method_9_code 54 = .ok (.ireturn, 1) := by decide +kernel
theorem d_SR_played_0 : decode prog_1_method_9_code 0 = .ok (.aload_n 0, 1) := by decide +kernel
theorem d_SR_played_1 : decode prog_1_method_9_code 1 = .ok (.invokevirtual 147, 3) := by decide +kernel
theorem d_SR_played_4 : decode prog_1_method_9_code 4 = .ok (.iload_n 1, 1) := by decide +kernel
theorem d_SR_played_5 : decode prog_1_method_9_code 5 = .ok (.aload_n 0, 1) := by decide +kernel
theorem d_SR_played_6 : decode prog_1_method_9_code 6 = .ok (.getfield 35, 3) := by decide +kernel
theorem d_SR_played_9 : decode prog_1_method_9_code 9 = .ok (.getfield 146, 3) := by decide +kernel
theorem d_SR_played_12 : decode prog_1_method_9_code 12 = .ok (.iconst 1, 1) := by decide +kernel
theorem d_SR_played_13 : decode prog_1_method_9_code 13 = .ok (.isub, 1) := by decide +kernel
theorem d_SR_played_14 : decode prog_1_method_9_code 14 = .ok (.invokestatic 150, 3) := by decide +kernel
theorem d_SR_played_17 : decode prog_1_method_9_code 17 = .ok (.aload_n 0, 1) := by decide +kernel
theorem d_SR_played_18 : decode prog_1_method_9_code 18 = .ok (.getfield 35, 3) := by decide +kernel
theorem d_SR_played_21 : decode prog_1_method_9_code 21 = .ok (.iload_n 1, 1) := by decide +kernel
theorem d_SR_played_22 : decode prog_1_method_9_code 22 = .ok (.invokevirtual 154, 3) := by decide +kernel
theorem d_SR_played_25 : decode prog_1_method_9_code 25 = .ok (.ireturn, 1) := by decide +kernel
theorem d_SR_needRoad_0 : decode prog_1_method_20_code 0 = .ok (.aload_n 0, 1) := by decide +kernel
theorem d_SR_needRoad_1 : decode prog_1_method_20_code 1 = .ok (.invokevirtual 140, 3) := by decide +kernel
theorem d_SR_needRoad_4 : decode prog_1_method_20_code 4 = .ok (.aload_n 0, 1) := by decide +kernel
theorem d_SR_needRoad_5 : decode prog_1_method_20_code 5 = .ok (.getfield 143, 3) := by decide +kernel
theorem d_SR_needRoad_8 : decode prog_1_method_20_code 8 = .ok (.ifCond .eq 13, 3) := by decide +kernel
theorem d_SR_needRoad_11 : decode prog_1_method_20_code 11 = .ok (.new 65, 3) := by decide +kernel
theorem d_SR_needRoad_14 : decode prog_1_method_20_code 14 = .ok (.dup, 1) := by decide +kernel
theorem d_SR_needRoad_15 : decode prog_1_method_20_code 15 = .ok (.ldc 217, 2) := by decide +kernel
theorem d_SR_needRoad_17 : decode prog_1_method_20_code 17 = .ok (.invokespecial 69, 3) := by decide +kernel
theorem d_SR_needRoad_20 : decode prog_1_method_20_code 20 = .ok (.athrow, 1) := by decide +kernel
theorem d_SR_needRoad_21 : decode prog_1_method_20_code 21 = .ok (.return_, 1) := by decide +kernel
theorem d_SR_needPlayed_0 : decode prog_1_method_22_code 0 = .ok (.iload_n 0, 1) := by decide +kernel
theorem d_SR_needPlayed_1 : decode prog_1_method_22_code 1 = .ok (.iconst 0, 1) := by decide +kernel
theorem d_SR_needPlayed_2 : decode prog_1_method_22_code 2 = .ok (.iload_n 1, 1) := by decide +kernel
theorem d_SR_needPlayed_3 : decode prog_1_method_22_code 3 = .ok (.invokestatic 50, 3) := by decide +kernel
theorem d_SR_needPlayed_6 : decode prog_1_method_22_code 6 = .ok (.ifCond .ne 13, 3) := by decide +kernel
theorem d_SR_needPlayed_9 : decode prog_1_method_22_code 9 = .ok (.new 221, 3) := by decide +kernel
theorem d_SR_needPlayed_12 : decode prog_1_method_22_code 12 = .ok (.dup, 1) := by decide +kernel
theorem d_SR_needPlayed_13 : decode prog_1_method_22_code 13 = .ok (.ldc 223, 2) := by decide +kernel
theorem d_SR_needPlayed_15 : decode prog_1_method_22_code 15 = .ok (.invokespecial 225, 3) := by decide +kernel
theorem d_SR_needPlayed_18 : decode prog_1_method_22_code 18 = .ok (.athrow, 1) := by decide +kernel
theorem d_SR_needPlayed_19 : decode prog_1_method_22_code 19 = .ok (.return_, 1) := by decide +kernel
theorem d_Road_barOf_0 : decode prog_9_method_8_code 0 = .ok (.iload_n 1, 1) := by decide +kernel
theorem d_Road_barOf_1 : decode prog_9_method_8_code 1 = .ok (.iconst 0, 1) := by decide +kernel
theorem d_Road_barOf_2 : decode prog_9_method_8_code 2 = .ok (.aload_n 0, 1) := by decide +kernel
theorem d_Road_barOf_3 : decode prog_9_method_8_code 3 = .ok (.getfield 15, 3) := by decide +kernel
theorem d_Road_barOf_6 : decode prog_9_method_8_code 6 = .ok (.iconst 1, 1) := by decide +kernel
theorem d_Road_barOf_7 : decode prog_9_method_8_code 7 = .ok (.isub, 1) := by decide +kernel
theorem d_Road_barOf_8 : decode prog_9_method_8_code 8 = .ok (.invokestatic 116, 3) := by decide +kernel
theorem d_Road_barOf_11 : decode prog_9_method_8_code 11 = .ok (.ifCond .eq 12, 3) := by decide +kernel
theorem d_Road_barOf_14 : decode prog_9_method_8_code 14 = .ok (.aload_n 0, 1) := by decide +kernel
theorem d_Road_barOf_15 : decode prog_9_method_8_code 15 = .ok (.getfield 9, 3) := by decide +kernel
theorem d_Road_barOf_18 : decode prog_9_method_8_code 18 = .ok (.iload_n 1, 1) := by decide +kernel
theorem d_Road_barOf_19 : decode prog_9_method_8_code 19 = .ok (.iaload, 1) := by decide +kernel
theorem d_Road_barOf_20 : decode prog_9_method_8_code 20 = .ok (.goto 4, 3) := by decide +kernel
theorem d_Road_barOf_23 : decode prog_9_method_8_code 23 = .ok (.iconst (-1), 1) := by decide +kernel
theorem d_Road_barOf_24 : decode prog_9_method_8_code 24 = .ok (.ireturn, 1) := by decide +kernel
theorem d_SR_time_0 : decode prog_1_method_10_code 0 = .ok (.aload_n 0, 1) := by decide +kernel
theorem d_SR_time_1 : decode prog_1_method_10_code 1 = .ok (.invokevirtual 147, 3) := by decide +kernel
theorem d_SR_time_4 : decode prog_1_method_10_code 4 = .ok (.iload_n 1, 1) := by decide +kernel
theorem d_SR_time_5 : decode prog_1_method_10_code 5 = .ok (.aload_n 0, 1) := by decide +kernel
theorem d_SR_time_6 : decode prog_1_method_10_code 6 = .ok (.getfield 35, 3) := by decide +kernel
theorem d_SR_time_9 : decode prog_1_method_10_code 9 = .ok (.getfield 146, 3) := by decide +kernel
theorem d_SR_time_12 : decode prog_1_method_10_code 12 = .ok (.iconst 1, 1) := by decide +kernel
theorem d_SR_time_13 : decode prog_1_method_10_code 13 = .ok (.isub, 1) := by decide +kernel
theorem d_SR_time_14 : decode prog_1_method_10_code 14 = .ok (.invokestatic 150, 3) := by decide +kernel
theorem d_SR_time_17 : decode prog_1_method_10_code 17 = .ok (.aload_n 0, 1) := by decide +kernel
theorem d_SR_time_18 : decode prog_1_method_10_code 18 = .ok (.getfield 35, 3) := by decide +kernel
theorem d_SR_time_21 : decode prog_1_method_10_code 21 = .ok (.iload_n 1, 1) := by decide +kernel
theorem d_SR_time_22 : decode prog_1_method_10_code 22 = .ok (.invokevirtual 157, 3) := by decide +kernel
theorem d_SR_time_25 : decode prog_1_method_10_code 25 = .ok (.ireturn, 1) := by decide +kernel
theorem d_Road_timesUpTo_0 : decode prog_9_method_9_code 0 = .ok (.iconst 0, 1) := by decide +kernel
theorem d_Road_timesUpTo_1 : decode prog_9_method_9_code 1 = .ok (.istore_n 2, 1) := by decide +kernel
theorem d_Road_timesUpTo_2 : decode prog_9_method_9_code 2 = .ok (.iconst 0, 1) := by decide +kernel
theorem d_Road_timesUpTo_3 : decode prog_9_method_9_code 3 = .ok (.istore_n 3, 1) := by decide +kernel
theorem d_Road_timesUpTo_4 : decode prog_9_method_9_code 4 = .ok (.iload_n 3, 1) := by decide +kernel
theorem d_Road_timesUpTo_5 : decode prog_9_method_9_code 5 = .ok (.iload_n 1, 1) := by decide +kernel
theorem d_Road_timesUpTo_6 : decode prog_9_method_9_code 6 = .ok (.if_icmp .gt 34, 3) := by decide +kernel
theorem d_Road_timesUpTo_9 : decode prog_9_method_9_code 9 = .ok (.iload_n 3, 1) := by decide +kernel
theorem d_Road_timesUpTo_10 : decode prog_9_method_9_code 10 = .ok (.aload_n 0, 1) := by decide +kernel
theorem d_Road_timesUpTo_11 : decode prog_9_method_9_code 11 = .ok (.getfield 15, 3) := by decide +kernel
theorem d_Road_timesUpTo_14 : decode prog_9_method_9_code 14 = .ok (.if_icmp .ge 26, 3) := by decide +kernel
theorem d_Road_timesUpTo_17 : decode prog_9_method_9_code 17 = .ok (.aload_n 0, 1) := by decide +kernel
theorem d_Road_timesUpTo_18 : decode prog_9_method_9_code 18 = .ok (.getfield 9, 3) := by decide +kernel
theorem d_Road_timesUpTo_21 : decode prog_9_method_9_code 21 = .ok (.iload_n 3, 1) := by decide +kernel
theorem d_Road_timesUpTo_22 : decode prog_9_method_9_code 22 = .ok (.iaload, 1) := by decide +kernel
theorem d_Road_timesUpTo_23 : decode prog_9_method_9_code 23 = .ok (.aload_n 0, 1) := by decide +kernel
theorem d_Road_timesUpTo_24 : decode prog_9_method_9_code 24 = .ok (.iload_n 1, 1) := by decide +kernel
theorem d_Road_timesUpTo_25 : decode prog_9_method_9_code 25 = .ok (.invokevirtual 120, 3) := by decide +kernel
theorem d_Road_timesUpTo_28 : decode prog_9_method_9_code 28 = .ok (.if_icmp .ne 6, 3) := by decide +kernel
theorem d_Road_timesUpTo_31 : decode prog_9_method_9_code 31 = .ok (.iinc 2 1, 3) := by decide +kernel
theorem d_Road_timesUpTo_34 : decode prog_9_method_9_code 34 = .ok (.iinc 3 1, 3) := by decide +kernel
theorem d_Road_timesUpTo_37 : decode prog_9_method_9_code 37 = .ok (.goto (-33), 3) := by decide +kernel
theorem d_Road_timesUpTo_40 : decode prog_9_method_9_code 40 = .ok (.iload_n 2, 1) := by decide +kernel
theorem d_Road_timesUpTo_41 : decode prog_9_method_9_code 41 = .ok (.ireturn, 1) := by decide +kernel
theorem d_SR_find_0 : decode prog_1_method_11_code 0 = .ok (.aload_n 0, 1) := by decide +kernel
theorem d_SR_find_1 : decode prog_1_method_11_code 1 = .ok (.invokevirtual 147, 3) := by decide +kernel
theorem d_SR_find_4 : decode prog_1_method_11_code 4 = .ok (.aload_n 0, 1) := by decide +kernel
theorem d_SR_find_5 : decode prog_1_method_11_code 5 = .ok (.getfield 35, 3) := by decide +kernel
theorem d_SR_find_8 : decode prog_1_method_11_code 8 = .ok (.iload_n 1, 1) := by decide +kernel
theorem d_SR_find_9 : decode prog_1_method_11_code 9 = .ok (.iload_n 2, 1) := by decide +kernel
theorem d_SR_find_10 : decode prog_1_method_11_code 10 = .ok (.invokevirtual 160, 3) := by decide +kernel
theorem d_SR_find_13 : decode prog_1_method_11_code 13 = .ok (.ireturn, 1) := by decide +kernel
theorem d_Road_indexOf_0 : decode prog_9_method_10_code 0 = .ok (.iconst 0, 1) := by decide +kernel
theorem d_Road_indexOf_1 : decode prog_9_method_10_code 1 = .ok (.istore_n 3, 1) := by decide +kernel
theorem d_Road_indexOf_2 : decode prog_9_method_10_code 2 = .ok (.iconst 0, 1) := by decide +kernel
theorem d_Road_indexOf_3 : decode prog_9_method_10_code 3 = .ok (.istore 4, 2) := by decide +kernel
theorem d_Road_indexOf_5 : decode prog_9_method_10_code 5 = .ok (.iload 4, 2) := by decide +kernel
theorem d_Road_indexOf_7 : decode prog_9_method_10_code 7 = .ok (.aload_n 0, 1) := by decide +kernel
theorem d_Road_indexOf_8 : decode prog_9_method_10_code 8 = .ok (.getfield 15, 3) := by decide +kernel
theorem d_Road_indexOf_11 : decode prog_9_method_10_code 11 = .ok (.if_icmp .ge 31, 3) := by decide +kernel
theorem d_Road_indexOf_14 : decode prog_9_method_10_code 14 = .ok (.aload_n 0, 1) := by decide +kernel
theorem d_Road_indexOf_15 : decode prog_9_method_10_code 15 = .ok (.getfield 9, 3) := by decide +kernel
theorem d_Road_indexOf_18 : decode prog_9_method_10_code 18 = .ok (.iload 4, 2) := by decide +kernel
theorem d_Road_indexOf_20 : decode prog_9_method_10_code 20 = .ok (.iaload, 1) := by decide +kernel
theorem d_Road_indexOf_21 : decode prog_9_method_10_code 21 = .ok (.iload_n 1, 1) := by decide +kernel
theorem d_Road_indexOf_22 : decode prog_9_method_10_code 22 = .ok (.if_icmp .ne 14, 3) := by decide +kernel
theorem d_Road_indexOf_25 : decode prog_9_method_10_code 25 = .ok (.iinc 3 1, 3) := by decide +kernel
theorem d_Road_indexOf_28 : decode prog_9_method_10_code 28 = .ok (.iload_n 3, 1) := by decide +kernel
theorem d_Road_indexOf_29 : decode prog_9_method_10_code 29 = .ok (.iload_n 2, 1) := by decide +kernel
theorem d_Road_indexOf_30 : decode prog_9_method_10_code 30 = .ok (.if_icmp .ne 6, 3) := by decide +kernel
theorem d_Road_indexOf_33 : decode prog_9_method_10_code 33 = .ok (.iload 4, 2) := by decide +kernel
theorem d_Road_indexOf_35 : decode prog_9_method_10_code 35 = .ok (.ireturn, 1) := by decide +kernel
theorem d_Road_indexOf_36 : decode prog_9_method_10_code 36 = .ok (.iinc 4 1, 3) := by decide +kernel
theorem d_Road_indexOf_39 : decode prog_9_method_10_code 39 = .ok (.goto (-34), 3) := by decide +kernel
theorem d_Road_indexOf_42 : decode prog_9_method_10_code 42 = .ok (.iconst (-1), 1) := by decide +kernel
theorem d_Road_indexOf_43 : decode prog_9_method_10_code 43 = .ok (.ireturn, 1) := by decide +kernel
theorem d_SR_tick_0 : decode prog_1_method_12_code 0 = .ok (.aload_n 0, 1) := by decide +kernel
theorem d_SR_tick_1 : decode prog_1_method_12_code 1 = .ok (.invokevirtual 147, 3) := by decide +kernel
theorem d_SR_tick_4 : decode prog_1_method_12_code 4 = .ok (.iload_n 1, 1) := by decide +kernel
theorem d_SR_tick_5 : decode prog_1_method_12_code 5 = .ok (.aload_n 0, 1) := by decide +kernel
theorem d_SR_tick_6 : decode prog_1_method_12_code 6 = .ok (.getfield 35, 3) := by decide +kernel
theorem d_SR_tick_9 : decode prog_1_method_12_code 9 = .ok (.getfield 146, 3) := by decide +kernel
theorem d_SR_tick_12 : decode prog_1_method_12_code 12 = .ok (.invokestatic 150, 3) := by decide +kernel
theorem d_SR_tick_15 : decode prog_1_method_12_code 15 = .ok (.aload_n 0, 1) := by decide +kernel
theorem d_SR_tick_16 : decode prog_1_method_12_code 16 = .ok (.getfield 35, 3) := by decide +kernel
theorem d_SR_tick_19 : decode prog_1_method_12_code 19 = .ok (.aload_n 0, 1) := by decide +kernel
theorem d_SR_tick_20 : decode prog_1_method_12_code 20 = .ok (.getfield 14, 3) := by decide +kernel
theorem d_SR_tick_23 : decode prog_1_method_12_code 23 = .ok (.iload_n 1, 1) := by decide +kernel
theorem d_SR_tick_24 : decode prog_1_method_12_code 24 = .ok (.invokevirtual 163, 3) := by decide +kernel
theorem d_SR_tick_27 : decode prog_1_method_12_code 27 = .ok (.lreturn, 1) := by decide +kernel
theorem d_Road_ticksTo_0 : decode prog_9_method_11_code 0 = .ok (.lconst 0, 1) := by decide +kernel
theorem d_Road_ticksTo_1 : decode prog_9_method_11_code 1 = .ok (.lstore_n 3, 1) := by decide +kernel
theorem d_Road_ticksTo_2 : decode prog_9_method_11_code 2 = .ok (.iconst 0, 1) := by decide +kernel
theorem d_Road_ticksTo_3 : decode prog_9_method_11_code 3 = .ok (.istore 5, 2) := by decide +kernel
theorem d_Road_ticksTo_5 : decode prog_9_method_11_code 5 = .ok (.iload 5, 2) := by decide +kernel
theorem d_Road_ticksTo_7 : decode prog_9_method_11_code 7 = .ok (.iload_n 2, 1) := by decide +kernel
theorem d_Road_ticksTo_8 : decode prog_9_method_11_code 8 = .ok (.if_icmp .ge 32, 3) := by decide +kernel
theorem d_Road_ticksTo_11 : decode prog_9_method_11_code 11 = .ok (.iload 5, 2) := by decide +kernel
theorem d_Road_ticksTo_13 : decode prog_9_method_11_code 13 = .ok (.aload_n 0, 1) := by decide +kernel
theorem d_Road_ticksTo_14 : decode prog_9_method_11_code 14 = .ok (.getfield 15, 3) := by decide +kernel
theorem d_Road_ticksTo_17 : decode prog_9_method_11_code 17 = .ok (.if_icmp .ge 23, 3) := by decide +kernel
theorem d_Road_ticksTo_20 : decode prog_9_method_11_code 20 = .ok (.lload_n 3, 1) := by decide +kernel
theorem d_Road_ticksTo_21 : decode prog_9_method_11_code 21 = .ok (.aload_n 1, 1) := by decide +kernel
theorem d_Road_ticksTo_22 : decode prog_9_method_11_code 22 = .ok (.aload_n 0, 1) := by decide +kernel
theorem d_Road_ticksTo_23 : decode prog_9_method_11_code 23 = .ok (.getfield 9, 3) := by decide +kernel
theorem d_Road_ticksTo_26 : decode prog_9_method_11_code 26 = .ok (.iload 5, 2) := by decide +kernel
theorem d_Road_ticksTo_28 : decode prog_9_method_11_code 28 = .ok (.iaload, 1) := by decide +kernel
theorem d_Road_ticksTo_29 : decode prog_9_method_11_code 29 = .ok (.invokestatic 123, 3) := by decide +kernel
theorem d_Road_ticksTo_32 : decode prog_9_method_11_code 32 = .ok (.ladd, 1) := by decide +kernel
theorem d_Road_ticksTo_33 : decode prog_9_method_11_code 33 = .ok (.lstore_n 3, 1) := by decide +kernel
theorem d_Road_ticksTo_34 : decode prog_9_method_11_code 34 = .ok (.iinc 5 1, 3) := by decide +kernel
theorem d_Road_ticksTo_37 : decode prog_9_method_11_code 37 = .ok (.goto (-32), 3) := by decide +kernel
theorem d_Road_ticksTo_40 : decode prog_9_method_11_code 40 = .ok (.lload_n 3, 1) := by decide +kernel
theorem d_Road_ticksTo_41 : decode prog_9_method_11_code 41 = .ok (.lreturn, 1) := by decide +kernel
theorem d_Road_ticksOf_0 : decode prog_9_method_13_code 0 = .ok (.aload_n 0, 1) := by decide +kernel
theorem d_Road_ticksOf_1 : decode prog_9_method_13_code 1 = .ok (.iload_n 1, 1) := by decide +kernel
theorem d_Road_ticksOf_2 : decode prog_9_method_13_code 2 = .ok (.invokevirtual 127, 3) := by decide +kernel
theorem d_Road_ticksOf_5 : decode prog_9_method_13_code 5 = .ok (.i2l, 1) := by decide +kernel
theorem d_Road_ticksOf_6 : decode prog_9_method_13_code 6 = .ok (.aload_n 0, 1) := by decide +kernel
theorem d_Road_ticksOf_7 : decode prog_9_method_13_code 7 = .ok (.iload_n 1, 1) := by decide +kernel
theorem d_Road_ticksOf_8 : decode prog_9_method_13_code 8 = .ok (.invokevirtual 130, 3) := by decide +kernel
theorem d_Road_ticksOf_11 : decode prog_9_method_13_code 11 = .ok (.i2l, 1) := by decide +kernel
theorem d_Road_ticksOf_12 : decode prog_9_method_13_code 12 = .ok (.lmul, 1) := by decide +kernel
theorem d_Road_ticksOf_13 : decode prog_9_method_13_code 13 = .ok (.lreturn, 1) := by decide +kernel
theorem d_SR_at_0 : decode prog_1_method_13_code 0 = .ok (.aload_n 0, 1) := by decide +kernel
theorem d_SR_at_1 : decode prog_1_method_13_code 1 = .ok (.invokevirtual 147, 3) := by decide +kernel
theorem d_SR_at_4 : decode prog_1_method_13_code 4 = .ok (.aload_n 0, 1) := by decide +kernel
theorem d_SR_at_5 : decode prog_1_method_13_code 5 = .ok (.getfield 35, 3) := by decide +kernel
theorem d_SR_at_8 : decode prog_1_method_13_code 8 = .ok (.aload_n 0, 1) := by decide +kernel
theorem d_SR_at_9 : decode prog_1_method_13_code 9 = .ok (.getfield 14, 3) := by decide +kernel
theorem d_SR_at_12 : decode prog_1_method_13_code 12 = .ok (.lload_n 1, 1) := by decide +kernel
theorem d_SR_at_13 : decode prog_1_method_13_code 13 = .ok (.invokevirtual 167, 3) := by decide +kernel
theorem d_SR_at_16 : decode prog_1_method_13_code 16 = .ok (.ireturn, 1) := by decide +kernel
theorem d_Road_indexAt_0 : decode prog_9_method_12_code 0 = .ok (.lload_n 2, 1) := by decide +kernel
theorem d_Road_indexAt_1 : decode prog_9_method_12_code 1 = .ok (.lconst 0, 1) := by decide +kernel
theorem d_Road_indexAt_2 : decode prog_9_method_12_code 2 = .ok (.lcmp, 1) := by decide +kernel
theorem d_Road_indexAt_3 : decode prog_9_method_12_code 3 = .ok (.ifCond .ge 5, 3) := by decide +kernel
theorem d_Road_indexAt_6 : decode prog_9_method_12_code 6 = .ok (.iconst (-1), 1) := by decide +kernel
theorem d_Road_indexAt_7 : decode prog_9_method_12_code 7 = .ok (.ireturn, 1) := by decide +kernel
theorem d_Road_indexAt_8 : decode prog_9_method_12_code 8 = .ok (.lconst 0, 1) := by decide +kernel
theorem d_Road_indexAt_9 : decode prog_9_method_12_code 9 = .ok (.lstore 4, 2) := by decide +kernel
theorem d_Road_indexAt_11 : decode prog_9_method_12_code 11 = .ok (.iconst 0, 1) := by decide +kernel
theorem d_Road_indexAt_12 : decode prog_9_method_12_code 12 = .ok (.istore 6, 2) := by decide +kernel
theorem d_Road_indexAt_14 : decode prog_9_method_12_code 14 = .ok (.iload 6, 2) := by decide +kernel
theorem d_Road_indexAt_16 : decode prog_9_method_12_code 16 = .ok (.aload_n 0, 1) := by decide +kernel
theorem d_Road_indexAt_17 : decode prog_9_method_12_code 17 = .ok (.getfield 15, 3) := by decide +kernel
theorem d_Road_indexAt_20 : decode prog_9_method_12_code 20 = .ok (.if_icmp .ge 35, 3) := by decide +kernel
theorem d_Road_indexAt_23 : decode prog_9_method_12_code 23 = .ok (.lload 4, 2) := by decide +kernel
theorem d_Road_indexAt_25 : decode prog_9_method_12_code 25 = .ok (.aload_n 1, 1) := by decide +kernel
theorem d_Road_indexAt_26 : decode prog_9_method_12_code 26 = .ok (.aload_n 0, 1) := by decide +kernel
theorem d_Road_indexAt_27 : decode prog_9_method_12_code 27 = .ok (.getfield 9, 3) := by decide +kernel
theorem d_Road_indexAt_30 : decode prog_9_method_12_code 30 = .ok (.iload 6, 2) := by decide +kernel
theorem d_Road_indexAt_32 : decode prog_9_method_12_code 32 = .ok (.iaload, 1) := by decide +kernel
theorem d_Road_indexAt_33 : decode prog_9_method_12_code 33 = .ok (.invokestatic 123, 3) := by decide +kernel
theorem d_Road_indexAt_36 : decode prog_9_method_12_code 36 = .ok (.ladd, 1) := by decide +kernel
theorem d_Road_indexAt_37 : decode prog_9_method_12_code 37 = .ok (.lstore 4, 2) := by decide +kernel
theorem d_Road_indexAt_39 : decode prog_9_method_12_code 39 = .ok (.lload_n 2, 1) := by decide +kernel
theorem d_Road_indexAt_40 : decode prog_9_method_12_code 40 = .ok (.lload 4, 2) := by decide +kernel
theorem d_Road_indexAt_42 : decode prog_9_method_12_code 42 = .ok (.lcmp, 1) := by decide +kernel
theorem d_Road_indexAt_43 : decode prog_9_method_12_code 43 = .ok (.ifCond .ge 6, 3) := by decide +kernel
theorem d_Road_indexAt_46 : decode prog_9_method_12_code 46 = .ok (.iload 6, 2) := by decide +kernel
theorem d_Road_indexAt_48 : decode prog_9_method_12_code 48 = .ok (.ireturn, 1) := by decide +kernel
theorem d_Road_indexAt_49 : decode prog_9_method_12_code 49 = .ok (.iinc 6 1, 3) := by decide +kernel
theorem d_Road_indexAt_52 : decode prog_9_method_12_code 52 = .ok (.goto (-38), 3) := by decide +kernel
theorem d_Road_indexAt_55 : decode prog_9_method_12_code 55 = .ok (.iconst (-1), 1) := by decide +kernel
theorem d_Road_indexAt_56 : decode prog_9_method_12_code 56 = .ok (.ireturn, 1) := by decide +kernel
theorem d_SR_sounds_0 : decode prog_1_method_14_code 0 = .ok (.iload_n 1, 1) := by decide +kernel
theorem d_SR_sounds_1 : decode prog_1_method_14_code 1 = .ok (.invokestatic 99, 3) := by decide +kernel
theorem d_SR_sounds_4 : decode prog_1_method_14_code 4 = .ok (.aload_n 0, 1) := by decide +kernel
theorem d_SR_sounds_5 : decode prog_1_method_14_code 5 = .ok (.invokevirtual 147, 3) := by decide +kernel
theorem d_SR_sounds_8 : decode prog_1_method_14_code 8 = .ok (.aload_n 0, 1) := by decide +kernel
theorem d_SR_sounds_9 : decode prog_1_method_14_code 9 = .ok (.getfield 42, 3) := by decide +kernel
theorem d_SR_sounds_12 : decode prog_1_method_14_code 12 = .ok (.iload_n 1, 1) := by decide +kernel
theorem d_SR_sounds_13 : decode prog_1_method_14_code 13 = .ok (.aload_n 0, 1) := by decide +kernel
theorem d_SR_sounds_14 : decode prog_1_method_14_code 14 = .ok (.getfield 14, 3) := by decide +kernel
theorem d_SR_sounds_17 : decode prog_1_method_14_code 17 = .ok (.aload_n 0, 1) := by decide +kernel
theorem d_SR_sounds_18 : decode prog_1_method_14_code 18 = .ok (.getfield 21, 3) := by decide +kernel
theorem d_SR_sounds_21 : decode prog_1_method_14_code 21 = .ok (.aload_n 0, 1) := by decide +kernel
theorem d_SR_sounds_22 : decode prog_1_method_14_code 22 = .ok (.getfield 35, 3) := by decide +kernel
theorem d_SR_sounds_25 : decode prog_1_method_14_code 25 = .ok (.invokevirtual 171, 3) := by decide +kernel
theorem d_SR_sounds_28 : decode prog_1_method_14_code 28 = .ok (.aload_n 0, 1) := by decide +kernel
theorem d_SR_sounds_29 : decode prog_1_method_14_code 29 = .ok (.getfield 42, 3) := by decide +kernel
theorem d_SR_sounds_32 : decode prog_1_method_14_code 32 = .ok (.getfield 175, 3) := by decide +kernel
theorem d_SR_sounds_35 : decode prog_1_method_14_code 35 = .ok (.ireturn, 1) := by decide +kernel
theorem d_Sounding_know_0 : decode prog_10_method_3_code 0 = .ok (.aload_n 0, 1) := by decide +kernel
theorem d_Sounding_know_1 : decode prog_10_method_3_code 1 = .ok (.getfield 21, 3) := by decide +kernel
theorem d_Sounding_know_4 : decode prog_10_method_3_code 4 = .ok (.iload_n 1, 1) := by decide +kernel
theorem d_Sounding_know_5 : decode prog_10_method_3_code 5 = .ok (.if_icmp .ne 4, 3) := by decide +kernel
theorem d_Sounding_know_8 : decode prog_10_method_3_code 8 = .ok (.return_, 1) := by decide +kernel
theorem d_Sounding_know_9 : decode prog_10_method_3_code 9 = .ok (.aload_n 0, 1) := by decide +kernel
theorem d_Sounding_know_10 : decode prog_10_method_3_code 10 = .ok (.iconst 0, 1) := by decide +kernel
theorem d_Sounding_know_11 : decode prog_10_method_3_code 11 = .ok (.putfield 25, 3) := by decide +kernel
theorem d_Sounding_know_14 : decode prog_10_method_3_code 14 = .ok (.iconst 0, 1) := by decide +kernel
theorem d_Sounding_know_15 : decode prog_10_method_3_code 15 = .ok (.istore 5, 2) := by decide +kernel
theorem d_Sounding_know_17 : decode prog_10_method_3_code 17 = .ok (.iload 5, 2) := by decide +kernel
theorem d_Sounding_know_19 : decode prog_10_method_3_code 19 = .ok (.aload 4, 2) := by decide +kernel
theorem d_Sounding_know_21 : decode prog_10_method_3_code 21 = .ok (.getfield 28, 3) := by decide +kernel
theorem d_Sounding_know_24 : decode prog_10_method_3_code 24 = .ok (.if_icmp .ge 20, 3) := by decide +kernel
theorem d_Sounding_know_27 : decode prog_10_method_3_code 27 = .ok (.aload_n 0, 1) := by decide +kernel
theorem d_Sounding_know_28 : decode prog_10_method_3_code 28 = .ok (.iload_n 1, 1) := by decide +kernel
theorem d_Sounding_know_29 : decode prog_10_method_3_code 29 = .ok (.iload 5, 2) := by decide +kernel
theorem d_Sounding_know_31 : decode prog_10_method_3_code 31 = .ok (.aload_n 2, 1) := by decide +kernel
theorem d_Sounding_know_32 : decode prog_10_method_3_code 32 = .ok (.aload_n 3, 1) := by decide +kernel
theorem d_Sounding_know_33 : decode prog_10_method_3_code 33 = .ok (.aload 4, 2) := by decide +kernel
theorem d_Sounding_know_35 : decode prog_10_method_3_code 35 = .ok (.invokevirtual 31, 3) := by decide +kernel
theorem d_Sounding_know_38 : decode prog_10_method_3_code 38 = .ok (.iinc 5 1, 3) := by decide +kernel
theorem d_Sounding_know_41 : decode prog_10_method_3_code 41 = .ok (.goto (-24), 3) := by decide +kernel
theorem d_Sounding_know_44 : decode prog_10_method_3_code 44 = .ok (.aload_n 0, 1) := by decide +kernel
theorem d_Sounding_know_45 : decode prog_10_method_3_code 45 = .ok (.iload_n 1, 1) := by decide +kernel
theorem d_Sounding_know_46 : decode prog_10_method_3_code 46 = .ok (.putfield 21, 3) := by decide +kernel
theorem d_Sounding_know_49 : decode prog_10_method_3_code 49 = .ok (.return_, 1) := by decide +kernel
theorem d_Sounding_gather_0 : decode prog_10_method_4_code 0 = .ok (.iconst 0, 1) := by decide +kernel
theorem d_Sounding_gather_1 : decode prog_10_method_4_code 1 = .ok (.istore 6, 2) := by decide +kernel
theorem d_Sounding_gather_3 : decode prog_10_method_4_code 3 = .ok (.iload 6, 2) := by decide +kernel
theorem d_Sounding_gather_5 : decode prog_10_method_4_code 5 = .ok (.aload 4, 2) := by decide +kernel
theorem d_Sounding_gather_7 : decode prog_10_method_4_code 7 = .ok (.getfield 35, 3) := by decide +kernel
theorem d_Sounding_gather_10 : decode prog_10_method_4_code 10 = .ok (.if_icmp .ge 100, 3) := by decide +kernel
theorem d_Sounding_gather_13 : decode prog_10_method_4_code 13 = .ok (.aload_n 0, 1) := by decide +kernel
theorem d_Sounding_gather_14 : decode prog_10_method_4_code 14 = .ok (.getfield 25, 3) := by decide +kernel
theorem d_Sounding_gather_17 : decode prog_10_method_4_code 17 = .ok (.aload_n 0, 1) := by decide +kernel
theorem d_Sounding_gather_18 : decode prog_10_method_4_code 18 = .ok (.getfield 11, 3) := by decide +kernel
theorem d_Sounding_gather_21 : decode prog_10_method_4_code 21 = .ok (.arraylength, 1) := by decide +kernel
theorem d_Sounding_gather_22 : decode prog_10_method_4_code 22 = .ok (.if_icmp .ge 88, 3) := by decide +kernel
theorem d_Sounding_gather_25 : decode prog_10_method_4_code 25 = .ok (.aload 4, 2) := by decide +kernel
theorem d_Sounding_gather_27 : decode prog_10_method_4_code 27 = .ok (.iload 6, 2) := by decide +kernel
theorem d_Sounding_gather_29 : decode prog_10_method_4_code 29 = .ok (.invokevirtual 38, 3) := by decide +kernel
theorem d_Sounding_gather_32 : decode prog_10_method_4_code 32 = .ok (.astore 7, 2) := by decide +kernel
theorem d_Sounding_gather_34 : decode prog_10_method_4_code 34 = .ok (.aload 7, 2) := by decide +kernel
theorem d_Sounding_gather_36 : decode prog_10_method_4_code 36 = .ok (.ifnull 68, 3) := by decide +kernel
theorem d_Sounding_gather_39 : decode prog_10_method_4_code 39 = .ok (.aload 7, 2) := by decide +kernel
theorem d_Sounding_gather_41 : decode prog_10_method_4_code 41 = .ok (.iload_n 1, 1) := by decide +kernel
theorem d_Sounding_gather_42 : decode prog_10_method_4_code 42 = .ok (.aload 5, 2) := by decide +kernel
theorem d_Sounding_gather_44 : decode prog_10_method_4_code 44 = .ok (.iload_n 2, 1) := by decide +kernel
theorem d_Sounding_gather_45 : decode prog_10_method_4_code 45 = .ok (.invokevirtual 42, 3) := by decide +kernel
theorem d_Sounding_gather_48 : decode prog_10_method_4_code 48 = .ok (.invokevirtual 46, 3) := by decide +kernel
theorem d_Sounding_gather_51 : decode prog_10_method_4_code 51 = .ok (.ifCond .eq 53, 3) := by decide +kernel
theorem d_Sounding_gather_54 : decode prog_10_method_4_code 54 = .ok (.aload 4, 2) := by decide +kernel
theorem d_Sounding_gather_56 : decode prog_10_method_4_code 56 = .ok (.aload 7, 2) := by decide +kernel
theorem d_Sounding_gather_58 : decode prog_10_method_4_code 58 = .ok (.aload_n 3, 1) := by decide +kernel
theorem d_Sounding_gather_59 : decode prog_10_method_4_code 59 = .ok (.aload 5, 2) := by decide +kernel
theorem d_Sounding_gather_61 : decode prog_10_method_4_code 61 = .ok (.iload_n 2, 1) := by decide +kernel
theorem d_Sounding_gather_62 : decode prog_10_method_4_code 62 = .ok (.iconst 1, 1) := by decide +kernel
theorem d_Sounding_gather_63 : decode prog_10_method_4_code 63 = .ok (.isub, 1) := by decide +kernel
theorem d_Sounding_gather_64 : decode prog_10_method_4_code 64 = .ok (.invokevirtual 42, 3) := by decide +kernel
theorem d_Sounding_gather_67 : decode prog_10_method_4_code 67 = .ok (.invokevirtual 50, 3) := by decide +kernel
theorem d_Sounding_gather_70 : decode prog_10_method_4_code 70 = .ok (.ifCond .ne 34, 3) := by decide +kernel
theorem d_Sounding_gather_73 : decode prog_10_method_4_code 73 = .ok (.aload_n 0, 1) := by decide +kernel
theorem d_Sounding_gather_74 : decode prog_10_method_4_code 74 = .ok (.getfield 11, 3) := by decide +kernel
theorem d_Sounding_gather_77 : decode prog_10_method_4_code 77 = .ok (.aload_n 0, 1) := by decide +kernel
theorem d_Sounding_gather_78 : decode prog_10_method_4_code 78 = .ok (.getfield 25, 3) := by decide +kernel
theorem d_Sounding_gather_81 : decode prog_10_method_4_code 81 = .ok (.aload 7, 2) := by decide +kernel
theorem d_Sounding_gather_83 : decode prog_10_method_4_code 83 = .ok (.aastore, 1) := by decide +kernel
theorem d_Sounding_gather_84 : decode prog_10_method_4_code 84 = .ok (.aload_n 0, 1) := by decide +kernel
theorem d_Sounding_gather_85 : decode prog_10_method_4_code 85 = .ok (.getfield 17, 3) := by decide +kernel
theorem d_Sounding_gather_88 : decode prog_10_method_4_code 88 = .ok (.aload_n 0, 1) := by decide +kernel
theorem d_Sounding_gather_89 : decode prog_10_method_4_code 89 = .ok (.getfield 25, 3) := by decide +kernel
theorem d_Sounding_gather_92 : decode prog_10_method_4_code 92 = .ok (.iload_n 2, 1) := by decide +kernel
theorem d_Sounding_gather_93 : decode prog_10_method_4_code 93 = .ok (.iastore, 1) := by decide +kernel
theorem d_Sounding_gather_94 : decode prog_10_method_4_code 94 = .ok (.aload_n 0, 1) := by decide +kernel
theorem d_Sounding_gather_95 : decode prog_10_method_4_code 95 = .ok (.dup, 1) := by decide +kernel
theorem d_Sounding_gather_96 : decode prog_10_method_4_code 96 = .ok (.getfield 25, 3) := by decide +kernel
theorem d_Sounding_gather_99 : decode prog_10_method_4_code 99 = .ok (.iconst 1, 1) := by decide +kernel
theorem d_Sounding_gather_100 : decode prog_10_method_4_code 100 = .ok (.iadd, 1) := by decide +kernel
theorem d_Sounding_gather_101 : decode prog_10_method_4_code 101 = .ok (.putfield 25, 3) := by decide +kernel
theorem d_Sounding_gather_104 : decode prog_10_method_4_code 104 = .ok (.iinc 6 1, 3) := by decide +kernel
theorem d_Sounding_gather_107 : decode prog_10_method_4_code 107 = .ok (.goto (-104), 3) := by decide +kernel
theorem d_Sounding_gather_110 : decode prog_10_method_4_code 110 = .ok (.return_, 1) := by decide +kernel
theorem d_Notes_get_0 : decode prog_5_method_4_code 0 = .ok (.iload_n 1, 1) := by decide +kernel
theorem d_Notes_get_1 : decode prog_5_method_4_code 1 = .ok (.iconst 0, 1) := by decide +kernel
theorem d_Notes_get_2 : decode prog_5_method_4_code 2 = .ok (.aload_n 0, 1) := by decide +kernel
theorem d_Notes_get_3 : decode prog_5_method_4_code 3 = .ok (.getfield 17, 3) := by decide +kernel
theorem d_Notes_get_6 : decode prog_5_method_4_code 6 = .ok (.iconst 1, 1) := by decide +kernel
theorem d_Notes_get_7 : decode prog_5_method_4_code 7 = .ok (.isub, 1) := by decide +kernel
theorem d_Notes_get_8 : decode prog_5_method_4_code 8 = .ok (.invokestatic 29, 3) := by decide +kernel
theorem d_Notes_get_11 : decode prog_5_method_4_code 11 = .ok (.ifCond .eq 12, 3) := by decide +kernel
theorem d_Notes_get_14 : decode prog_5_method_4_code 14 = .ok (.aload_n 0, 1) := by decide +kernel
theorem d_Notes_get_15 : decode prog_5_method_4_code 15 = .ok (.getfield 11, 3) := by decide +kernel
theorem d_Notes_get_18 : decode prog_5_method_4_code 18 = .ok (.iload_n 1, 1) := by decide +kernel
theorem d_Notes_get_19 : decode prog_5_method_4_code 19 = .ok (.aaload, 1) := by decide +kernel
theorem d_Notes_get_20 : decode prog_5_method_4_code 20 = .ok (.goto 4, 3) := by decide +kernel
theorem d_Notes_get_23 : decode prog_5_method_4_code 23 = .ok (.aconst_null, 1) := by decide +kernel
theorem d_Notes_get_24 : decode prog_5_method_4_code 24 = .ok (.areturn, 1) := by decide +kernel
theorem d_Notes_isGoingOn_0 : decode prog_5_method_11_code 0 = .ok (.aload_n 1, 1) := by decide +kernel
theorem d_Notes_isGoingOn_1 : decode prog_5_method_11_code 1 = .ok (.getfield 37, 3) := by decide +kernel
theorem d_Notes_isGoingOn_4 : decode prog_5_method_11_code 4 = .ok (.ifCond .eq 5, 3) := by decide +kernel
theorem d_Notes_isGoingOn_7 : decode prog_5_method_11_code 7 = .ok (.iconst 0, 1) := by decide +kernel
theorem d_Notes_isGoingOn_8 : decode prog_5_method_11_code 8 = .ok (.ireturn, 1) := by decide +kernel
theorem d_Notes_isGoingOn_9 : decode prog_5_method_11_code 9 = .ok (.iconst 0, 1) := by decide +kernel
theorem d_Notes_isGoingOn_10 : decode prog_5_method_11_code 10 = .ok (.istore 4, 2) := by decide +kernel
theorem d_Notes_isGoingOn_12 : decode prog_5_method_11_code 12 = .ok (.iload 4, 2) := by decide +kernel
theorem d_Notes_isGoingOn_14 : decode prog_5_method_11_code 14 = .ok (.aload_n 0, 1) := by decide +kernel
theorem d_Notes_isGoingOn_15 : decode prog_5_method_11_code 15 = .ok (.getfield 17, 3) := by decide +kernel
theorem d_Notes_isGoingOn_18 : decode prog_5_method_11_code 18 = .ok (.if_icmp .ge 54, 3) := by decide +kernel
theorem d_Notes_isGoingOn_21 : decode prog_5_method_11_code 21 = .ok (.aload_n 0, 1) := by decide +kernel
theorem d_Notes_isGoingOn_22 : decode prog_5_method_11_code 22 = .ok (.getfield 11, 3) := by decide +kernel
theorem d_Notes_isGoingOn_25 : decode prog_5_method_11_code 25 = .ok (.iload 4, 2) := by decide +kernel
theorem d_Notes_isGoingOn_27 : decode prog_5_method_11_code 27 = .ok (.aaload, 1) := by decide +kernel
theorem d_Notes_isGoingOn_28 : decode prog_5_method_11_code 28 = .ok (.astore 5, 2) := by decide +kernel
theorem d_Notes_isGoingOn_30 : decode prog_5_method_11_code 30 = .ok (.aload 5, 2) := by decide +kernel
theorem d_Notes_isGoingOn_32 : decode prog_5_method_11_code 32 = .ok (.aload_n 1, 1) := by decide +kernel
theorem d_Notes_isGoingOn_33 : decode prog_5_method_11_code 33 = .ok (.getfield 56, 3) := by decide +kernel
theorem d_Notes_isGoingOn_36 : decode prog_5_method_11_code 36 = .ok (.iload_n 3, 1) := by decide +kernel
theorem d_Notes_isGoingOn_37 : decode prog_5_method_11_code 37 = .ok (.invokevirtual 33, 3) := by decide +kernel
theorem d_Notes_isGoingOn_40 : decode prog_5_method_11_code 40 = .ok (.ifCond .eq 26, 3) := by decide +kernel
theorem d_Notes_isGoingOn_43 : decode prog_5_method_11_code 43 = .ok (.aload 5, 2) := by decide +kernel
theorem d_Notes_isGoingOn_45 : decode prog_5_method_11_code 45 = .ok (.getfield 40, 3) := by decide +kernel
theorem d_Notes_isGoingOn_48 : decode prog_5_method_11_code 48 = .ok (.aload_n 1, 1) := by decide +kernel
theorem d_Notes_isGoingOn_49 : decode prog_5_method_11_code 49 = .ok (.getfield 40, 3) := by decide +kernel
theorem d_Notes_isGoingOn_52 : decode prog_5_method_11_code 52 = .ok (.if_icmp .ne 14, 3) := by decide +kernel
theorem d_Notes_isGoingOn_55 : decode prog_5_method_11_code 55 = .ok (.aload 5, 2) := by decide +kernel
theorem d_Notes_isGoingOn_57 : decode prog_5_method_11_code 57 = .ok (.aload_n 2, 1) := by decide +kernel
theorem d_Notes_isGoingOn_58 : decode prog_5_method_11_code 58 = .ok (.invokevirtual 61, 3) := by decide +kernel
theorem d_Notes_isGoingOn_61 : decode prog_5_method_11_code 61 = .ok (.ifCond .eq 5, 3) := by decide +kernel
theorem d_Notes_isGoingOn_64 : decode prog_5_method_11_code 64 = .ok (.iconst 1, 1) := by decide +kernel
theorem d_Notes_isGoingOn_65 : decode prog_5_method_11_code 65 = .ok (.ireturn, 1) := by decide +kernel
theorem d_Notes_isGoingOn_66 : decode prog_5_method_11_code 66 = .ok (.iinc 4 1, 3) := by decide +kernel
theorem d_Notes_isGoingOn_69 : decode prog_5_method_11_code 69 = .ok (.goto (-57), 3) := by decide +kernel
theorem d_Notes_isGoingOn_72 : decode prog_5_method_11_code 72 = .ok (.iconst 0, 1) := by decide +kernel
theorem d_Notes_isGoingOn_73 : decode prog_5_method_11_code 73 = .ok (.ireturn, 1) := by decide +kernel
theorem d_SR_sound_0 : decode prog_1_method_15_code 0 = .ok (.iload_n 1, 1) := by decide +kernel
theorem d_SR_sound_1 : decode prog_1_method_15_code 1 = .ok (.invokestatic 99, 3) := by decide +kernel
theorem d_SR_sound_4 : decode prog_1_method_15_code 4 = .ok (.aload_n 0, 1) := by decide +kernel
theorem d_SR_sound_5 : decode prog_1_method_15_code 5 = .ok (.invokevirtual 147, 3) := by decide +kernel
theorem d_SR_sound_8 : decode prog_1_method_15_code 8 = .ok (.aload_n 0, 1) := by decide +kernel
theorem d_SR_sound_9 : decode prog_1_method_15_code 9 = .ok (.getfield 42, 3) := by decide +kernel
theorem d_SR_sound_12 : decode prog_1_method_15_code 12 = .ok (.iload_n 1, 1) := by decide +kernel
theorem d_SR_sound_13 : decode prog_1_method_15_code 13 = .ok (.aload_n 0, 1) := by decide +kernel
theorem d_SR_sound_14 : decode prog_1_method_15_code 14 = .ok (.getfield 14, 3) := by decide +kernel
theorem d_SR_sound_17 : decode prog_1_method_15_code 17 = .ok (.aload_n 0, 1) := by decide +kernel
theorem d_SR_sound_18 : decode prog_1_method_15_code 18 = .ok (.getfield 21, 3) := by decide +kernel
theorem d_SR_sound_21 : decode prog_1_method_15_code 21 = .ok (.aload_n 0, 1) := by decide +kernel
theorem d_SR_sound_22 : decode prog_1_method_15_code 22 = .ok (.getfield 35, 3) := by decide +kernel
theorem d_SR_sound_25 : decode prog_1_method_15_code 25 = .ok (.invokevirtual 171, 3) := by decide +kernel
theorem d_SR_sound_28 : decode prog_1_method_15_code 28 = .ok (.iload_n 2, 1) := by decide +kernel
theorem d_SR_sound_29 : decode prog_1_method_15_code 29 = .ok (.iconst 0, 1) := by decide +kernel
theorem d_SR_sound_30 : decode prog_1_method_15_code 30 = .ok (.aload_n 0, 1) := by decide +kernel
theorem d_SR_sound_31 : decode prog_1_method_15_code 31 = .ok (.getfield 42, 3) := by decide +kernel
theorem d_SR_sound_34 : decode prog_1_method_15_code 34 = .ok (.getfield 175, 3) := by decide +kernel
theorem d_SR_sound_37 : decode prog_1_method_15_code 37 = .ok (.iconst 1, 1) := by decide +kernel
theorem d_SR_sound_38 : decode prog_1_method_15_code 38 = .ok (.isub, 1) := by decide +kernel
theorem d_SR_sound_39 : decode prog_1_method_15_code 39 = .ok (.invokestatic 50, 3) := by decide +kernel
theorem d_SR_sound_42 : decode prog_1_method_15_code 42 = .ok (.ifCond .ne 7, 3) := by decide +kernel
theorem d_SR_sound_45 : decode prog_1_method_15_code 45 = .ok (.ldc2_w 176, 3) := by decide +kernel
theorem d_SR_sound_48 : decode prog_1_method_15_code 48 = .ok (.lreturn, 1) := by decide +kernel
theorem d_SR_sound_49 : decode prog_1_method_15_code 49 = .ok (.iload_n 3, 1) := by decide +kernel
theorem d_SR_sound_50 : decode prog_1_method_15_code 50 = .ok (.tableswitch 101 0 3 #[30, 47, 57, 79], 30) := by decide +kernel
theorem d_SR_sound_80 : decode prog_1_method_15_code 80 = .ok (.aload_n 0, 1) := by decide +kernel
theorem d_SR_sound_81 : decode prog_1_method_15_code 81 = .ok (.getfield 42, 3) := by decide +kernel
theorem d_SR_sound_84 : decode prog_1_method_15_code 84 = .ok (.iload_n 2, 1) := by decide +kernel
theorem d_SR_sound_85 : decode prog_1_method_15_code 85 = .ok (.aload_n 0, 1) := by decide +kernel
theorem d_SR_sound_86 : decode prog_1_method_15_code 86 = .ok (.getfield 14, 3) := by decide +kernel
theorem d_SR_sound_89 : decode prog_1_method_15_code 89 = .ok (.aload_n 0, 1) := by decide +kernel
theorem d_SR_sound_90 : decode prog_1_method_15_code 90 = .ok (.getfield 35, 3) := by decide +kernel
theorem d_SR_sound_93 : decode prog_1_method_15_code 93 = .ok (.invokevirtual 178, 3) := by decide +kernel
theorem d_SR_sound_96 : decode prog_1_method_15_code 96 = .ok (.lreturn, 1) := by decide +kernel
theorem d_SR_sound_97 : decode prog_1_method_15_code 97 = .ok (.aload_n 0, 1) := by decide +kernel
theorem d_SR_sound_98 : decode prog_1_method_15_code 98 = .ok (.getfield 42, 3) := by decide +kernel
theorem d_SR_sound_101 : decode prog_1_method_15_code 101 = .ok (.iload_n 2, 1) := by decide +kernel
theorem d_SR_sound_102 : decode prog_1_method_15_code 102 = .ok (.invokevirtual 182, 3) := by decide +kernel
theorem d_SR_sound_105 : decode prog_1_method_15_code 105 = .ok (.i2l, 1) := by decide +kernel
theorem d_SR_sound_106 : decode prog_1_method_15_code 106 = .ok (.lreturn, 1) := by decide +kernel
theorem d_SR_sound_107 : decode prog_1_method_15_code 107 = .ok (.aload_n 0, 1) := by decide +kernel
theorem d_SR_sound_108 : decode prog_1_method_15_code 108 = .ok (.getfield 42, 3) := by decide +kernel
theorem d_SR_sound_111 : decode prog_1_method_15_code 111 = .ok (.iload_n 2, 1) := by decide +kernel
theorem d_SR_sound_112 : decode prog_1_method_15_code 112 = .ok (.iconst 0, 1) := by decide +kernel
theorem d_SR_sound_113 : decode prog_1_method_15_code 113 = .ok (.aload_n 0, 1) := by decide +kernel
theorem d_SR_sound_114 : decode prog_1_method_15_code 114 = .ok (.getfield 14, 3) := by decide +kernel
theorem d_SR_sound_117 : decode prog_1_method_15_code 117 = .ok (.aload_n 0, 1) := by decide +kernel
theorem d_SR_sound_118 : decode prog_1_method_15_code 118 = .ok (.getfield 21, 3) := by decide +kernel
theorem d_SR_sound_121 : decode prog_1_method_15_code 121 = .ok (.aload_n 0, 1) := by decide +kernel
theorem d_SR_sound_122 : decode prog_1_method_15_code 122 = .ok (.getfield 35, 3) := by decide +kernel
theorem d_SR_sound_125 : decode prog_1_method_15_code 125 = .ok (.invokevirtual 185, 3) := by decide +kernel
theorem d_SR_sound_128 : decode prog_1_method_15_code 128 = .ok (.lreturn, 1) := by decide +kernel
theorem d_SR_sound_129 : decode prog_1_method_15_code 129 = .ok (.aload_n 0, 1) := by decide +kernel
theorem d_SR_sound_130 : decode prog_1_method_15_code 130 = .ok (.getfield 42, 3) := by decide +kernel
theorem d_SR_sound_133 : decode prog_1_method_15_code 133 = .ok (.iload_n 2, 1) := by decide +kernel
theorem d_SR_sound_134 : decode prog_1_method_15_code 134 = .ok (.iconst 1, 1) := by decide +kernel
theorem d_SR_sound_135 : decode prog_1_method_15_code 135 = .ok (.aload_n 0, 1) := by decide +kernel
theorem d_SR_sound_136 : decode prog_1_method_15_code 136 = .ok (.getfield 14, 3) := by decide +kernel
theorem d_SR_sound_139 : decode prog_1_method_15_code 139 = .ok (.aload_n 0, 1) := by decide +kernel
theorem d_SR_sound_140 : decode prog_1_method_15_code 140 = .ok (.getfield 21, 3) := by decide +kernel
theorem d_SR_sound_143 : decode prog_1_method_15_code 143 = .ok (.aload_n 0, 1) := by decide +kernel
theorem d_SR_sound_144 : decode prog_1_method_15_code 144 = .ok (.getfield 35, 3) := by decide +kernel
theorem d_SR_sound_147 : decode prog_1_method_15_code 147 = .ok (.invokevirtual 185, 3) := by decide +kernel
theorem d_SR_sound_150 : decode prog_1_method_15_code 150 = .ok (.lreturn, 1) := by decide +kernel
theorem d_SR_sound_151 : decode prog_1_method_15_code 151 = .ok (.ldc2_w 176, 3) := by decide +kernel
theorem d_SR_sound_154 : decode prog_1_method_15_code 154 = .ok (.lreturn, 1) := by decide +kernel
theorem d_Sounding_beginOf_0 : decode prog_10_method_6_code 0 = .ok (.aload_n 0, 1) := by decide +kernel
theorem d_Sounding_beginOf_1 : decode prog_10_method_6_code 1 = .ok (.iload_n 1, 1) := by decide +kernel
theorem d_Sounding_beginOf_2 : decode prog_10_method_6_code 2 = .ok (.invokevirtual 58, 3) := by decide +kernel
theorem d_Sounding_beginOf_5 : decode prog_10_method_6_code 5 = .ok (.astore 4, 2) := by decide +kernel
theorem d_Sounding_beginOf_7 : decode prog_10_method_6_code 7 = .ok (.aload 4, 2) := by decide +kernel
theorem d_Sounding_beginOf_9 : decode prog_10_method_6_code 9 = .ok (.ifnonnull 7, 3) := by decide +kernel
theorem d_Sounding_beginOf_12 : decode prog_10_method_6_code 12 = .ok (.ldc2_w 61, 3) := by decide +kernel
theorem d_Sounding_beginOf_15 : decode prog_10_method_6_code 15 = .ok (.lreturn, 1) := by decide +kernel
theorem d_Sounding_beginOf_16 : decode prog_10_method_6_code 16 = .ok (.aload_n 3, 1) := by decide +kernel
theorem d_Sounding_beginOf_17 : decode prog_10_method_6_code 17 = .ok (.aload_n 2, 1) := by decide +kernel
theorem d_Sounding_beginOf_18 : decode prog_10_method_6_code 18 = .ok (.aload_n 0, 1) := by decide +kernel
theorem d_Sounding_beginOf_19 : decode prog_10_method_6_code 19 = .ok (.getfield 17, 3) := by decide +kernel
theorem d_Sounding_beginOf_22 : decode prog_10_method_6_code 22 = .ok (.iload_n 1, 1) := by decide +kernel
theorem d_Sounding_beginOf_23 : decode prog_10_method_6_code 23 = .ok (.iaload, 1) := by decide +kernel
theorem d_Sounding_beginOf_24 : decode prog_10_method_6_code 24 = .ok (.invokevirtual 63, 3) := by decide +kernel
theorem d_Sounding_beginOf_27 : decode prog_10_method_6_code 27 = .ok (.aload 4, 2) := by decide +kernel
theorem d_Sounding_beginOf_29 : decode prog_10_method_6_code 29 = .ok (.getfield 67, 3) := by decide +kernel
theorem d_Sounding_beginOf_32 : decode prog_10_method_6_code 32 = .ok (.i2l, 1) := by decide +kernel
theorem d_Sounding_beginOf_33 : decode prog_10_method_6_code 33 = .ok (.aload_n 2, 1) := by decide +kernel
theorem d_Sounding_beginOf_34 : decode prog_10_method_6_code 34 = .ok (.aload 4, 2) := by decide +kernel
theorem d_Sounding_beginOf_36 : decode prog_10_method_6_code 36 = .ok (.getfield 70, 3) := by decide +kernel
theorem d_Sounding_beginOf_39 : decode prog_10_method_6_code 39 = .ok (.invokevirtual 73, 3) := by decide +kernel
theorem d_Sounding_beginOf_42 : decode prog_10_method_6_code 42 = .ok (.i2l, 1) := by decide +kernel
theorem d_Sounding_beginOf_43 : decode prog_10_method_6_code 43 = .ok (.lmul, 1) := by decide +kernel
theorem d_Sounding_beginOf_44 : decode prog_10_method_6_code 44 = .ok (.ladd, 1) := by decide +kernel
theorem d_Sounding_beginOf_45 : decode prog_10_method_6_code 45 = .ok (.lreturn, 1) := by decide +kernel
theorem d_Sounding_firstOf_0 : decode prog_10_method_5_code 0 = .ok (.iload_n 1, 1) := by decide +kernel
theorem d_Sounding_firstOf_1 : decode prog_10_method_5_code 1 = .ok (.iconst 0, 1) := by decide +kernel
theorem d_Sounding_firstOf_2 : decode prog_10_method_5_code 2 = .ok (.aload_n 0, 1) := by decide +kernel
theorem d_Sounding_firstOf_3 : decode prog_10_method_5_code 3 = .ok (.getfield 25, 3) := by decide +kernel
theorem d_Sounding_firstOf_6 : decode prog_10_method_5_code 6 = .ok (.iconst 1, 1) := by decide +kernel
theorem d_Sounding_firstOf_7 : decode prog_10_method_5_code 7 = .ok (.isub, 1) := by decide +kernel
theorem d_Sounding_firstOf_8 : decode prog_10_method_5_code 8 = .ok (.invokestatic 54, 3) := by decide +kernel
theorem d_Sounding_firstOf_11 : decode prog_10_method_5_code 11 = .ok (.ifCond .eq 12, 3) := by decide +kernel
theorem d_Sounding_firstOf_14 : decode prog_10_method_5_code 14 = .ok (.aload_n 0, 1) := by decide +kernel
theorem d_Sounding_firstOf_15 : decode prog_10_method_5_code 15 = .ok (.getfield 11, 3) := by decide +kernel
theorem d_Sounding_firstOf_18 : decode prog_10_method_5_code 18 = .ok (.iload_n 1, 1) := by decide +kernel
theorem d_Sounding_firstOf_19 : decode prog_10_method_5_code 19 = .ok (.aaload, 1) := by decide +kernel
theorem d_Sounding_firstOf_20 : decode prog_10_method_5_code 20 = .ok (.goto 4, 3) := by decide +kernel
theorem d_Sounding_firstOf_23 : decode prog_10_method_5_code 23 = .ok (.aconst_null, 1) := by decide +kernel
theorem d_Sounding_firstOf_24 : decode prog_10_method_5_code 24 = .ok (.areturn, 1) := by decide +kernel
theorem d_Sounding_pitchOf_0 : decode prog_10_method_7_code 0 = .ok (.aload_n 0, 1) := by decide +kernel
theorem d_Sounding_pitchOf_1 : decode prog_10_method_7_code 1 = .ok (.iload_n 1, 1) := by decide +kernel
theorem d_Sounding_pitchOf_2 : decode prog_10_method_7_code 2 = .ok (.invokevirtual 58, 3) := by decide +kernel
theorem d_Sounding_pitchOf_5 : decode prog_10_method_7_code 5 = .ok (.astore_n 2, 1) := by decide +kernel
theorem d_Sounding_pitchOf_6 : decode prog_10_method_7_code 6 = .ok (.aload_n 2, 1) := by decide +kernel
theorem d_Sounding_pitchOf_7 : decode prog_10_method_7_code 7 = .ok (.ifnonnull 7, 3) := by decide +kernel
theorem d_Sounding_pitchOf_10 : decode prog_10_method_7_code 10 = .ok (.iconst (-1), 1) := by decide +kernel
theorem d_Sounding_pitchOf_11 : decode prog_10_method_7_code 11 = .ok (.goto 7, 3) := by decide +kernel
theorem d_Sounding_pitchOf_14 : decode prog_10_method_7_code 14 = .ok (.aload_n 2, 1) := by decide +kernel
theorem d_Sounding_pitchOf_15 : decode prog_10_method_7_code 15 = .ok (.getfield 78, 3) := by decide +kernel
theorem d_Sounding_pitchOf_18 : decode prog_10_method_7_code 18 = .ok (.ireturn, 1) := by decide +kernel
theorem d_Sounding_lengthOf_0 : decode prog_10_method_8_code 0 = .ok (.aload_n 0, 1) := by decide +kernel
theorem d_Sounding_lengthOf_1 : decode prog_10_method_8_code 1 = .ok (.iload_n 1, 1) := by decide +kernel
theorem d_Sounding_lengthOf_2 : decode prog_10_method_8_code 2 = .ok (.invokevirtual 58, 3) := by decide +kernel
theorem d_Sounding_lengthOf_5 : decode prog_10_method_8_code 5 = .ok (.astore 6, 2) := by decide +kernel
theorem d_Sounding_lengthOf_7 : decode prog_10_method_8_code 7 = .ok (.aload 6, 2) := by decide +kernel
theorem d_Sounding_lengthOf_9 : decode prog_10_method_8_code 9 = .ok (.ifnonnull 7, 3) := by decide +kernel
theorem d_Sounding_lengthOf_12 : decode prog_10_method_8_code 12 = .ok (.ldc2_w 61, 3) := by decide +kernel
theorem d_Sounding_lengthOf_15 : decode prog_10_method_8_code 15 = .ok (.lreturn, 1) := by decide +kernel
theorem d_Sounding_lengthOf_16 : decode prog_10_method_8_code 16 = .ok (.lconst 0, 1) := by decide +kernel
theorem d_Sounding_lengthOf_17 : decode prog_10_method_8_code 17 = .ok (.lstore 7, 2) := by decide +kernel
theorem d_Sounding_lengthOf_19 : decode prog_10_method_8_code 19 = .ok (.aload_n 0, 1) := by decide +kernel
theorem d_Sounding_lengthOf_20 : decode prog_10_method_8_code 20 = .ok (.getfield 17, 3) := by decide +kernel
theorem d_Sounding_lengthOf_23 : decode prog_10_method_8_code 23 = .ok (.iload_n 1, 1) := by decide +kernel
theorem d_Sounding_lengthOf_24 : decode prog_10_method_8_code 24 = .ok (.iaload, 1) := by decide +kernel
theorem d_Sounding_lengthOf_25 : decode prog_10_method_8_code 25 = .ok (.istore 9, 2) := by decide +kernel
theorem d_Sounding_lengthOf_27 : decode prog_10_method_8_code 27 = .ok (.aload 6, 2) := by decide +kernel
theorem d_Sounding_lengthOf_29 : decode prog_10_method_8_code 29 = .ok (.ifnull 68, 3) := by decide +kernel
theorem d_Sounding_lengthOf_32 : decode prog_10_method_8_code 32 = .ok (.iload 9, 2) := by decide +kernel
theorem d_Sounding_lengthOf_34 : decode prog_10_method_8_code 34 = .ok (.aload 5, 2) := by decide +kernel
theorem d_Sounding_lengthOf_36 : decode prog_10_method_8_code 36 = .ok (.getfield 28, 3) := by decide +kernel
theorem d_Sounding_lengthOf_39 : decode prog_10_method_8_code 39 = .ok (.if_icmp .ge 58, 3) := by decide +kernel
theorem d_Sounding_lengthOf_42 : decode prog_10_method_8_code 42 = .ok (.lload 7, 2) := by decide +kernel
theorem d_Sounding_lengthOf_44 : decode prog_10_method_8_code 44 = .ok (.aload 6, 2) := by decide +kernel
theorem d_Sounding_lengthOf_46 : decode prog_10_method_8_code 46 = .ok (.getfield 81, 3) := by decide +kernel
theorem d_Sounding_lengthOf_49 : decode prog_10_method_8_code 49 = .ok (.i2l, 1) := by decide +kernel
theorem d_Sounding_lengthOf_50 : decode prog_10_method_8_code 50 = .ok (.iload_n 2, 1) := by decide +kernel
theorem d_Sounding_lengthOf_51 : decode prog_10_method_8_code 51 = .ok (.ifCond .eq 15, 3) := by decide +kernel
theorem d_Sounding_lengthOf_54 : decode prog_10_method_8_code 54 = .ok (.aload_n 3, 1) := by decide +kernel
theorem d_Sounding_lengthOf_55 : decode prog_10_method_8_code 55 = .ok (.aload 6, 2) := by decide +kernel
theorem d_Sounding_lengthOf_57 : decode prog_10_method_8_code 57 = .ok (.getfield 70, 3) := by decide +kernel
theorem d_Sounding_lengthOf_60 : decode prog_10_method_8_code 60 = .ok (.invokevirtual 73, 3) := by decide +kernel
theorem d_Sounding_lengthOf_63 : decode prog_10_method_8_code 63 = .ok (.goto 4, 3) := by decide +kernel
theorem d_Sounding_lengthOf_66 : decode prog_10_method_8_code 66 = .ok (.iconst 1, 1) := by decide +kernel
theorem d_Sounding_lengthOf_67 : decode prog_10_method_8_code 67 = .ok (.i2l, 1) := by decide +kernel
theorem d_Sounding_lengthOf_68 : decode prog_10_method_8_code 68 = .ok (.lmul, 1) := by decide +kernel
theorem d_Sounding_lengthOf_69 : decode prog_10_method_8_code 69 = .ok (.ladd, 1) := by decide +kernel
theorem d_Sounding_lengthOf_70 : decode prog_10_method_8_code 70 = .ok (.lstore 7, 2) := by decide +kernel
theorem d_Sounding_lengthOf_72 : decode prog_10_method_8_code 72 = .ok (.aload 4, 2) := by decide +kernel
theorem d_Sounding_lengthOf_74 : decode prog_10_method_8_code 74 = .ok (.aload 6, 2) := by decide +kernel
theorem d_Sounding_lengthOf_76 : decode prog_10_method_8_code 76 = .ok (.aload_n 3, 1) := by decide +kernel
theorem d_Sounding_lengthOf_77 : decode prog_10_method_8_code 77 = .ok (.aload 5, 2) := by decide +kernel
theorem d_Sounding_lengthOf_79 : decode prog_10_method_8_code 79 = .ok (.iload 9, 2) := by decide +kernel
theorem d_Sounding_lengthOf_81 : decode prog_10_method_8_code 81 = .ok (.iconst 1, 1) := by decide +kernel
theorem d_Sounding_lengthOf_82 : decode prog_10_method_8_code 82 = .ok (.iadd, 1) := by decide +kernel
theorem d_Sounding_lengthOf_83 : decode prog_10_method_8_code 83 = .ok (.invokevirtual 42, 3) := by decide +kernel
theorem d_Sounding_lengthOf_86 : decode prog_10_method_8_code 86 = .ok (.invokevirtual 84, 3) := by decide +kernel
theorem d_Sounding_lengthOf_89 : decode prog_10_method_8_code 89 = .ok (.astore 6, 2) := by decide +kernel
theorem d_Sounding_lengthOf_91 : decode prog_10_method_8_code 91 = .ok (.iinc 9 1, 3) := by decide +kernel
theorem d_Sounding_lengthOf_94 : decode prog_10_method_8_code 94 = .ok (.goto (-67), 3) := by decide +kernel
theorem d_Sounding_lengthOf_97 : decode prog_10_method_8_code 97 = .ok (.lload 7, 2) := by decide +kernel
theorem d_Sounding_lengthOf_99 : decode prog_10_method_8_code 99 = .ok (.lreturn, 1) := by decide +kernel
theorem d_Notes_goingOn_0 : decode prog_5_method_10_code 0 = .ok (.aload_n 1, 1) := by decide +kernel
theorem d_Notes_goingOn_1 : decode prog_5_method_10_code 1 = .ok (.aload_n 2, 1) := by decide +kernel
theorem d_Notes_goingOn_2 : decode prog_5_method_10_code 2 = .ok (.invokevirtual 61, 3) := by decide +kernel
theorem d_Notes_goingOn_5 : decode prog_5_method_10_code 5 = .ok (.ifCond .eq 20, 3) := by decide +kernel
theorem d_Notes_goingOn_8 : decode prog_5_method_10_code 8 = .ok (.aload_n 0, 1) := by decide +kernel
theorem d_Notes_goingOn_9 : decode prog_5_method_10_code 9 = .ok (.aload_n 1, 1) := by decide +kernel
theorem d_Notes_goingOn_10 : decode prog_5_method_10_code 10 = .ok (.getfield 56, 3) := by decide +kernel
theorem d_Notes_goingOn_13 : decode prog_5_method_10_code 13 = .ok (.iload_n 3, 1) := by decide +kernel
theorem d_Notes_goingOn_14 : decode prog_5_method_10_code 14 = .ok (.iconst 0, 1) := by decide +kernel
theorem d_Notes_goingOn_15 : decode prog_5_method_10_code 15 = .ok (.aload_n 1, 1) := by decide +kernel
theorem d_Notes_goingOn_16 : decode prog_5_method_10_code 16 = .ok (.getfield 40, 3) := by decide +kernel
theorem d_Notes_goingOn_19 : decode prog_5_method_10_code 19 = .ok (.invokevirtual 65, 3) := by decide +kernel
theorem d_Notes_goingOn_22 : decode prog_5_method_10_code 22 = .ok (.goto 4, 3) := by decide +kernel
theorem d_Notes_goingOn_25 : decode prog_5_method_10_code 25 = .ok (.aconst_null, 1) := by decide +kernel
theorem d_Notes_goingOn_26 : decode prog_5_method_10_code 26 = .ok (.areturn, 1) := by decide +kernel
theorem d_SR_rest_0 : decode prog_1_method_16_code 0 = .ok (.iload_n 1, 1) := by decide +kernel
theorem d_SR_rest_1 : decode prog_1_method_16_code 1 = .ok (.invokestatic 99, 3) := by decide +kernel
theorem d_SR_rest_4 : decode prog_1_method_16_code 4 = .ok (.iconst 0, 1) := by decide +kernel
theorem d_SR_rest_5 : decode prog_1_method_16_code 5 = .ok (.istore_n 3, 1) := by decide +kernel
theorem d_SR_rest_6 : decode prog_1_method_16_code 6 = .ok (.iconst 0, 1) := by decide +kernel
theorem d_SR_rest_7 : decode prog_1_method_16_code 7 = .ok (.istore 4, 2) := by decide +kernel
theorem d_SR_rest_9 : decode prog_1_method_16_code 9 = .ok (.iload 4, 2) := by decide +kernel
theorem d_SR_rest_11 : decode prog_1_method_16_code 11 = .ok (.aload_n 0, 1) := by decide +kernel
theorem d_SR_rest_12 : decode prog_1_method_16_code 12 = .ok (.getfield 14, 3) := by decide +kernel
theorem d_SR_rest_15 : decode prog_1_method_16_code 15 = .ok (.getfield 188, 3) := by decide +kernel
theorem d_SR_rest_18 : decode prog_1_method_16_code 18 = .ok (.if_icmp .ge 54, 3) := by decide +kernel
theorem d_SR_rest_21 : decode prog_1_method_16_code 21 = .ok (.aload_n 0, 1) := by decide +kernel
theorem d_SR_rest_22 : decode prog_1_method_16_code 22 = .ok (.getfield 21, 3) := by decide +kernel
theorem d_SR_rest_25 : decode prog_1_method_16_code 25 = .ok (.iload_n 1, 1) := by decide +kernel
theorem d_SR_rest_26 : decode prog_1_method_16_code 26 = .ok (.iload 4, 2) := by decide +kernel
theorem d_SR_rest_28 : decode prog_1_method_16_code 28 = .ok (.invokevirtual 191, 3) := by decide +kernel
theorem d_SR_rest_31 : decode prog_1_method_16_code 31 = .ok (.ifCond .eq 35, 3) := by decide +kernel
theorem d_SR_rest_34 : decode prog_1_method_16_code 34 = .ok (.aload_n 0, 1) := by decide +kernel
theorem d_SR_rest_35 : decode prog_1_method_16_code 35 = .ok (.iload_n 1, 1) := by decide +kernel
theorem d_SR_rest_36 : decode prog_1_method_16_code 36 = .ok (.iload 4, 2) := by decide +kernel
theorem d_SR_rest_38 : decode prog_1_method_16_code 38 = .ok (.invokevirtual 194, 3) := by decide +kernel
theorem d_SR_rest_41 : decode prog_1_method_16_code 41 = .ok (.ifCond .ne 25, 3) := by decide +kernel
theorem d_SR_rest_44 : decode prog_1_method_16_code 44 = .ok (.iload_n 3, 1) := by decide +kernel
theorem d_SR_rest_45 : decode prog_1_method_16_code 45 = .ok (.iload_n 2, 1) := by decide +kernel
theorem d_SR_rest_46 : decode prog_1_method_16_code 46 = .ok (.if_icmp .ne 17, 3) := by decide +kernel
theorem d_SR_rest_49 : decode prog_1_method_16_code 49 = .ok (.bipush 100, 2) := by decide +kernel
theorem d_SR_rest_51 : decode prog_1_method_16_code 51 = .ok (.iload 4, 2) := by decide +kernel
theorem d_SR_rest_53 : decode prog_1_method_16_code 53 = .ok (.imul, 1) := by decide +kernel
theorem d_SR_rest_54 : decode prog_1_method_16_code 54 = .ok (.aload_n 0, 1) := by decide +kernel
theorem d_SR_rest_55 : decode prog_1_method_16_code 55 = .ok (.iload_n 1, 1) := by decide +kernel
theorem d_SR_rest_56 : decode prog_1_method_16_code 56 = .ok (.iload 4, 2) := by decide +kernel
theorem d_SR_rest_58 : decode prog_1_method_16_code 58 = .ok (.invokevirtual 197, 3) := by decide +kernel
theorem d_SR_rest_61 : decode prog_1_method_16_code 61 = .ok (.iadd, 1) := by decide +kernel
theorem d_SR_rest_62 : decode prog_1_method_16_code 62 = .ok (.ireturn, 1) := by decide +kernel
theorem d_SR_rest_63 : decode prog_1_method_16_code 63 = .ok (.iinc 3 1, 3) := by decide +kernel
theorem d_SR_rest_66 : decode prog_1_method_16_code 66 = .ok (.iinc 4 1, 3) := by decide +kernel
theorem d_SR_rest_69 : decode prog_1_method_16_code 69 = .ok (.goto (-60), 3) := by decide +kernel
theorem d_SR_rest_72 : decode prog_1_method_16_code 72 = .ok (.iconst (-1), 1) := by decide +kernel
theorem d_SR_rest_73 : decode prog_1_method_16_code 73 = .ok (.ireturn, 1) := by decide +kernel
theorem d_Notes_isRest_0 : decode prog_5_method_6_code 0 = .ok (.iconst 0, 1) := by decide +kernel
theorem d_Notes_isRest_1 : decode prog_5_method_6_code 1 = .ok (.istore_n 3, 1) := by decide +kernel
theorem d_Notes_isRest_2 : decode prog_5_method_6_code 2 = .ok (.iload_n 3, 1) := by decide +kernel
theorem d_Notes_isRest_3 : decode prog_5_method_6_code 3 = .ok (.aload_n 0, 1) := by decide +kernel
theorem d_Notes_isRest_4 : decode prog_5_method_6_code 4 = .ok (.getfield 17, 3) := by decide +kernel
theorem d_Notes_isRest_7 : decode prog_5_method_6_code 7 = .ok (.if_icmp .ge 25, 3) := by decide +kernel
theorem d_Notes_isRest_10 : decode prog_5_method_6_code 10 = .ok (.aload_n 0, 1) := by decide +kernel
theorem d_Notes_isRest_11 : decode prog_5_method_6_code 11 = .ok (.getfield 11, 3) := by decide +kernel
theorem d_Notes_isRest_14 : decode prog_5_method_6_code 14 = .ok (.iload_n 3, 1) := by decide +kernel
theorem d_Notes_isRest_15 : decode prog_5_method_6_code 15 = .ok (.aaload, 1) := by decide +kernel
theorem d_Notes_isRest_16 : decode prog_5_method_6_code 16 = .ok (.iload_n 1, 1) := by decide +kernel
theorem d_Notes_isRest_17 : decode prog_5_method_6_code 17 = .ok (.iload_n 2, 1) := by decide +kernel
theorem d_Notes_isRest_18 : decode prog_5_method_6_code 18 = .ok (.invokevirtual 33, 3) := by decide +kernel
theorem d_Notes_isRest_21 : decode prog_5_method_6_code 21 = .ok (.ifCond .eq 5, 3) := by decide +kernel
theorem d_Notes_isRest_24 : decode prog_5_method_6_code 24 = .ok (.iconst 0, 1) := by decide +kernel
theorem d_Notes_isRest_25 : decode prog_5_method_6_code 25 = .ok (.ireturn, 1) := by decide +kernel
theorem d_Notes_isRest_26 : decode prog_5_method_6_code 26 = .ok (.iinc 3 1, 3) := by decide +kernel
theorem d_Notes_isRest_29 : decode prog_5_method_6_code 29 = .ok (.goto (-27), 3) := by decide +kernel
theorem d_Notes_isRest_32 : decode prog_5_method_6_code 32 = .ok (.iconst 1, 1) := by decide +kernel
theorem d_Notes_isRest_33 : decode prog_5_method_6_code 33 = .ok (.ireturn, 1) := by decide +kernel
theorem d_SR_goesOnResting_0 : decode prog_1_method_18_code 0 = .ok (.iload_n 2, 1) := by decide +kernel
theorem d_SR_goesOnResting_1 : decode prog_1_method_18_code 1 = .ok (.ifCond .le 32, 3) := by decide +kernel
theorem d_SR_goesOnResting_4 : decode prog_1_method_18_code 4 = .ok (.aload_n 0, 1) := by decide +kernel
theorem d_SR_goesOnResting_5 : decode prog_1_method_18_code 5 = .ok (.getfield 21, 3) := by decide +kernel
theorem d_SR_goesOnResting_8 : decode prog_1_method_18_code 8 = .ok (.iload_n 1, 1) := by decide +kernel
theorem d_SR_goesOnResting_9 : decode prog_1_method_18_code 9 = .ok (.iload_n 2, 1) := by decide +kernel
theorem d_SR_goesOnResting_10 : decode prog_1_method_18_code 10 = .ok (.iconst 1, 1) := by decide +kernel
theorem d_SR_goesOnResting_11 : decode prog_1_method_18_code 11 = .ok (.isub, 1) := by decide +kernel
theorem d_SR_goesOnResting_12 : decode prog_1_method_18_code 12 = .ok (.invokevirtual 191, 3) := by decide +kernel
theorem d_SR_goesOnResting_15 : decode prog_1_method_18_code 15 = .ok (.ifCond .eq 18, 3) := by decide +kernel
theorem d_SR_goesOnResting_18 : decode prog_1_method_18_code 18 = .ok (.aload_n 0, 1) := by decide +kernel
theorem d_SR_goesOnResting_19 : decode prog_1_method_18_code 19 = .ok (.getfield 14, 3) := by decide +kernel
theorem d_SR_goesOnResting_22 : decode prog_1_method_18_code 22 = .ok (.iload_n 2, 1) := by decide +kernel
theorem d_SR_goesOnResting_23 : decode prog_1_method_18_code 23 = .ok (.invokevirtual 200, 3) := by decide +kernel
theorem d_SR_goesOnResting_26 : decode prog_1_method_18_code 26 = .ok (.ifCond .ne 7, 3) := by decide +kernel
theorem d_SR_goesOnResting_29 : decode prog_1_method_18_code 29 = .ok (.iconst 1, 1) := by decide +kernel
theorem d_SR_goesOnResting_30 : decode prog_1_method_18_code 30 = .ok (.goto 4, 3) := by decide +kernel
theorem d_SR_goesOnResting_33 : decode prog_1_method_18_code 33 = .ok (.iconst 0, 1) := by decide +kernel
theorem d_SR_goesOnResting_34 : decode prog_1_method_18_code 34 = .ok (.ireturn, 1) := by decide +kernel
theorem d_SR_restBars_0 : decode prog_1_method_17_code 0 = .ok (.iload_n 2, 1) := by decide +kernel
theorem d_SR_restBars_1 : decode prog_1_method_17_code 1 = .ok (.iconst 1, 1) := by decide +kernel
theorem d_SR_restBars_2 : decode prog_1_method_17_code 2 = .ok (.iadd, 1) := by decide +kernel
theorem d_SR_restBars_3 : decode prog_1_method_17_code 3 = .ok (.istore_n 3, 1) := by decide +kernel
theorem d_SR_restBars_4 : decode prog_1_method_17_code 4 = .ok (.iload_n 3, 1) := by decide +kernel
theorem d_SR_restBars_5 : decode prog_1_method_17_code 5 = .ok (.aload_n 0, 1) := by decide +kernel
theorem d_SR_restBars_6 : decode prog_1_method_17_code 6 = .ok (.getfield 14, 3) := by decide +kernel
theorem d_SR_restBars_9 : decode prog_1_method_17_code 9 = .ok (.getfield 188, 3) := by decide +kernel
theorem d_SR_restBars_12 : decode prog_1_method_17_code 12 = .ok (.if_icmp .ge 30, 3) := by decide +kernel
theorem d_SR_restBars_15 : decode prog_1_method_17_code 15 = .ok (.aload_n 0, 1) := by decide +kernel
theorem d_SR_restBars_16 : decode prog_1_method_17_code 16 = .ok (.getfield 21, 3) := by decide +kernel
theorem d_SR_restBars_19 : decode prog_1_method_17_code 19 = .ok (.iload_n 1, 1) := by decide +kernel
theorem d_SR_restBars_20 : decode prog_1_method_17_code 20 = .ok (.iload_n 3, 1) := by decide +kernel
theorem d_SR_restBars_21 : decode prog_1_method_17_code 21 = .ok (.invokevirtual 191, 3) := by decide +kernel
theorem d_SR_restBars_24 : decode prog_1_method_17_code 24 = .ok (.ifCond .eq 18, 3) := by decide +kernel
theorem d_SR_restBars_27 : decode prog_1_method_17_code 27 = .ok (.aload_n 0, 1) := by decide +kernel
theorem d_SR_restBars_28 : decode prog_1_method_17_code 28 = .ok (.iload_n 1, 1) := by decide +kernel
theorem d_SR_restBars_29 : decode prog_1_method_17_code 29 = .ok (.iload_n 3, 1) := by decide +kernel
theorem d_SR_restBars_30 : decode prog_1_method_17_code 30 = .ok (.invokevirtual 194, 3) := by decide +kernel
theorem d_SR_restBars_33 : decode prog_1_method_17_code 33 = .ok (.ifCond .eq 9, 3) := by decide +kernel
theorem d_SR_restBars_36 : decode prog_1_method_17_code 36 = .ok (.iinc 3 1, 3) := by decide +kernel
theorem d_SR_restBars_39 : decode prog_1_method_17_code 39 = .ok (.goto (-35), 3) := by decide +kernel
theorem d_SR_restBars_42 : decode prog_1_method_17_code 42 = .ok (.iload_n 3, 1) := by decide +kernel
theorem d_SR_restBars_43 : decode prog_1_method_17_code 43 = .ok (.iload_n 2, 1) := by decide +kernel
theorem d_SR_restBars_44 : decode prog_1_method_17_code 44 = .ok (.isub, 1) := by decide +kernel
theorem d_SR_restBars_45 : decode prog_1_method_17_code 45 = .ok (.ireturn, 1) := by decide +kernel
end
section
/-! more rows -/
section RX2
variable {V : rx_V} {d kc ks : Nat} {M : rx_T} {pc : Nat} {L : rx_L} {S : List Value} {h : List va_E} {Q : rx_R → List va_E → Prop}
theorem rx_areturn_r {a : Nat} {C : String} (hd : decode M.2.1 pc = .ok (.areturn, 1)) (hr : M.2.2.2.1 = some (.object C)) (hq : Q (.inl (some (.ref a))) h) : rx_W V d kc ks M pc L [.ref a] h Q := rx_areturn (x := some a) hd hr hq
theorem rx_areturn_N {C : String} (hd : decode M.2.1 pc = .ok (.areturn, 1)) (hr : M.2.2.2.1 = some (.object C)) (hq : Q (.inl (some .null)) h) : rx_W V d kc ks M pc L [.null] h Q := rx_areturn (x := none) hd hr hq
theorem rx_astore_nN {n : Fin 4} (hd : decode M.2.1 pc = .ok (.astore_n n, 1)) (hn : (n : Nat) < L.length) (k : rx_W V d kc ks M (pc + 1) (rx_st1 L n .null) S h Q) : rx_W V d kc ks M pc L (.null :: S) h Q := rx_astore_n (x := none) hd hn k
theorem rx_astore_N {n : Nat} (hd : decode M.2.1 pc = .ok (.astore n, 2)) (hn : n < L.length) (k : rx_W V d kc ks M (pc + 2) (rx_st1 L n .null) S h Q) : rx_W V d kc ks M pc L (.null :: S) h Q := rx_astore (x := none) hd hn k
theorem rx_aload_nN {n : Fin 4} (hd : decode M.2.1 pc = .ok (.aload_n n, 1)) (hv : L[(n : Nat)]? = some (some .null)) (k : rx_W V d kc ks M (pc + 1) L (.null :: S) h Q) : rx_W V d kc ks M pc L S h Q := rx_aload_n (x := none) hd hv k
theorem rx_aload_N {n : Nat} (hd : decode M.2.1 pc = .ok (.aload n, 2)) (hv : L[n]? = some (some .null)) (k : rx_W V d kc ks M (pc + 2) L (.null :: S) h Q) : rx_W V d kc ks M pc L S h Q := rx_aload (x := none) hd hv k
theorem rx_ifnull_r {a : Nat} {off : Int} (hd : decode M.2.1 pc = .ok (.ifnull off, 3)) {tgt : Nat} (ht : (pc : Int) + off = (tgt : Int)) (k : rx_W V d kc ks M (pc + 3) L S h Q) : rx_W V d kc ks M pc L (.ref a :: S) h Q := rx_ifnull (x := some a) hd ht (fun z => nomatch z) (fun _ _ => k)
theorem rx_ifnull_N {off : Int} {tgt : Nat} (hd : decode M.2.1 pc = .ok (.ifnull off, 3)) (ht : (pc : Int) + off = (tgt : Int)) (k : rx_W V d kc ks M tgt L S h Q) : rx_W V d kc ks M pc L (.null :: S) h Q := rx_ifnull (x := none) hd ht (fun _ => k) (fun _ z => nomatch z)
theorem rx_ifnonnull_r {a : Nat} {off : Int} {tgt : Nat} (hd : decode M.2.1 pc = .ok (.ifnonnull off, 3)) (ht : (pc : Int) + off = (tgt : Int)) (k : rx_W V d kc ks M tgt L S h Q) : rx_W V d kc ks M pc L (.ref a :: S) h Q := rx_ifnonnull (x := some a) hd ht (fun _ _ => k) (fun z => nomatch z)
theorem rx_ifnonnull_N {off : Int} (hd : decode M.2.1 pc = .ok (.ifnonnull off, 3)) {tgt : Nat} (ht : (pc : Int) + off = (tgt : Int)) (k : rx_W V d kc ks M (pc + 3) L S h Q) : rx_W V d kc ks M pc L (.null :: S) h Q := rx_ifnonnull (x := none) hd ht (fun _ z => nomatch z) (fun _ => k)
end RX2
theorem ite10 {c : Prop} {i : Decidable c} : (@ite Int32 c i 1 0) = 0 ↔ ¬ c := by
  by_cases h : c
  · rw [if_pos h]; exact ⟨fun z => absurd z (by decide), fun z => absurd h z⟩
  · rw [if_neg h]; exact ⟨fun _ => h, fun _ => rfl⟩
theorem ite11 {c : Prop} {i : Decidable c} : ¬ (@ite Int32 c i 1 0) = 0 ↔ c := by
  rw [ite10]; exact Decidable.not_not
theorem ite01 {c : Prop} {i : Decidable c} : (@ite Int32 c i 0 1) = 0 ↔ c := by
  by_cases h : c
  · rw [if_pos h]; exact ⟨fun _ => h, fun _ => rfl⟩
  · rw [if_neg h]; exact ⟨fun z => absurd z (by decide), fun z => absurd z h⟩
end
section
/-! decode rows, by program (wip/lay.py) -/
theorem d_Page_init_0 : decode prog_6_method_1_code 0 = .ok (.aload_n 0, 1) := by decide +kernel
theorem d_Page_init_1 : decode prog_6_method_1_code 1 = .ok (.invokespecial 3, 3) := by decide +kernel
theorem d_Page_init_4 : decode prog_6_method_1_code 4 = .ok (.aload_n 0, 1) := by decide +kernel
theorem d_Page_init_5 : decode prog_6_method_1_code 5 = .ok (.iload_n 1, 1) := by decide +kernel
theorem d_Page_init_6 : decode prog_6_method_1_code 6 = .ok (.putfield 9, 3) := by decide +kernel
theorem d_Page_init_9 : decode prog_6_method_1_code 9 = .ok (.aload_n 0, 1) := by decide +kernel
theorem d_Page_init_10 : decode prog_6_method_1_code 10 = .ok (.iload_n 1, 1) := by decide +kernel
theorem d_Page_init_11 : decode prog_6_method_1_code 11 = .ok (.newarray .int, 2) := by decide +kernel
theorem d_Page_init_13 : decode prog_6_method_1_code 13 = .ok (.putfield 15, 3) := by decide +kernel
theorem d_Page_init_16 : decode prog_6_method_1_code 16 = .ok (.aload_n 0, 1) := by decide +kernel
theorem d_Page_init_17 : decode prog_6_method_1_code 17 = .ok (.iload_n 1, 1) := by decide +kernel
theorem d_Page_init_18 : decode prog_6_method_1_code 18 = .ok (.newarray .int, 2) := by decide +kernel
theorem d_Page_init_20 : decode prog_6_method_1_code 20 = .ok (.putfield 19, 3) := by decide +kernel
theorem d_Page_init_23 : decode prog_6_method_1_code 23 = .ok (.aload_n 0, 1) := by decide +kernel
theorem d_Page_init_24 : decode prog_6_method_1_code 24 = .ok (.iload_n 1, 1) := by decide +kernel
theorem d_Page_init_25 : decode prog_6_method_1_code 25 = .ok (.bipush 10, 2) := by decide +kernel
theorem d_Page_init_27 : decode prog_6_method_1_code 27 = .ok (.imul, 1) := by decide +kernel
theorem d_Page_init_28 : decode prog_6_method_1_code 28 = .ok (.newarray .int, 2) := by decide +kernel
theorem d_Page_init_30 : decode prog_6_method_1_code 30 = .ok (.putfield 22, 3) := by decide +kernel
theorem d_Page_init_33 : decode prog_6_method_1_code 33 = .ok (.aload_n 0, 1) := by decide +kernel
theorem d_Page_init_34 : decode prog_6_method_1_code 34 = .ok (.getfield 15, 3) := by decide +kernel
theorem d_Page_init_37 : decode prog_6_method_1_code 37 = .ok (.bipush 16, 2) := by decide +kernel
theorem d_Page_init_39 : decode prog_6_method_1_code 39 = .ok (.invokestatic 25, 3) := by decide +kernel
theorem d_Page_init_42 : decode prog_6_method_1_code 42 = .ok (.aload_n 0, 1) := by decide +kernel
theorem d_Page_init_43 : decode prog_6_method_1_code 43 = .ok (.getfield 19, 3) := by decide +kernel
theorem d_Page_init_46 : decode prog_6_method_1_code 46 = .ok (.bipush 10, 2) := by decide +kernel
theorem d_Page_init_48 : decode prog_6_method_1_code 48 = .ok (.invokestatic 25, 3) := by decide +kernel
theorem d_Page_init_51 : decode prog_6_method_1_code 51 = .ok (.return_, 1) := by decide +kernel
theorem d_Repeat_init_0 : decode prog_7_method_1_code 0 = .ok (.aload_n 0, 1) := by decide +kernel
theorem d_Repeat_init_1 : decode prog_7_method_1_code 1 = .ok (.invokespecial 3, 3) := by decide +kernel
theorem d_Repeat_init_4 : decode prog_7_method_1_code 4 = .ok (.return_, 1) := by decide +kernel
theorem d_Page_value_0 : decode prog_6_method_7_code 0 = .ok (.iload_n 1, 1) := by decide +kernel
theorem d_Page_value_1 : decode prog_6_method_7_code 1 = .ok (.ifCond .lt 25, 3) := by decide +kernel
theorem d_Page_value_4 : decode prog_6_method_7_code 4 = .ok (.iload_n 1, 1) := by decide +kernel
theorem d_Page_value_5 : decode prog_6_method_7_code 5 = .ok (.aload_n 0, 1) := by decide +kernel
theorem d_Page_value_6 : decode prog_6_method_7_code 6 = .ok (.getfield 9, 3) := by decide +kernel
theorem d_Page_value_9 : decode prog_6_method_7_code 9 = .ok (.if_icmp .ge 17, 3) := by decide +kernel
theorem d_Page_value_12 : decode prog_6_method_7_code 12 = .ok (.iload_n 2, 1) := by decide +kernel
theorem d_Page_value_13 : decode prog_6_method_7_code 13 = .ok (.ifCond .lt 13, 3) := by decide +kernel
theorem d_Page_value_16 : decode prog_6_method_7_code 16 = .ok (.iload_n 2, 1) := by decide +kernel
theorem d_Page_value_17 : decode prog_6_method_7_code 17 = .ok (.bipush 10, 2) := by decide +kernel
theorem d_Page_value_19 : decode prog_6_method_7_code 19 = .ok (.if_icmp .ge 7, 3) := by decide +kernel
theorem d_Page_value_22 : decode prog_6_method_7_code 22 = .ok (.iconst 1, 1) := by decide +kernel
theorem d_Page_value_23 : decode prog_6_method_7_code 23 = .ok (.goto 4, 3) := by decide +kernel
theorem d_Page_value_26 : decode prog_6_method_7_code 26 = .ok (.iconst 0, 1) := by decide +kernel
theorem d_Page_value_27 : decode prog_6_method_7_code 27 = .ok (.istore_n 3, 1) := by decide +kernel
theorem d_Page_value_28 : decode prog_6_method_7_code 28 = .ok (.iload_n 3, 1) := by decide +kernel
theorem d_Page_value_29 : decode prog_6_method_7_code 29 = .ok (.ifCond .eq 17, 3) := by decide +kernel
theorem d_Page_value_32 : decode prog_6_method_7_code 32 = .ok (.aload_n 0, 1) := by decide +kernel
theorem d_Page_value_33 : decode prog_6_method_7_code 33 = .ok (.getfield 22, 3) := by decide +kernel
theorem d_Page_value_36 : decode prog_6_method_7_code 36 = .ok (.iload_n 1, 1) := by decide +kernel
theorem d_Page_value_37 : decode prog_6_method_7_code 37 = .ok (.bipush 10, 2) := by decide +kernel
theorem d_Page_value_39 : decode prog_6_method_7_code 39 = .ok (.imul, 1) := by decide +kernel
theorem d_Page_value_40 : decode prog_6_method_7_code 40 = .ok (.iload_n 2, 1) := by decide +kernel
theorem d_Page_value_41 : decode prog_6_method_7_code 41 = .ok (.iadd, 1) := by decide +kernel
theorem d_Page_value_42 : decode prog_6_method_7_code 42 = .ok (.iaload, 1) := by decide +kernel
theorem d_Page_value_43 : decode prog_6_method_7_code 43 = .ok (.goto 4, 3) := by decide +kernel
theorem d_Page_value_46 : decode prog_6_method_7_code 46 = .ok (.iconst 0, 1) := by decide +kernel
theorem d_Page_value_47 : decode prog_6_method_7_code 47 = .ok (.ireturn, 1) := by decide +kernel
theorem d_Page_has_0 : decode prog_6_method_8_code 0 = .ok (.aload_n 0, 1) := by decide +kernel
theorem d_Page_has_1 : decode prog_6_method_8_code 1 = .ok (.iload_n 1, 1) := by decide +kernel
theorem d_Page_has_2 : decode prog_6_method_8_code 2 = .ok (.iload_n 2, 1) := by decide +kernel
theorem d_Page_has_3 : decode prog_6_method_8_code 3 = .ok (.invokevirtual 38, 3) := by decide +kernel
theorem d_Page_has_6 : decode prog_6_method_8_code 6 = .ok (.ifCond .eq 7, 3) := by decide +kernel
theorem d_Page_has_9 : decode prog_6_method_8_code 9 = .ok (.iconst 1, 1) := by decide +kernel
theorem d_Page_has_10 : decode prog_6_method_8_code 10 = .ok (.goto 4, 3) := by decide +kernel
theorem d_Page_has_13 : decode prog_6_method_8_code 13 = .ok (.iconst 0, 1) := by decide +kernel
theorem d_Page_has_14 : decode prog_6_method_8_code 14 = .ok (.ireturn, 1) := by decide +kernel
theorem d_Page_lastWith_0 : decode prog_6_method_11_code 0 = .ok (.iload_n 1, 1) := by decide +kernel
theorem d_Page_lastWith_1 : decode prog_6_method_11_code 1 = .ok (.ifCond .lt 9, 3) := by decide +kernel
theorem d_Page_lastWith_4 : decode prog_6_method_11_code 4 = .ok (.iload_n 1, 1) := by decide +kernel
theorem d_Page_lastWith_5 : decode prog_6_method_11_code 5 = .ok (.bipush 10, 2) := by decide +kernel
theorem d_Page_lastWith_7 : decode prog_6_method_11_code 7 = .ok (.if_icmp .lt 5, 3) := by decide +kernel
theorem d_Page_lastWith_10 : decode prog_6_method_11_code 10 = .ok (.iconst (-1), 1) := by decide +kernel
theorem d_Page_lastWith_11 : decode prog_6_method_11_code 11 = .ok (.ireturn, 1) := by decide +kernel
theorem d_Page_lastWith_12 : decode prog_6_method_11_code 12 = .ok (.iload_n 3, 1) := by decide +kernel
theorem d_Page_lastWith_13 : decode prog_6_method_11_code 13 = .ok (.aload_n 0, 1) := by decide +kernel
theorem d_Page_lastWith_14 : decode prog_6_method_11_code 14 = .ok (.getfield 9, 3) := by decide +kernel
theorem d_Page_lastWith_17 : decode prog_6_method_11_code 17 = .ok (.iconst 1, 1) := by decide +kernel
theorem d_Page_lastWith_18 : decode prog_6_method_11_code 18 = .ok (.isub, 1) := by decide +kernel
theorem d_Page_lastWith_19 : decode prog_6_method_11_code 19 = .ok (.invokestatic 46, 3) := by decide +kernel
theorem d_Page_lastWith_22 : decode prog_6_method_11_code 22 = .ok (.istore 4, 2) := by decide +kernel
theorem d_Page_lastWith_24 : decode prog_6_method_11_code 24 = .ok (.iload 4, 2) := by decide +kernel
theorem d_Page_lastWith_26 : decode prog_6_method_11_code 26 = .ok (.iload_n 2, 1) := by decide +kernel
theorem d_Page_lastWith_27 : decode prog_6_method_11_code 27 = .ok (.iconst 0, 1) := by decide +kernel
theorem d_Page_lastWith_28 : decode prog_6_method_11_code 28 = .ok (.invokestatic 51, 3) := by decide +kernel
theorem d_Page_lastWith_31 : decode prog_6_method_11_code 31 = .ok (.if_icmp .lt 27, 3) := by decide +kernel
theorem d_Page_lastWith_34 : decode prog_6_method_11_code 34 = .ok (.aload_n 0, 1) := by decide +kernel
theorem d_Page_lastWith_35 : decode prog_6_method_11_code 35 = .ok (.getfield 22, 3) := by decide +kernel
theorem d_Page_lastWith_38 : decode prog_6_method_11_code 38 = .ok (.iload 4, 2) := by decide +kernel
theorem d_Page_lastWith_40 : decode prog_6_method_11_code 40 = .ok (.bipush 10, 2) := by decide +kernel
theorem d_Page_lastWith_42 : decode prog_6_method_11_code 42 = .ok (.imul, 1) := by decide +kernel
theorem d_Page_lastWith_43 : decode prog_6_method_11_code 43 = .ok (.iload_n 1, 1) := by decide +kernel
theorem d_Page_lastWith_44 : decode prog_6_method_11_code 44 = .ok (.iadd, 1) := by decide +kernel
theorem d_Page_lastWith_45 : decode prog_6_method_11_code 45 = .ok (.iaload, 1) := by decide +kernel
theorem d_Page_lastWith_46 : decode prog_6_method_11_code 46 = .ok (.ifCond .eq 6, 3) := by decide +kernel
theorem d_Page_lastWith_49 : decode prog_6_method_11_code 49 = .ok (.iload 4, 2) := by decide +kernel
theorem d_Page_lastWith_51 : decode prog_6_method_11_code 51 = .ok (.ireturn, 1) := by decide +kernel
theorem d_Page_lastWith_52 : decode prog_6_method_11_code 52 = .ok (.iinc 4 (-1), 3) := by decide +kernel
theorem d_Page_lastWith_55 : decode prog_6_method_11_code 55 = .ok (.goto (-31), 3) := by decide +kernel
theorem d_Page_lastWith_58 : decode prog_6_method_11_code 58 = .ok (.iconst (-1), 1) := by decide +kernel
theorem d_Page_lastWith_59 : decode prog_6_method_11_code 59 = .ok (.ireturn, 1) := by decide +kernel
theorem d_Repeat_hasEndings_0 : decode prog_7_method_2_code 0 = .ok (.aload_n 0, 1) := by decide +kernel
theorem d_Repeat_hasEndings_1 : decode prog_7_method_2_code 1 = .ok (.getfield 9, 3) := by decide +kernel
theorem d_Repeat_hasEndings_4 : decode prog_7_method_2_code 4 = .ok (.iconst (-1), 1) := by decide +kernel
theorem d_Repeat_hasEndings_5 : decode prog_7_method_2_code 5 = .ok (.if_icmp .eq 7, 3) := by decide +kernel
theorem d_Repeat_hasEndings_8 : decode prog_7_method_2_code 8 = .ok (.iconst 1, 1) := by decide +kernel
theorem d_Repeat_hasEndings_9 : decode prog_7_method_2_code 9 = .ok (.goto 4, 3) := by decide +kernel
theorem d_Repeat_hasEndings_12 : decode prog_7_method_2_code 12 = .ok (.iconst 0, 1) := by decide +kernel
theorem d_Repeat_hasEndings_13 : decode prog_7_method_2_code 13 = .ok (.ireturn, 1) := by decide +kernel
theorem d_Repeat_spans_0 : decode prog_7_method_3_code 0 = .ok (.iload_n 1, 1) := by decide +kernel
theorem d_Repeat_spans_1 : decode prog_7_method_3_code 1 = .ok (.aload_n 0, 1) := by decide +kernel
theorem d_Repeat_spans_2 : decode prog_7_method_3_code 2 = .ok (.getfield 15, 3) := by decide +kernel
theorem d_Repeat_spans_5 : decode prog_7_method_3_code 5 = .ok (.if_icmp .lt 15, 3) := by decide +kernel
theorem d_Repeat_spans_8 : decode prog_7_method_3_code 8 = .ok (.iload_n 1, 1) := by decide +kernel
theorem d_Repeat_spans_9 : decode prog_7_method_3_code 9 = .ok (.aload_n 0, 1) := by decide +kernel
theorem d_Repeat_spans_10 : decode prog_7_method_3_code 10 = .ok (.getfield 18, 3) := by decide +kernel
theorem d_Repeat_spans_13 : decode prog_7_method_3_code 13 = .ok (.if_icmp .gt 7, 3) := by decide +kernel
theorem d_Repeat_spans_16 : decode prog_7_method_3_code 16 = .ok (.iconst 1, 1) := by decide +kernel
theorem d_Repeat_spans_17 : decode prog_7_method_3_code 17 = .ok (.goto 4, 3) := by decide +kernel
theorem d_Repeat_spans_20 : decode prog_7_method_3_code 20 = .ok (.iconst 0, 1) := by decide +kernel
theorem d_Repeat_spans_21 : decode prog_7_method_3_code 21 = .ok (.ireturn, 1) := by decide +kernel
theorem d_Page_hasPass_0 : decode prog_6_method_9_code 0 = .ok (.aload_n 0, 1) := by decide +kernel
theorem d_Page_hasPass_1 : decode prog_6_method_9_code 1 = .ok (.iload_n 1, 1) := by decide +kernel
theorem d_Page_hasPass_2 : decode prog_6_method_9_code 2 = .ok (.iconst 2, 1) := by decide +kernel
theorem d_Page_hasPass_3 : decode prog_6_method_9_code 3 = .ok (.invokevirtual 38, 3) := by decide +kernel
theorem d_Page_hasPass_6 : decode prog_6_method_9_code 6 = .ok (.iload_n 2, 1) := by decide +kernel
theorem d_Page_hasPass_7 : decode prog_6_method_9_code 7 = .ok (.invokestatic 42, 3) := by decide +kernel
theorem d_Page_hasPass_10 : decode prog_6_method_9_code 10 = .ok (.iand, 1) := by decide +kernel
theorem d_Page_hasPass_11 : decode prog_6_method_9_code 11 = .ok (.ifCond .eq 7, 3) := by decide +kernel
theorem d_Page_hasPass_14 : decode prog_6_method_9_code 14 = .ok (.iconst 1, 1) := by decide +kernel
theorem d_Page_hasPass_15 : decode prog_6_method_9_code 15 = .ok (.goto 4, 3) := by decide +kernel
theorem d_Page_hasPass_18 : decode prog_6_method_9_code 18 = .ok (.iconst 0, 1) := by decide +kernel
theorem d_Page_hasPass_19 : decode prog_6_method_9_code 19 = .ok (.ireturn, 1) := by decide +kernel
theorem d_Page_passBit_0 : decode prog_6_method_10_code 0 = .ok (.iconst 1, 1) := by decide +kernel
theorem d_Page_passBit_1 : decode prog_6_method_10_code 1 = .ok (.iload_n 0, 1) := by decide +kernel
theorem d_Page_passBit_2 : decode prog_6_method_10_code 2 = .ok (.iconst 1, 1) := by decide +kernel
theorem d_Page_passBit_3 : decode prog_6_method_10_code 3 = .ok (.isub, 1) := by decide +kernel
theorem d_Page_passBit_4 : decode prog_6_method_10_code 4 = .ok (.ishl, 1) := by decide +kernel
theorem d_Page_passBit_5 : decode prog_6_method_10_code 5 = .ok (.ireturn, 1) := by decide +kernel
theorem d_Jump_target_0 : decode prog_3_method_5_code 0 = .ok (.aload_n 0, 1) := by decide +kernel
theorem d_Jump_target_1 : decode prog_3_method_5_code 1 = .ok (.iload_n 1, 1) := by decide +kernel
theorem d_Jump_target_2 : decode prog_3_method_5_code 2 = .ok (.bipush 7, 2) := by decide +kernel
theorem d_Jump_target_4 : decode prog_3_method_5_code 4 = .ok (.invokevirtual 9, 3) := by decide +kernel
theorem d_Jump_target_7 : decode prog_3_method_5_code 7 = .ok (.invokestatic 15, 3) := by decide +kernel
theorem d_Jump_target_10 : decode prog_3_method_5_code 10 = .ok (.ifCond .eq 13, 3) := by decide +kernel
theorem d_Jump_target_13 : decode prog_3_method_5_code 13 = .ok (.aload_n 0, 1) := by decide +kernel
theorem d_Jump_target_14 : decode prog_3_method_5_code 14 = .ok (.iconst 3, 1) := by decide +kernel
theorem d_Jump_target_15 : decode prog_3_method_5_code 15 = .ok (.iconst 0, 1) := by decide +kernel
theorem d_Jump_target_16 : decode prog_3_method_5_code 16 = .ok (.iload_n 1, 1) := by decide +kernel
theorem d_Jump_target_17 : decode prog_3_method_5_code 17 = .ok (.invokevirtual 21, 3) := by decide +kernel
theorem d_Jump_target_20 : decode prog_3_method_5_code 20 = .ok (.goto 4, 3) := by decide +kernel
theorem d_Jump_target_23 : decode prog_3_method_5_code 23 = .ok (.iconst 0, 1) := by decide +kernel
theorem d_Jump_target_24 : decode prog_3_method_5_code 24 = .ok (.ireturn, 1) := by decide +kernel
theorem d_Jump_isToSegno_0 : decode prog_3_method_2_code 0 = .ok (.iload_n 0, 1) := by decide +kernel
theorem d_Jump_isToSegno_1 : decode prog_3_method_2_code 1 = .ok (.iconst 1, 1) := by decide +kernel
theorem d_Jump_isToSegno_2 : decode prog_3_method_2_code 2 = .ok (.isub, 1) := by decide +kernel
theorem d_Jump_isToSegno_3 : decode prog_3_method_2_code 3 = .ok (.iconst 2, 1) := by decide +kernel
theorem d_Jump_isToSegno_4 : decode prog_3_method_2_code 4 = .ok (.irem, 1) := by decide +kernel
theorem d_Jump_isToSegno_5 : decode prog_3_method_2_code 5 = .ok (.iconst 1, 1) := by decide +kernel
theorem d_Jump_isToSegno_6 : decode prog_3_method_2_code 6 = .ok (.if_icmp .ne 7, 3) := by decide +kernel
theorem d_Jump_isToSegno_9 : decode prog_3_method_2_code 9 = .ok (.iconst 1, 1) := by decide +kernel
theorem d_Jump_isToSegno_10 : decode prog_3_method_2_code 10 = .ok (.goto 4, 3) := by decide +kernel
theorem d_Jump_isToSegno_13 : decode prog_3_method_2_code 13 = .ok (.iconst 0, 1) := by decide +kernel
theorem d_Jump_isToSegno_14 : decode prog_3_method_2_code 14 = .ok (.ireturn, 1) := by decide +kernel
theorem d_Jump_way_0 : decode prog_3_method_3_code 0 = .ok (.iload_n 0, 1) := by decide +kernel
theorem d_Jump_way_1 : decode prog_3_method_3_code 1 = .ok (.iconst 1, 1) := by decide +kernel
theorem d_Jump_way_2 : decode prog_3_method_3_code 2 = .ok (.isub, 1) := by decide +kernel
theorem d_Jump_way_3 : decode prog_3_method_3_code 3 = .ok (.iconst 2, 1) := by decide +kernel
theorem d_Jump_way_4 : decode prog_3_method_3_code 4 = .ok (.idiv, 1) := by decide +kernel
theorem d_Jump_way_5 : decode prog_3_method_3_code 5 = .ok (.iconst 3, 1) := by decide +kernel
theorem d_Jump_way_6 : decode prog_3_method_3_code 6 = .ok (.irem, 1) := by decide +kernel
theorem d_Jump_way_7 : decode prog_3_method_3_code 7 = .ok (.ireturn, 1) := by decide +kernel
theorem d_Jump_hasRepeats_0 : decode prog_3_method_4_code 0 = .ok (.iload_n 0, 1) := by decide +kernel
theorem d_Jump_hasRepeats_1 : decode prog_3_method_4_code 1 = .ok (.bipush 6, 2) := by decide +kernel
theorem d_Jump_hasRepeats_3 : decode prog_3_method_4_code 3 = .ok (.if_icmp .le 7, 3) := by decide +kernel
theorem d_Jump_hasRepeats_6 : decode prog_3_method_4_code 6 = .ok (.iconst 1, 1) := by decide +kernel
theorem d_Jump_hasRepeats_7 : decode prog_3_method_4_code 7 = .ok (.goto 4, 3) := by decide +kernel
theorem d_Jump_hasRepeats_10 : decode prog_3_method_4_code 10 = .ok (.iconst 0, 1) := by decide +kernel
theorem d_Jump_hasRepeats_11 : decode prog_3_method_4_code 11 = .ok (.ireturn, 1) := by decide +kernel
theorem d_Page_hasBar_0 : decode prog_6_method_2_code 0 = .ok (.iload_n 1, 1) := by decide +kernel
theorem d_Page_hasBar_1 : decode prog_6_method_2_code 1 = .ok (.ifCond .lt 15, 3) := by decide +kernel
theorem d_Page_hasBar_4 : decode prog_6_method_2_code 4 = .ok (.iload_n 1, 1) := by decide +kernel
theorem d_Page_hasBar_5 : decode prog_6_method_2_code 5 = .ok (.aload_n 0, 1) := by decide +kernel
theorem d_Page_hasBar_6 : decode prog_6_method_2_code 6 = .ok (.getfield 9, 3) := by decide +kernel
theorem d_Page_hasBar_9 : decode prog_6_method_2_code 9 = .ok (.if_icmp .ge 7, 3) := by decide +kernel
theorem d_Page_hasBar_12 : decode prog_6_method_2_code 12 = .ok (.iconst 1, 1) := by decide +kernel
theorem d_Page_hasBar_13 : decode prog_6_method_2_code 13 = .ok (.goto 4, 3) := by decide +kernel
theorem d_Page_hasBar_16 : decode prog_6_method_2_code 16 = .ok (.iconst 0, 1) := by decide +kernel
theorem d_Page_hasBar_17 : decode prog_6_method_2_code 17 = .ok (.ireturn, 1) := by decide +kernel
theorem d_Note_end_0 : decode prog_4_method_2_code 0 = .ok (.aload_n 0, 1) := by decide +kernel
theorem d_Note_end_1 : decode prog_4_method_2_code 1 = .ok (.getfield 16, 3) := by decide +kernel
theorem d_Note_end_4 : decode prog_4_method_2_code 4 = .ok (.aload_n 0, 1) := by decide +kernel
theorem d_Note_end_5 : decode prog_4_method_2_code 5 = .ok (.getfield 19, 3) := by decide +kernel
theorem d_Note_end_8 : decode prog_4_method_2_code 8 = .ok (.iadd, 1) := by decide +kernel
theorem d_Note_end_9 : decode prog_4_method_2_code 9 = .ok (.ireturn, 1) := by decide +kernel
theorem d_Page_shape_0 : decode prog_6_method_3_code 0 = .ok (.aload_n 0, 1) := by decide +kernel
theorem d_Page_shape_1 : decode prog_6_method_3_code 1 = .ok (.iload_n 1, 1) := by decide +kernel
theorem d_Page_shape_2 : decode prog_6_method_3_code 2 = .ok (.invokevirtual 31, 3) := by decide +kernel
theorem d_Page_shape_5 : decode prog_6_method_3_code 5 = .ok (.ifCond .eq 17, 3) := by decide +kernel
theorem d_Page_shape_8 : decode prog_6_method_3_code 8 = .ok (.aload_n 0, 1) := by decide +kernel
theorem d_Page_shape_9 : decode prog_6_method_3_code 9 = .ok (.getfield 15, 3) := by decide +kernel
theorem d_Page_shape_12 : decode prog_6_method_3_code 12 = .ok (.iload_n 1, 1) := by decide +kernel
theorem d_Page_shape_13 : decode prog_6_method_3_code 13 = .ok (.iload_n 2, 1) := by decide +kernel
theorem d_Page_shape_14 : decode prog_6_method_3_code 14 = .ok (.iastore, 1) := by decide +kernel
theorem d_Page_shape_15 : decode prog_6_method_3_code 15 = .ok (.aload_n 0, 1) := by decide +kernel
theorem d_Page_shape_16 : decode prog_6_method_3_code 16 = .ok (.getfield 19, 3) := by decide +kernel
theorem d_Page_shape_19 : decode prog_6_method_3_code 19 = .ok (.iload_n 1, 1) := by decide +kernel
theorem d_Page_shape_20 : decode prog_6_method_3_code 20 = .ok (.iload_n 3, 1) := by decide +kernel
theorem d_Page_shape_21 : decode prog_6_method_3_code 21 = .ok (.iastore, 1) := by decide +kernel
theorem d_Page_shape_22 : decode prog_6_method_3_code 22 = .ok (.return_, 1) := by decide +kernel
theorem d_Page_put_0 : decode prog_6_method_6_code 0 = .ok (.aload_n 0, 1) := by decide +kernel
theorem d_Page_put_1 : decode prog_6_method_6_code 1 = .ok (.iload_n 1, 1) := by decide +kernel
theorem d_Page_put_2 : decode prog_6_method_6_code 2 = .ok (.invokevirtual 31, 3) := by decide +kernel
theorem d_Page_put_5 : decode prog_6_method_6_code 5 = .ok (.ifCond .eq 22, 3) := by decide +kernel
theorem d_Page_put_8 : decode prog_6_method_6_code 8 = .ok (.iload_n 2, 1) := by decide +kernel
theorem d_Page_put_9 : decode prog_6_method_6_code 9 = .ok (.invokestatic 35, 3) := by decide +kernel
theorem d_Page_put_12 : decode prog_6_method_6_code 12 = .ok (.ifCond .eq 15, 3) := by decide +kernel
theorem d_Page_put_15 : decode prog_6_method_6_code 15 = .ok (.aload_n 0, 1) := by decide +kernel
theorem d_Page_put_16 : decode prog_6_method_6_code 16 = .ok (.getfield 22, 3) := by decide +kernel
theorem d_Page_put_19 : decode prog_6_method_6_code 19 = .ok (.iload_n 1, 1) := by decide +kernel
theorem d_Page_put_20 : decode prog_6_method_6_code 20 = .ok (.bipush 10, 2) := by decide +kernel
theorem d_Page_put_22 : decode prog_6_method_6_code 22 = .ok (.imul, 1) := by decide +kernel
theorem d_Page_put_23 : decode prog_6_method_6_code 23 = .ok (.iload_n 2, 1) := by decide +kernel
theorem d_Page_put_24 : decode prog_6_method_6_code 24 = .ok (.iadd, 1) := by decide +kernel
theorem d_Page_put_25 : decode prog_6_method_6_code 25 = .ok (.iload_n 3, 1) := by decide +kernel
theorem d_Page_put_26 : decode prog_6_method_6_code 26 = .ok (.iastore, 1) := by decide +kernel
theorem d_Page_put_27 : decode prog_6_method_6_code 27 = .ok (.return_, 1) := by decide +kernel
theorem d_Page_lengthOf_0 : decode prog_6_method_4_code 0 = .ok (.aload_n 0, 1) := by decide +kernel
theorem d_Page_lengthOf_1 : decode prog_6_method_4_code 1 = .ok (.iload_n 1, 1) := by decide +kernel
theorem d_Page_lengthOf_2 : decode prog_6_method_4_code 2 = .ok (.invokevirtual 31, 3) := by decide +kernel
theorem d_Page_lengthOf_5 : decode prog_6_method_4_code 5 = .ok (.ifCond .eq 12, 3) := by decide +kernel
theorem d_Page_lengthOf_8 : decode prog_6_method_4_code 8 = .ok (.aload_n 0, 1) := by decide +kernel
theorem d_Page_lengthOf_9 : decode prog_6_method_4_code 9 = .ok (.getfield 15, 3) := by decide +kernel
theorem d_Page_lengthOf_12 : decode prog_6_method_4_code 12 = .ok (.iload_n 1, 1) := by decide +kernel
theorem d_Page_lengthOf_13 : decode prog_6_method_4_code 13 = .ok (.iaload, 1) := by decide +kernel
theorem d_Page_lengthOf_14 : decode prog_6_method_4_code 14 = .ok (.goto 4, 3) := by decide +kernel
theorem d_Page_lengthOf_17 : decode prog_6_method_4_code 17 = .ok (.iconst 0, 1) := by decide +kernel
theorem d_Page_lengthOf_18 : decode prog_6_method_4_code 18 = .ok (.ireturn, 1) := by decide +kernel
theorem d_Note_isIn_0 : decode prog_4_method_3_code 0 = .ok (.aload_n 0, 1) := by decide +kernel
theorem d_Note_isIn_1 : decode prog_4_method_3_code 1 = .ok (.getfield 7, 3) := by decide +kernel
theorem d_Note_isIn_4 : decode prog_4_method_3_code 4 = .ok (.iload_n 1, 1) := by decide +kernel
theorem d_Note_isIn_5 : decode prog_4_method_3_code 5 = .ok (.if_icmp .ne 15, 3) := by decide +kernel
theorem d_Note_isIn_8 : decode prog_4_method_3_code 8 = .ok (.aload_n 0, 1) := by decide +kernel
theorem d_Note_isIn_9 : decode prog_4_method_3_code 9 = .ok (.getfield 13, 3) := by decide +kernel
theorem d_Note_isIn_12 : decode prog_4_method_3_code 12 = .ok (.iload_n 2, 1) := by decide +kernel
theorem d_Note_isIn_13 : decode prog_4_method_3_code 13 = .ok (.if_icmp .ne 7, 3) := by decide +kernel
theorem d_Note_isIn_16 : decode prog_4_method_3_code 16 = .ok (.iconst 1, 1) := by decide +kernel
theorem d_Note_isIn_17 : decode prog_4_method_3_code 17 = .ok (.goto 4, 3) := by decide +kernel
theorem d_Note_isIn_20 : decode prog_4_method_3_code 20 = .ok (.iconst 0, 1) := by decide +kernel
theorem d_Note_isIn_21 : decode prog_4_method_3_code 21 = .ok (.ireturn, 1) := by decide +kernel
theorem d_Note_init_0 : decode prog_4_method_1_code 0 = .ok (.aload_n 0, 1) := by decide +kernel
theorem d_Note_init_1 : decode prog_4_method_1_code 1 = .ok (.invokespecial 1, 3) := by decide +kernel
theorem d_Note_init_4 : decode prog_4_method_1_code 4 = .ok (.aload_n 0, 1) := by decide +kernel
theorem d_Note_init_5 : decode prog_4_method_1_code 5 = .ok (.iload_n 1, 1) := by decide +kernel
theorem d_Note_init_6 : decode prog_4_method_1_code 6 = .ok (.putfield 7, 3) := by decide +kernel
theorem d_Note_init_9 : decode prog_4_method_1_code 9 = .ok (.aload_n 0, 1) := by decide +kernel
theorem d_Note_init_10 : decode prog_4_method_1_code 10 = .ok (.iload_n 2, 1) := by decide +kernel
theorem d_Note_init_11 : decode prog_4_method_1_code 11 = .ok (.putfield 13, 3) := by decide +kernel
theorem d_Note_init_14 : decode prog_4_method_1_code 14 = .ok (.aload_n 0, 1) := by decide +kernel
theorem d_Note_init_15 : decode prog_4_method_1_code 15 = .ok (.iload_n 3, 1) := by decide +kernel
theorem d_Note_init_16 : decode prog_4_method_1_code 16 = .ok (.putfield 16, 3) := by decide +kernel
theorem d_Note_init_19 : decode prog_4_method_1_code 19 = .ok (.aload_n 0, 1) := by decide +kernel
theorem d_Note_init_20 : decode prog_4_method_1_code 20 = .ok (.iload 4, 2) := by decide +kernel
theorem d_Note_init_22 : decode prog_4_method_1_code 22 = .ok (.putfield 19, 3) := by decide +kernel
theorem d_Note_init_25 : decode prog_4_method_1_code 25 = .ok (.aload_n 0, 1) := by decide +kernel
theorem d_Note_init_26 : decode prog_4_method_1_code 26 = .ok (.iload 5, 2) := by decide +kernel
theorem d_Note_init_28 : decode prog_4_method_1_code 28 = .ok (.putfield 22, 3) := by decide +kernel
theorem d_Note_init_31 : decode prog_4_method_1_code 31 = .ok (.aload_n 0, 1) := by decide +kernel
theorem d_Note_init_32 : decode prog_4_method_1_code 32 = .ok (.iload 6, 2) := by decide +kernel
theorem d_Note_init_34 : decode prog_4_method_1_code 34 = .ok (.putfield 25, 3) := by decide +kernel
theorem d_Note_init_37 : decode prog_4_method_1_code 37 = .ok (.return_, 1) := by decide +kernel
theorem d_Note_isBehind_0 : decode prog_4_method_5_code 0 = .ok (.aload_n 0, 1) := by decide +kernel
theorem d_Note_isBehind_1 : decode prog_4_method_5_code 1 = .ok (.getfield 7, 3) := by decide +kernel
theorem d_Note_isBehind_4 : decode prog_4_method_5_code 4 = .ok (.aload_n 1, 1) := by decide +kernel
theorem d_Note_isBehind_5 : decode prog_4_method_5_code 5 = .ok (.getfield 7, 3) := by decide +kernel
theorem d_Note_isBehind_8 : decode prog_4_method_5_code 8 = .ok (.if_icmp .eq 20, 3) := by decide +kernel
theorem d_Note_isBehind_11 : decode prog_4_method_5_code 11 = .ok (.aload_n 0, 1) := by decide +kernel
theorem d_Note_isBehind_12 : decode prog_4_method_5_code 12 = .ok (.getfield 7, 3) := by decide +kernel
theorem d_Note_isBehind_15 : decode prog_4_method_5_code 15 = .ok (.aload_n 1, 1) := by decide +kernel
theorem d_Note_isBehind_16 : decode prog_4_method_5_code 16 = .ok (.getfield 7, 3) := by decide +kernel
theorem d_Note_isBehind_19 : decode prog_4_method_5_code 19 = .ok (.if_icmp .le 7, 3) := by decide +kernel
theorem d_Note_isBehind_22 : decode prog_4_method_5_code 22 = .ok (.iconst 1, 1) := by decide +kernel
theorem d_Note_isBehind_23 : decode prog_4_method_5_code 23 = .ok (.goto 4, 3) := by decide +kernel
theorem d_Note_isBehind_26 : decode prog_4_method_5_code 26 = .ok (.iconst 0, 1) := by decide +kernel
theorem d_Note_isBehind_27 : decode prog_4_method_5_code 27 = .ok (.ireturn, 1) := by decide +kernel
theorem d_Note_isBehind_28 : decode prog_4_method_5_code 28 = .ok (.aload_n 0, 1) := by decide +kernel
theorem d_Note_isBehind_29 : decode prog_4_method_5_code 29 = .ok (.getfield 13, 3) := by decide +kernel
theorem d_Note_isBehind_32 : decode prog_4_method_5_code 32 = .ok (.aload_n 1, 1) := by decide +kernel
theorem d_Note_isBehind_33 : decode prog_4_method_5_code 33 = .ok (.getfield 13, 3) := by decide +kernel
theorem d_Note_isBehind_36 : decode prog_4_method_5_code 36 = .ok (.if_icmp .eq 20, 3) := by decide +kernel
theorem d_Note_isBehind_39 : decode prog_4_method_5_code 39 = .ok (.aload_n 0, 1) := by decide +kernel
theorem d_Note_isBehind_40 : decode prog_4_method_5_code 40 = .ok (.getfield 13, 3) := by decide +kernel
theorem d_Note_isBehind_43 : decode prog_4_method_5_code 43 = .ok (.aload_n 1, 1) := by decide +kernel
theorem d_Note_isBehind_44 : decode prog_4_method_5_code 44 = .ok (.getfield 13, 3) := by decide +kernel
theorem d_Note_isBehind_47 : decode prog_4_method_5_code 47 = .ok (.if_icmp .le 7, 3) := by decide +kernel
theorem d_Note_isBehind_50 : decode prog_4_method_5_code 50 = .ok (.iconst 1, 1) := by decide +kernel
theorem d_Note_isBehind_51 : decode prog_4_method_5_code 51 = .ok (.goto 4, 3) := by decide +kernel
theorem d_Note_isBehind_54 : decode prog_4_method_5_code 54 = .ok (.iconst 0, 1) := by decide +kernel
theorem d_Note_isBehind_55 : decode prog_4_method_5_code 55 = .ok (.ireturn, 1) := by decide +kernel
theorem d_Note_isBehind_56 : decode prog_4_method_5_code 56 = .ok (.aload_n 0, 1) := by decide +kernel
theorem d_Note_isBehind_57 : decode prog_4_method_5_code 57 = .ok (.getfield 16, 3) := by decide +kernel
theorem d_Note_isBehind_60 : decode prog_4_method_5_code 60 = .ok (.aload_n 1, 1) := by decide +kernel
theorem d_Note_isBehind_61 : decode prog_4_method_5_code 61 = .ok (.getfield 16, 3) := by decide +kernel
theorem d_Note_isBehind_64 : decode prog_4_method_5_code 64 = .ok (.if_icmp .eq 22, 3) := by decide +kernel
theorem d_Note_isBehind_67 : decode prog_4_method_5_code 67 = .ok (.aload_n 0, 1) := by decide +kernel
theorem d_Note_isBehind_68 : decode prog_4_method_5_code 68 = .ok (.getfield 16, 3) := by decide +kernel
theorem d_Note_isBehind_71 : decode prog_4_method_5_code 71 = .ok (.aload_n 1, 1) := by decide +kernel
theorem d_Note_isBehind_72 : decode prog_4_method_5_code 72 = .ok (.getfield 16, 3) := by decide +kernel
theorem d_Note_isBehind_75 : decode prog_4_method_5_code 75 = .ok (.if_icmp .le 7, 3) := by decide +kernel
theorem d_Note_isBehind_78 : decode prog_4_method_5_code 78 = .ok (.iconst 1, 1) := by decide +kernel
theorem d_Note_isBehind_79 : decode prog_4_method_5_code 79 = .ok (.goto 23, 3) := by decide +kernel
theorem d_Note_isBehind_82 : decode prog_4_method_5_code 82 = .ok (.iconst 0, 1) := by decide +kernel
theorem d_Note_isBehind_83 : decode prog_4_method_5_code 83 = .ok (.goto 19, 3) := by decide +kernel
theorem d_Note_isBehind_86 : decode prog_4_method_5_code 86 = .ok (.aload_n 0, 1) := by decide +kernel
theorem d_Note_isBehind_87 : decode prog_4_method_5_code 87 = .ok (.getfield 22, 3) := by decide +kernel
theorem d_Note_isBehind_90 : decode prog_4_method_5_code 90 = .ok (.aload_n 1, 1) := by decide +kernel
theorem d_Note_isBehind_91 : decode prog_4_method_5_code 91 = .ok (.getfield 22, 3) := by decide +kernel
theorem d_Note_isBehind_94 : decode prog_4_method_5_code 94 = .ok (.if_icmp .le 7, 3) := by decide +kernel
theorem d_Note_isBehind_97 : decode prog_4_method_5_code 97 = .ok (.iconst 1, 1) := by decide +kernel
theorem d_Note_isBehind_98 : decode prog_4_method_5_code 98 = .ok (.goto 4, 3) := by decide +kernel
theorem d_Note_isBehind_101 : decode prog_4_method_5_code 101 = .ok (.iconst 0, 1) := by decide +kernel
theorem d_Note_isBehind_102 : decode prog_4_method_5_code 102 = .ok (.ireturn, 1) := by decide +kernel
theorem d_Page_tempoOf_0 : decode prog_6_method_5_code 0 = .ok (.aload_n 0, 1) := by decide +kernel
theorem d_Page_tempoOf_1 : decode prog_6_method_5_code 1 = .ok (.iload_n 1, 1) := by decide +kernel
theorem d_Page_tempoOf_2 : decode prog_6_method_5_code 2 = .ok (.invokevirtual 31, 3) := by decide +kernel
theorem d_Page_tempoOf_5 : decode prog_6_method_5_code 5 = .ok (.ifCond .eq 12, 3) := by decide +kernel
theorem d_Page_tempoOf_8 : decode prog_6_method_5_code 8 = .ok (.aload_n 0, 1) := by decide +kernel
theorem d_Page_tempoOf_9 : decode prog_6_method_5_code 9 = .ok (.getfield 19, 3) := by decide +kernel
theorem d_Page_tempoOf_12 : decode prog_6_method_5_code 12 = .ok (.iload_n 1, 1) := by decide +kernel
theorem d_Page_tempoOf_13 : decode prog_6_method_5_code 13 = .ok (.iaload, 1) := by decide +kernel
theorem d_Page_tempoOf_14 : decode prog_6_method_5_code 14 = .ok (.goto 4, 3) := by decide +kernel
theorem d_Page_tempoOf_17 : decode prog_6_method_5_code 17 = .ok (.iconst 0, 1) := by decide +kernel
theorem d_Page_tempoOf_18 : decode prog_6_method_5_code 18 = .ok (.ireturn, 1) := by decide +kernel
theorem d_Note_reachesOver_0 : decode prog_4_method_4_code 0 = .ok (.aload_n 0, 1) := by decide +kernel
theorem d_Note_reachesOver_1 : decode prog_4_method_4_code 1 = .ok (.getfield 25, 3) := by decide +kernel
theorem d_Note_reachesOver_4 : decode prog_4_method_4_code 4 = .ok (.ifCond .eq 22, 3) := by decide +kernel
theorem d_Note_reachesOver_7 : decode prog_4_method_4_code 7 = .ok (.aload_n 0, 1) := by decide +kernel
theorem d_Note_reachesOver_8 : decode prog_4_method_4_code 8 = .ok (.invokevirtual 29, 3) := by decide +kernel
theorem d_Note_reachesOver_11 : decode prog_4_method_4_code 11 = .ok (.aload_n 1, 1) := by decide +kernel
theorem d_Note_reachesOver_12 : decode prog_4_method_4_code 12 = .ok (.aload_n 0, 1) := by decide +kernel
theorem d_Note_reachesOver_13 : decode prog_4_method_4_code 13 = .ok (.getfield 13, 3) := by decide +kernel
theorem d_Note_reachesOver_16 : decode prog_4_method_4_code 16 = .ok (.invokevirtual 33, 3) := by decide +kernel
theorem d_Note_reachesOver_19 : decode prog_4_method_4_code 19 = .ok (.if_icmp .ne 7, 3) := by decide +kernel
theorem d_Note_reachesOver_22 : decode prog_4_method_4_code 22 = .ok (.iconst 1, 1) := by decide +kernel
theorem d_Note_reachesOver_23 : decode prog_4_method_4_code 23 = .ok (.goto 4, 3) := by decide +kernel
theorem d_Note_reachesOver_26 : decode prog_4_method_4_code 26 = .ok (.iconst 0, 1) := by decide +kernel
theorem d_Note_reachesOver_27 : decode prog_4_method_4_code 27 = .ok (.ireturn, 1) := by decide +kernel
theorem d_Page_isCutBefore_0 : decode prog_6_method_12_code 0 = .ok (.aload_n 0, 1) := by decide +kernel
theorem d_Page_isCutBefore_1 : decode prog_6_method_12_code 1 = .ok (.iload_n 1, 1) := by decide +kernel
theorem d_Page_isCutBefore_2 : decode prog_6_method_12_code 2 = .ok (.invokevirtual 54, 3) := by decide +kernel
theorem d_Page_isCutBefore_5 : decode prog_6_method_12_code 5 = .ok (.ifCond .ne 28, 3) := by decide +kernel
theorem d_Page_isCutBefore_8 : decode prog_6_method_12_code 8 = .ok (.aload_n 0, 1) := by decide +kernel
theorem d_Page_isCutBefore_9 : decode prog_6_method_12_code 9 = .ok (.iload_n 1, 1) := by decide +kernel
theorem d_Page_isCutBefore_10 : decode prog_6_method_12_code 10 = .ok (.iconst 1, 1) := by decide +kernel
theorem d_Page_isCutBefore_11 : decode prog_6_method_12_code 11 = .ok (.isub, 1) := by decide +kernel
theorem d_Page_isCutBefore_12 : decode prog_6_method_12_code 12 = .ok (.invokevirtual 57, 3) := by decide +kernel
theorem d_Page_isCutBefore_15 : decode prog_6_method_12_code 15 = .ok (.ifCond .ne 18, 3) := by decide +kernel
theorem d_Page_isCutBefore_18 : decode prog_6_method_12_code 18 = .ok (.aload_n 0, 1) := by decide +kernel
theorem d_Page_isCutBefore_19 : decode prog_6_method_12_code 19 = .ok (.iload_n 1, 1) := by decide +kernel
theorem d_Page_isCutBefore_20 : decode prog_6_method_12_code 20 = .ok (.invokevirtual 60, 3) := by decide +kernel
theorem d_Page_isCutBefore_23 : decode prog_6_method_12_code 23 = .ok (.aload_n 0, 1) := by decide +kernel
theorem d_Page_isCutBefore_24 : decode prog_6_method_12_code 24 = .ok (.iload_n 1, 1) := by decide +kernel
theorem d_Page_isCutBefore_25 : decode prog_6_method_12_code 25 = .ok (.iconst 1, 1) := by decide +kernel
theorem d_Page_isCutBefore_26 : decode prog_6_method_12_code 26 = .ok (.isub, 1) := by decide +kernel
theorem d_Page_isCutBefore_27 : decode prog_6_method_12_code 27 = .ok (.invokevirtual 60, 3) := by decide +kernel
theorem d_Page_isCutBefore_30 : decode prog_6_method_12_code 30 = .ok (.if_icmp .eq 7, 3) := by decide +kernel
theorem d_Page_isCutBefore_33 : decode prog_6_method_12_code 33 = .ok (.iconst 1, 1) := by decide +kernel
theorem d_Page_isCutBefore_34 : decode prog_6_method_12_code 34 = .ok (.goto 4, 3) := by decide +kernel
theorem d_Page_isCutBefore_37 : decode prog_6_method_12_code 37 = .ok (.iconst 0, 1) := by decide +kernel
theorem d_Page_isCutBefore_38 : decode prog_6_method_12_code 38 = .ok (.ireturn, 1) := by decide +kernel
theorem d_Page_opensCut_0 : decode prog_6_method_13_code 0 = .ok (.aload_n 0, 1) := by decide +kernel
theorem d_Page_opensCut_1 : decode prog_6_method_13_code 1 = .ok (.iload_n 1, 1) := by decide +kernel
theorem d_Page_opensCut_2 : decode prog_6_method_13_code 2 = .ok (.iconst 0, 1) := by decide +kernel
theorem d_Page_opensCut_3 : decode prog_6_method_13_code 3 = .ok (.invokevirtual 63, 3) := by decide +kernel
theorem d_Page_opensCut_6 : decode prog_6_method_13_code 6 = .ok (.ifCond .ne 40, 3) := by decide +kernel
theorem d_Page_opensCut_9 : decode prog_6_method_13_code 9 = .ok (.aload_n 0, 1) := by decide +kernel
theorem d_Page_opensCut_10 : decode prog_6_method_13_code 10 = .ok (.iload_n 1, 1) := by decide +kernel
theorem d_Page_opensCut_11 : decode prog_6_method_13_code 11 = .ok (.iconst 2, 1) := by decide +kernel
theorem d_Page_opensCut_12 : decode prog_6_method_13_code 12 = .ok (.invokevirtual 63, 3) := by decide +kernel
theorem d_Page_opensCut_15 : decode prog_6_method_13_code 15 = .ok (.ifCond .ne 31, 3) := by decide +kernel
theorem d_Page_opensCut_18 : decode prog_6_method_13_code 18 = .ok (.aload_n 0, 1) := by decide +kernel
theorem d_Page_opensCut_19 : decode prog_6_method_13_code 19 = .ok (.iload_n 1, 1) := by decide +kernel
theorem d_Page_opensCut_20 : decode prog_6_method_13_code 20 = .ok (.iconst 3, 1) := by decide +kernel
theorem d_Page_opensCut_21 : decode prog_6_method_13_code 21 = .ok (.invokevirtual 63, 3) := by decide +kernel
theorem d_Page_opensCut_24 : decode prog_6_method_13_code 24 = .ok (.ifCond .ne 22, 3) := by decide +kernel
theorem d_Page_opensCut_27 : decode prog_6_method_13_code 27 = .ok (.aload_n 0, 1) := by decide +kernel
theorem d_Page_opensCut_28 : decode prog_6_method_13_code 28 = .ok (.iload_n 1, 1) := by decide +kernel
theorem d_Page_opensCut_29 : decode prog_6_method_13_code 29 = .ok (.iconst 4, 1) := by decide +kernel
theorem d_Page_opensCut_30 : decode prog_6_method_13_code 30 = .ok (.invokevirtual 63, 3) := by decide +kernel
theorem d_Page_opensCut_33 : decode prog_6_method_13_code 33 = .ok (.ifCond .ne 13, 3) := by decide +kernel
theorem d_Page_opensCut_36 : decode prog_6_method_13_code 36 = .ok (.aload_n 0, 1) := by decide +kernel
theorem d_Page_opensCut_37 : decode prog_6_method_13_code 37 = .ok (.iload_n 1, 1) := by decide +kernel
theorem d_Page_opensCut_38 : decode prog_6_method_13_code 38 = .ok (.bipush 8, 2) := by decide +kernel
theorem d_Page_opensCut_40 : decode prog_6_method_13_code 40 = .ok (.invokevirtual 63, 3) := by decide +kernel
theorem d_Page_opensCut_43 : decode prog_6_method_13_code 43 = .ok (.ifCond .eq 7, 3) := by decide +kernel
theorem d_Page_opensCut_46 : decode prog_6_method_13_code 46 = .ok (.iconst 1, 1) := by decide +kernel
theorem d_Page_opensCut_47 : decode prog_6_method_13_code 47 = .ok (.goto 4, 3) := by decide +kernel
theorem d_Page_opensCut_50 : decode prog_6_method_13_code 50 = .ok (.iconst 0, 1) := by decide +kernel
theorem d_Page_opensCut_51 : decode prog_6_method_13_code 51 = .ok (.ireturn, 1) := by decide +kernel
theorem d_Page_closesCut_0 : decode prog_6_method_14_code 0 = .ok (.aload_n 0, 1) := by decide +kernel
theorem d_Page_closesCut_1 : decode prog_6_method_14_code 1 = .ok (.iload_n 1, 1) := by decide +kernel
theorem d_Page_closesCut_2 : decode prog_6_method_14_code 2 = .ok (.iconst 1, 1) := by decide +kernel
theorem d_Page_closesCut_3 : decode prog_6_method_14_code 3 = .ok (.invokevirtual 63, 3) := by decide +kernel
theorem d_Page_closesCut_6 : decode prog_6_method_14_code 6 = .ok (.ifCond .ne 42, 3) := by decide +kernel
theorem d_Page_closesCut_9 : decode prog_6_method_14_code 9 = .ok (.aload_n 0, 1) := by decide +kernel
theorem d_Page_closesCut_10 : decode prog_6_method_14_code 10 = .ok (.iload_n 1, 1) := by decide +kernel
theorem d_Page_closesCut_11 : decode prog_6_method_14_code 11 = .ok (.iconst 5, 1) := by decide +kernel
theorem d_Page_closesCut_12 : decode prog_6_method_14_code 12 = .ok (.invokevirtual 63, 3) := by decide +kernel
theorem d_Page_closesCut_15 : decode prog_6_method_14_code 15 = .ok (.ifCond .ne 33, 3) := by decide +kernel
theorem d_Page_closesCut_18 : decode prog_6_method_14_code 18 = .ok (.aload_n 0, 1) := by decide +kernel
theorem d_Page_closesCut_19 : decode prog_6_method_14_code 19 = .ok (.iload_n 1, 1) := by decide +kernel
theorem d_Page_closesCut_20 : decode prog_6_method_14_code 20 = .ok (.bipush 6, 2) := by decide +kernel
theorem d_Page_closesCut_22 : decode prog_6_method_14_code 22 = .ok (.invokevirtual 63, 3) := by decide +kernel
theorem d_Page_closesCut_25 : decode prog_6_method_14_code 25 = .ok (.ifCond .ne 23, 3) := by decide +kernel
theorem d_Page_closesCut_28 : decode prog_6_method_14_code 28 = .ok (.aload_n 0, 1) := by decide +kernel
theorem d_Page_closesCut_29 : decode prog_6_method_14_code 29 = .ok (.iload_n 1, 1) := by decide +kernel
theorem d_Page_closesCut_30 : decode prog_6_method_14_code 30 = .ok (.bipush 7, 2) := by decide +kernel
theorem d_Page_closesCut_32 : decode prog_6_method_14_code 32 = .ok (.invokevirtual 63, 3) := by decide +kernel
theorem d_Page_closesCut_35 : decode prog_6_method_14_code 35 = .ok (.ifCond .ne 13, 3) := by decide +kernel
theorem d_Page_closesCut_38 : decode prog_6_method_14_code 38 = .ok (.aload_n 0, 1) := by decide +kernel
theorem d_Page_closesCut_39 : decode prog_6_method_14_code 39 = .ok (.iload_n 1, 1) := by decide +kernel
theorem d_Page_closesCut_40 : decode prog_6_method_14_code 40 = .ok (.bipush 9, 2) := by decide +kernel
theorem d_Page_closesCut_42 : decode prog_6_method_14_code 42 = .ok (.invokevirtual 63, 3) := by decide +kernel
theorem d_Page_closesCut_45 : decode prog_6_method_14_code 45 = .ok (.ifCond .eq 7, 3) := by decide +kernel
theorem d_Page_closesCut_48 : decode prog_6_method_14_code 48 = .ok (.iconst 1, 1) := by decide +kernel
theorem d_Page_closesCut_49 : decode prog_6_method_14_code 49 = .ok (.goto 4, 3) := by decide +kernel
theorem d_Page_closesCut_52 : decode prog_6_method_14_code 52 = .ok (.iconst 0, 1) := by decide +kernel
theorem d_Page_closesCut_53 : decode prog_6_method_14_code 53 = .ok (.ireturn, 1) := by decide +kernel
end
section
/-! Page: what its reads answer -/
theorem i_lt {a b : Int32} : a < b ↔ a.toInt < b.toInt := Int32.lt_iff_toInt_lt
theorem i_le {a b : Int32} : a ≤ b ↔ a.toInt ≤ b.toInt := Int32.le_iff_toInt_le
theorem i_0 : (0 : Int32).toInt = 0 := Int32.toInt_zero
theorem i_10 : (10 : Int32).toInt = 10 := by decide
theorem i_n {n : Nat} (h : n ≤ 1000000) : (nI n).toInt = (n : Int) := nI_toInt (by omega)
theorem i_ix {n : Nat} {b : Int32} (hn : n ≤ 1000000) (h1 : ¬ b < 0) (h2 : ¬ nI n ≤ b) : ∃ j, j < n ∧ b = nI j := by
  rw [i_lt, i_0] at h1
  rw [i_le, i_n hn] at h2
  exact vp_in_of (vp_in_iff.mpr ⟨by omega, by omega⟩) (by omega)
theorem i_cl {n : Nat} (h : n ≤ 1000000) : (nI n).toNatClampNeg = n := nI_clamp (by omega)
/-- the page's cells -/
def is_pg (V : rx_V) (h : List va_E) (a n al at_ av : Nat) (Le Te Va : Nat → Int32) : Prop :=
  rx_rd V h a = some (.inr (1, [.int (nI n), .ref al, .ref at_, .ref av])) ∧ rx_rd V h al = some (.inl (V.2.2.2.1 0, n, .inl Le)) ∧ rx_rd V h at_ = some (.inl (V.2.2.2.1 0, n, .inl Te)) ∧ rx_rd V h av = some (.inl (V.2.2.2.1 0, 10 * n, .inl Va)) ∧ n ≤ 20
def pgh (n : Nat) (b : Int32) : Int32 := if 0 ≤ b.toInt ∧ b.toInt < n then 1 else 0
def pgl (n : Nat) (Le : Nat → Int32) (b : Int32) : Int32 := if 0 ≤ b.toInt ∧ b.toInt < n then Le b.toInt.toNat else 0
def pgv (n : Nat) (Va : Nat → Int32) (b k : Int32) : Int32 := if 0 ≤ b.toInt ∧ b.toInt < n ∧ 0 ≤ k.toInt ∧ k.toInt < 10 then Va (10 * b.toInt.toNat + k.toInt.toNat) else 0
def bI (p : Prop) (inst : Decidable p) : Int32 := @ite _ p inst 1 0
theorem pgh_0 {n : Nat} {b : Int32} (h : b < 0) : pgh n b = 0 := by
  rw [i_lt, i_0] at h
  exact if_neg (by omega)
theorem pgh_n {n : Nat} {b : Int32} (hn : n ≤ 1000000) (h : nI n ≤ b) : pgh n b = 0 := by
  rw [i_le, i_n hn] at h
  exact if_neg (by omega)
theorem pgh_1 {n : Nat} {b : Int32} (hn : n ≤ 1000000) (h1 : ¬ b < 0) (h2 : ¬ nI n ≤ b) : pgh n b = 1 := by
  rw [i_lt, i_0] at h1
  rw [i_le, i_n hn] at h2
  exact if_pos (by omega)
theorem pgh_in {n : Nat} {b : Int32} (h : ¬ pgh n b = 0) : ∃ j, j < n ∧ 0 ≤ b.toInt ∧ b.toInt < n := by
  unfold pgh at h
  by_cases z : 0 ≤ b.toInt ∧ b.toInt < n
  · exact ⟨b.toInt.toNat, by omega, z⟩
  · rw [if_neg z] at h; exact absurd rfl h
theorem pgl_0 {n : Nat} {Le : Nat → Int32} {b : Int32} (h : pgh n b = 0) : pgl n Le b = 0 := by
  unfold pgh at h
  unfold pgl
  by_cases z : 0 ≤ b.toInt ∧ b.toInt < n
  · rw [if_pos z] at h; exact absurd h (by decide)
  · rw [if_neg z]
theorem pgl_1 {n : Nat} {Le : Nat → Int32} {b : Int32} (hn : n ≤ 20) (h : ¬ pgh n b = 0) : vp_in b n ∧ pgl n Le b = Le b.toNatClampNeg := by
  unfold pgh at h
  unfold pgl
  by_cases z : 0 ≤ b.toInt ∧ b.toInt < n
  · rw [if_pos z]
    have hv := vp_in_iff.mpr z
    obtain ⟨j, hj, rfl⟩ := vp_in_of hv (by omega)
    exact ⟨hv, by rw [i_cl (by omega), i_n (by omega)]; rfl⟩
  · rw [if_neg z] at h; exact absurd rfl h
theorem pgv_ix {n : Nat} {b k : Int32} (hn : n ≤ 20) (h1 : ¬ b < 0) (h2 : ¬ nI n ≤ b) (h3 : ¬ k < 0) (h4 : ¬ 10 ≤ k) : vp_in (b * 10 + k) (10 * n) ∧ (b * 10 + k).toNatClampNeg = 10 * b.toInt.toNat + k.toInt.toNat := by
  obtain ⟨j, hj, rfl⟩ := i_ix (by omega) h1 h2
  obtain ⟨i, hi, rfl⟩ := i_ix (n := 10) (by omega) h3 h4
  have e : nI j * 10 + nI i = nI (j * 10 + i) := by rw [show (10 : Int32) = nI 10 from rfl, pk_mul, nI_add]
  rw [e, i_cl (by omega), i_n (by omega), i_n (by omega)]
  exact ⟨vp_in_nI (by omega) (by omega), by omega⟩
theorem pgv_b0 {n : Nat} {Va : Nat → Int32} {b k : Int32} (h : b < 0) : pgv n Va b k = 0 := by
  rw [i_lt, i_0] at h
  exact if_neg (by omega)
theorem pgv_b1 {n : Nat} {Va : Nat → Int32} {b k : Int32} (hn : n ≤ 20) (h : nI n ≤ b) : pgv n Va b k = 0 := by
  rw [i_le, i_n (by omega)] at h
  exact if_neg (by omega)
theorem pgv_k0 {n : Nat} {Va : Nat → Int32} {b k : Int32} (h : k < 0) : pgv n Va b k = 0 := by
  rw [i_lt, i_0] at h
  exact if_neg (by omega)
theorem pgv_k1 {n : Nat} {Va : Nat → Int32} {b k : Int32} (h : 10 ≤ k) : pgv n Va b k = 0 := by
  rw [i_le, i_10] at h
  exact if_neg (by omega)
theorem pgv_1 {n : Nat} {Va : Nat → Int32} {b k : Int32} (hn : n ≤ 20) (h1 : ¬ b < 0) (h2 : ¬ nI n ≤ b) (h3 : ¬ k < 0) (h4 : ¬ 10 ≤ k) : pgv n Va b k = Va (b * 10 + k).toNatClampNeg := by
  rw [(pgv_ix hn h1 h2 h3 h4).2]
  rw [i_lt, i_0] at h1 h3
  rw [i_le, i_n (by omega)] at h2
  rw [i_le, i_10] at h4
  exact if_pos (by omega)
theorem pgv_n {n : Nat} {Va : Nat → Int32} {b k : Nat} (hn : n ≤ 20) (hb : b < n) (hk : k < 10) : pgv n Va (nI b) (nI k) = Va (10 * b + k) := by
  unfold pgv
  rw [i_n (by omega), i_n (by omega), if_pos (by omega)]
  rfl
theorem pgh_nn {n b : Nat} (hn : n ≤ 20) (hb : b < n) : pgh n (nI b) = 1 := by
  unfold pgh
  rw [i_n (by omega), if_pos (by omega)]
theorem pgl_n {n b : Nat} {Le : Nat → Int32} (hn : n ≤ 20) (hb : b < n) : pgl n Le (nI b) = Le b := by
  unfold pgl
  rw [i_n (by omega), if_pos (by omega)]
  rfl
section PG
variable {V : rx_V} {d kc ks a n al at_ av : Nat} {h : List va_E} {Le Te Va : Nat → Int32}
theorem c_hasBar (hp : is_pg V h a n al at_ av Le Te Va) (b : Int32) : rx_C V d kc ks m_Page_hasBar [.ref a, .int b] h (rx_X (.inl (some (.int (pgh n b)))) h) := by
  have hn : n ≤ 20 := hp.2.2.2.2
  refine rx_iload_n d_Page_hasBar_0 (by rfl) ?_
  refine rx_if_lt (tgt := 16) d_Page_hasBar_1 (by rfl) (fun c1 => ?_) (fun c1 => ?_)
  · refine rx_iconst (v := 0) d_Page_hasBar_16 (by decide) ?_
    refine rx_zreturn d_Page_hasBar_17 (by rfl) (by rfl) ?_
    exact ⟨by first | rw [pgh_0 ‹_›] | rw [pgh_n (by omega) ‹_›] | rw [pgh_1 (by omega) ‹_› ‹_›], rfl⟩
  · refine rx_iload_n d_Page_hasBar_4 (by rfl) ?_
    refine rx_aload_nr d_Page_hasBar_5 (by rfl) ?_
    refine rx_getfield d_Page_hasBar_6 fl_Page_9 hp.1 (by rfl) ?_
    refine rx_icmp_ge (tgt := 16) d_Page_hasBar_9 (by rfl) (fun c9 => ?_) (fun c9 => ?_)
    · refine rx_iconst (v := 0) d_Page_hasBar_16 (by decide) ?_
      refine rx_zreturn d_Page_hasBar_17 (by rfl) (by rfl) ?_
      exact ⟨by first | rw [pgh_0 ‹_›] | rw [pgh_n (by omega) ‹_›] | rw [pgh_1 (by omega) ‹_› ‹_›], rfl⟩
    · refine rx_iconst (v := 1) d_Page_hasBar_12 (by decide) ?_
      refine rx_goto (tgt := 17) d_Page_hasBar_13 (by rfl) ?_
      refine rx_zreturn d_Page_hasBar_17 (by rfl) (by rfl) ?_
      exact ⟨by first | rw [pgh_0 ‹_›] | rw [pgh_n (by omega) ‹_›] | rw [pgh_1 (by omega) ‹_› ‹_›], rfl⟩
theorem c_value (hp : is_pg V h a n al at_ av Le Te Va) (b k : Int32) : rx_C V d kc ks m_Page_value [.ref a, .int b, .int k] h (rx_X (.inl (some (.int (pgv n Va b k)))) h) := by
  have hn : n ≤ 20 := hp.2.2.2.2
  refine rx_iload_n d_Page_value_0 (by rfl) ?_
  refine rx_if_lt (tgt := 26) d_Page_value_1 (by rfl) (fun c1 => ?_) (fun c1 => ?_)
  · refine rx_iconst (v := 0) d_Page_value_26 (by decide) ?_
    refine rx_istore_n d_Page_value_27 (Nat.le_of_ble_eq_true rfl) ?_
    refine rx_iload_n d_Page_value_28 (by rfl) ?_
    refine rx_if_eq (tgt := 46) d_Page_value_29 (by rfl) (fun _ => ?_) (fun z => absurd z (by decide))
    refine rx_iconst (v := 0) d_Page_value_46 (by decide) ?_
    refine rx_ireturn d_Page_value_47 (by rfl) ?_
    exact ⟨by first | rw [pgv_b0 ‹_›] | rw [pgv_b1 hn ‹_›] | rw [pgv_k0 ‹_›] | rw [pgv_k1 ‹_›] | rw [pgv_1 hn c1 c9 c13 c19], rfl⟩
  · refine rx_iload_n d_Page_value_4 (by rfl) ?_
    refine rx_aload_nr d_Page_value_5 (by rfl) ?_
    refine rx_getfield d_Page_value_6 fl_Page_9 hp.1 (by rfl) ?_
    refine rx_icmp_ge (tgt := 26) d_Page_value_9 (by rfl) (fun c9 => ?_) (fun c9 => ?_)
    · refine rx_iconst (v := 0) d_Page_value_26 (by decide) ?_
      refine rx_istore_n d_Page_value_27 (Nat.le_of_ble_eq_true rfl) ?_
      refine rx_iload_n d_Page_value_28 (by rfl) ?_
      refine rx_if_eq (tgt := 46) d_Page_value_29 (by rfl) (fun _ => ?_) (fun z => absurd z (by decide))
      refine rx_iconst (v := 0) d_Page_value_46 (by decide) ?_
      refine rx_ireturn d_Page_value_47 (by rfl) ?_
      exact ⟨by first | rw [pgv_b0 ‹_›] | rw [pgv_b1 hn ‹_›] | rw [pgv_k0 ‹_›] | rw [pgv_k1 ‹_›] | rw [pgv_1 hn c1 c9 c13 c19], rfl⟩
    · refine rx_iload_n d_Page_value_12 (by rfl) ?_
      refine rx_if_lt (tgt := 26) d_Page_value_13 (by rfl) (fun c13 => ?_) (fun c13 => ?_)
      · refine rx_iconst (v := 0) d_Page_value_26 (by decide) ?_
        refine rx_istore_n d_Page_value_27 (Nat.le_of_ble_eq_true rfl) ?_
        refine rx_iload_n d_Page_value_28 (by rfl) ?_
        refine rx_if_eq (tgt := 46) d_Page_value_29 (by rfl) (fun _ => ?_) (fun z => absurd z (by decide))
        refine rx_iconst (v := 0) d_Page_value_46 (by decide) ?_
        refine rx_ireturn d_Page_value_47 (by rfl) ?_
        exact ⟨by first | rw [pgv_b0 ‹_›] | rw [pgv_b1 hn ‹_›] | rw [pgv_k0 ‹_›] | rw [pgv_k1 ‹_›] | rw [pgv_1 hn c1 c9 c13 c19], rfl⟩
      · refine rx_iload_n d_Page_value_16 (by rfl) ?_
        refine rx_bipush (v := 10) d_Page_value_17 (by decide) ?_
        refine rx_icmp_ge (tgt := 26) d_Page_value_19 (by rfl) (fun c19 => ?_) (fun c19 => ?_)
        · refine rx_iconst (v := 0) d_Page_value_26 (by decide) ?_
          refine rx_istore_n d_Page_value_27 (Nat.le_of_ble_eq_true rfl) ?_
          refine rx_iload_n d_Page_value_28 (by rfl) ?_
          refine rx_if_eq (tgt := 46) d_Page_value_29 (by rfl) (fun _ => ?_) (fun z => absurd z (by decide))
          refine rx_iconst (v := 0) d_Page_value_46 (by decide) ?_
          refine rx_ireturn d_Page_value_47 (by rfl) ?_
          exact ⟨by first | rw [pgv_b0 ‹_›] | rw [pgv_b1 hn ‹_›] | rw [pgv_k0 ‹_›] | rw [pgv_k1 ‹_›] | rw [pgv_1 hn c1 c9 c13 c19], rfl⟩
        · refine rx_iconst (v := 1) d_Page_value_22 (by decide) ?_
          refine rx_goto (tgt := 27) d_Page_value_23 (by rfl) ?_
          refine rx_istore_n d_Page_value_27 (Nat.le_of_ble_eq_true rfl) ?_
          refine rx_iload_n d_Page_value_28 (by rfl) ?_
          refine rx_if_eq (tgt := 46) d_Page_value_29 (by rfl) (fun z => absurd z (by decide)) (fun _ => ?_)
          refine rx_aload_nr d_Page_value_32 (by rfl) ?_
          refine rx_getfield d_Page_value_33 fl_Page_22 hp.1 (by rfl) ?_
          refine rx_iload_n d_Page_value_36 (by rfl) ?_
          refine rx_bipush (v := 10) d_Page_value_37 (by decide) ?_
          refine rx_imul d_Page_value_39 ?_
          refine rx_iload_n d_Page_value_40 (by rfl) ?_
          refine rx_iadd d_Page_value_41 ?_
          refine rx_iaload d_Page_value_42 (by rfl) hp.2.2.2.1 (pgv_ix hn c1 c9 c13 c19).1 ?_
          refine rx_goto (tgt := 47) d_Page_value_43 (by rfl) ?_
          refine rx_ireturn d_Page_value_47 (by rfl) ?_
          exact ⟨by first | rw [pgv_b0 ‹_›] | rw [pgv_b1 hn ‹_›] | rw [pgv_k0 ‹_›] | rw [pgv_k1 ‹_›] | rw [pgv_1 hn c1 c9 c13 c19], rfl⟩
theorem c_lengthOf (hp : is_pg V h a n al at_ av Le Te Va) (b : Int32) : rx_C V (d + 1) kc ks m_Page_lengthOf [.ref a, .int b] h (rx_X (.inl (some (.int (pgl n Le b)))) h) := by
  have hn : n ≤ 20 := hp.2.2.2.2
  refine rx_aload_nr d_Page_lengthOf_0 (by rfl) ?_
  refine rx_iload_n d_Page_lengthOf_1 (by rfl) ?_
  refine rx_cV d_Page_lengthOf_2 (by rfl) ml_Page_31 im_Page_hasBar se_Page_hasBar (by exact c9_Page_hasBar) hp.1 (by rfl) (by exact Nat.le_of_ble_eq_true rfl) (c_hasBar hp b) ?_
  refine rx_if_eq (tgt := 17) d_Page_lengthOf_5 (by rfl) (fun c5 => ?_) (fun c5 => ?_)
  · refine rx_iconst (v := 0) d_Page_lengthOf_17 (by decide) ?_
    refine rx_ireturn d_Page_lengthOf_18 (by rfl) ?_
    exact ⟨by first | rw [pgl_0 ‹_›] | rw [(pgl_1 (Le := Le) hn c5).2], rfl⟩
  · refine rx_aload_nr d_Page_lengthOf_8 (by rfl) ?_
    refine rx_getfield d_Page_lengthOf_9 fl_Page_15 hp.1 (by rfl) ?_
    refine rx_iload_n d_Page_lengthOf_12 (by rfl) ?_
    refine rx_iaload d_Page_lengthOf_13 (by rfl) hp.2.1 (pgl_1 (Le := Le) hn c5).1 ?_
    refine rx_goto (tgt := 18) d_Page_lengthOf_14 (by rfl) ?_
    refine rx_ireturn d_Page_lengthOf_18 (by rfl) ?_
    exact ⟨by first | rw [pgl_0 ‹_›] | rw [(pgl_1 (Le := Le) hn c5).2], rfl⟩
theorem c_tempoOf (hp : is_pg V h a n al at_ av Le Te Va) (b : Int32) : rx_C V (d + 1) kc ks m_Page_tempoOf [.ref a, .int b] h (rx_X (.inl (some (.int (pgl n Te b)))) h) := by
  have hn : n ≤ 20 := hp.2.2.2.2
  refine rx_aload_nr d_Page_tempoOf_0 (by rfl) ?_
  refine rx_iload_n d_Page_tempoOf_1 (by rfl) ?_
  refine rx_cV d_Page_tempoOf_2 (by rfl) ml_Page_31 im_Page_hasBar se_Page_hasBar (by exact c9_Page_hasBar) hp.1 (by rfl) (by exact Nat.le_of_ble_eq_true rfl) (c_hasBar hp b) ?_
  refine rx_if_eq (tgt := 17) d_Page_tempoOf_5 (by rfl) (fun c5 => ?_) (fun c5 => ?_)
  · refine rx_iconst (v := 0) d_Page_tempoOf_17 (by decide) ?_
    refine rx_ireturn d_Page_tempoOf_18 (by rfl) ?_
    exact ⟨by first | rw [pgl_0 ‹_›] | rw [(pgl_1 (Le := Te) hn c5).2], rfl⟩
  · refine rx_aload_nr d_Page_tempoOf_8 (by rfl) ?_
    refine rx_getfield d_Page_tempoOf_9 fl_Page_19 hp.1 (by rfl) ?_
    refine rx_iload_n d_Page_tempoOf_12 (by rfl) ?_
    refine rx_iaload d_Page_tempoOf_13 (by rfl) hp.2.2.1 (pgl_1 (Le := Le) hn c5).1 ?_
    refine rx_goto (tgt := 18) d_Page_tempoOf_14 (by rfl) ?_
    refine rx_ireturn d_Page_tempoOf_18 (by rfl) ?_
    exact ⟨by first | rw [pgl_0 ‹_›] | rw [(pgl_1 (Le := Te) hn c5).2], rfl⟩
theorem c_has (hp : is_pg V h a n al at_ av Le Te Va) (b k : Int32) : rx_C V (d + 1) kc ks m_Page_has [.ref a, .int b, .int k] h (rx_X (.inl (some (.int (if pgv n Va b k = 0 then 0 else 1)))) h) := by
  refine rx_aload_nr d_Page_has_0 (by rfl) ?_
  refine rx_iload_n d_Page_has_1 (by rfl) ?_
  refine rx_iload_n d_Page_has_2 (by rfl) ?_
  refine rx_cV d_Page_has_3 (by rfl) ml_Page_38 im_Page_value se_Page_value (by exact c9_Page_value) hp.1 (by rfl) (by exact Nat.le_of_ble_eq_true rfl) (c_value hp b k) ?_
  refine rx_if_eq (tgt := 13) d_Page_has_6 (by rfl) (fun c6 => ?_) (fun c6 => ?_)
  · refine rx_iconst (v := 0) d_Page_has_13 (by decide) ?_
    refine rx_zreturn d_Page_has_14 (by rfl) (by rfl) ?_
    exact ⟨by first | rw [if_pos c6] | rw [if_neg c6], rfl⟩
  · refine rx_iconst (v := 1) d_Page_has_9 (by decide) ?_
    refine rx_goto (tgt := 14) d_Page_has_10 (by rfl) ?_
    refine rx_zreturn d_Page_has_14 (by rfl) (by rfl) ?_
    exact ⟨by first | rw [if_pos c6] | rw [if_neg c6], rfl⟩
theorem c_passBit (p : Int32) : rx_C V d kc ks m_Page_passBit [.int p] h (rx_X (.inl (some (.int (1 <<< ((p - 1) &&& 31))))) h) := by
  refine rx_iconst (v := 1) d_Page_passBit_0 (by decide) ?_
  refine rx_iload_n d_Page_passBit_1 (by rfl) ?_
  refine rx_iconst (v := 1) d_Page_passBit_2 (by decide) ?_
  refine rx_isub d_Page_passBit_3 ?_
  refine rx_ishl d_Page_passBit_4 ?_
  refine rx_ireturn d_Page_passBit_5 (by rfl) ?_
  exact ⟨rfl, rfl⟩
theorem c_hasPass (hp : is_pg V h a n al at_ av Le Te Va) (b p : Int32) : rx_C V (d + 1) kc ks m_Page_hasPass [.ref a, .int b, .int p] h (rx_X (.inl (some (.int (if pgv n Va b 2 &&& (1 <<< ((p - 1) &&& 31)) = 0 then 0 else 1)))) h) := by
  refine rx_aload_nr d_Page_hasPass_0 (by rfl) ?_
  refine rx_iload_n d_Page_hasPass_1 (by rfl) ?_
  refine rx_iconst (v := 2) d_Page_hasPass_2 (by decide) ?_
  refine rx_cV d_Page_hasPass_3 (by rfl) ml_Page_38 im_Page_value se_Page_value (by exact c9_Page_value) hp.1 (by rfl) (by exact Nat.le_of_ble_eq_true rfl) (c_value hp b 2) ?_
  refine rx_iload_n d_Page_hasPass_6 (by rfl) ?_
  refine rx_cS d_Page_hasPass_7 ml_Page_42 st_Page_passBit (by exact c9_Page_passBit) (by rfl) (by exact Nat.le_of_ble_eq_true rfl) (c_passBit p) ?_
  refine rx_iand d_Page_hasPass_10 ?_
  refine rx_if_eq (tgt := 18) d_Page_hasPass_11 (by rfl) (fun c11 => ?_) (fun c11 => ?_)
  · refine rx_iconst (v := 0) d_Page_hasPass_18 (by decide) ?_
    refine rx_zreturn d_Page_hasPass_19 (by rfl) (by rfl) ?_
    exact ⟨by first | rw [if_pos c11] | rw [if_neg c11], rfl⟩
  · refine rx_iconst (v := 1) d_Page_hasPass_14 (by decide) ?_
    refine rx_goto (tgt := 19) d_Page_hasPass_15 (by rfl) ?_
    refine rx_zreturn d_Page_hasPass_19 (by rfl) (by rfl) ?_
    exact ⟨by first | rw [if_pos c11] | rw [if_neg c11], rfl⟩
end PG
end
section
/-! Page.lastWith; Jump; Repeat; Note -/
/-- the last j with P, below m, not below lo; else -1 -/
def lwf (Pr : Nat → Bool) (lo : Int) : Nat → Int
  | 0 => -1
  | j + 1 => if (j : Int) < lo then -1 else if Pr j then j else lwf Pr lo j
theorem lwf_out {Pr : Nat → Bool} {lo : Int} {j : Nat} (h : (j : Int) < lo) : lwf Pr lo (j + 1) = -1 := if_pos h
theorem lwf_no {Pr : Nat → Bool} {lo : Int} {j : Nat} (h : ¬ (j : Int) < lo) (hp : Pr j = false) : lwf Pr lo (j + 1) = lwf Pr lo j := by
  show (if (j : Int) < lo then -1 else if Pr j then (j : Int) else lwf Pr lo j) = _
  rw [if_neg h, hp]; rfl
theorem lwf_yes {Pr : Nat → Bool} {lo : Int} {j : Nat} (h : ¬ (j : Int) < lo) (hp : Pr j = true) : lwf Pr lo (j + 1) = j := by
  show (if (j : Int) < lo then -1 else if Pr j then (j : Int) else lwf Pr lo j) = _
  rw [if_neg h, hp]; rfl
theorem lwm (f : Int32) : (if f < 0 then 0 else f).toInt = max f.toInt 0 := by
  by_cases hf : f < 0
  · rw [if_pos hf]
    rw [i_lt, i_0] at hf
    rw [i_0]; omega
  · rw [if_neg hf]
    rw [i_lt, i_0] at hf
    omega
theorem i_of {b : Int32} {j : Nat} (hj : j ≤ 1000000) (h : b.toInt = j) : b = nI j := Int32.toInt_inj.mp (by rw [h, i_n hj])
theorem i_m1 : (-1 : Int32).toInt = -1 := by decide
theorem i_dec {b : Int32} {j : Nat} (hj : j ≤ 1000000) (h : b.toInt = j) : (b + Int32.ofInt (-1)).toInt = (j : Int) - 1 := by
  rw [i_of hj h]
  cases j with
  | zero => decide
  | succ k =>
    have e : nI (k + 1) + Int32.ofInt (-1) = nI k := pk_m1 k
    rw [e, i_n (by omega)]
    omega
theorem i_ofI (j : Nat) : Int32.ofInt (j : Int) = nI j := Int32.ofInt_eq_ofNat
section LF
variable {V : rx_V} {d kc ks a n al at_ av : Nat} {h : List va_E} {Le Te Va : Nat → Int32}
theorem l_lw0 {k : Nat} (hp : is_pg V h a n al at_ av Le Te Va) (f t b : Int32) (hb : b.toInt < 0) : rx_W V (d + 1) kc ks m_Page_lastWith 24 [some (.ref a), some (.int (nI k)), some (.int f), some (.int t), some (.int b)] [] h (rx_X (.inl (some (.int (-1)))) h) := by
  refine rx_iload d_Page_lastWith_24 (by rfl) ?_
  refine rx_iload_n d_Page_lastWith_26 (by rfl) ?_
  refine rx_iconst (v := 0) d_Page_lastWith_27 (by decide) ?_
  refine rx_max d_Page_lastWith_28 ml_Page_51 (Nat.le_of_ble_eq_true rfl) ?_
  refine rx_icmp_lt (tgt := 58) d_Page_lastWith_31 (by rfl) (fun c31 => ?_) (fun z => absurd (show b < (if f < 0 then 0 else f) by rw [i_lt, lwm]; omega) z)
  refine rx_iconst (v := -1) d_Page_lastWith_58 (by decide) ?_
  refine rx_ireturn d_Page_lastWith_59 (by rfl) ?_
  exact ⟨rfl, rfl⟩
set_option maxHeartbeats 400000 in
theorem l_lastWith (hp : is_pg V h a n al at_ av Le Te Va) {k : Nat} (hk : k < 10) (f t : Int32) : ∀ (j : Nat) (b : Int32), j ≤ n → b.toInt = (j : Int) - 1 → rx_W V (d + 1) kc ks m_Page_lastWith 24 [some (.ref a), some (.int (nI k)), some (.int f), some (.int t), some (.int b)] [] h (rx_X (.inl (some (.int (Int32.ofInt (lwf (fun i => decide (Va (10 * i + k) ≠ 0)) (max f.toInt 0) j))))) h) := by
  have hn : n ≤ 20 := hp.2.2.2.2
  intro j
  induction j with
  | zero =>
    intro b hj hb
    exact l_lw0 hp f t b (by rw [hb]; omega)
  | succ j ih =>
    intro b hj hb
    have hb' : b.toInt = (j : Int) := by rw [hb]; omega
    have hbj : b = nI j := i_of (by omega) hb'
    refine rx_iload d_Page_lastWith_24 (by rfl) ?_
    refine rx_iload_n d_Page_lastWith_26 (by rfl) ?_
    refine rx_iconst (v := 0) d_Page_lastWith_27 (by decide) ?_
    refine rx_max d_Page_lastWith_28 ml_Page_51 (Nat.le_of_ble_eq_true rfl) ?_
    refine rx_icmp_lt (tgt := 58) d_Page_lastWith_31 (by rfl) (fun c31 => ?_) (fun c31 => ?_)
    · rw [i_lt, lwm, hb'] at c31
      refine rx_iconst (v := -1) d_Page_lastWith_58 (by decide) ?_
      refine rx_ireturn d_Page_lastWith_59 (by rfl) ?_
      exact ⟨by rw [lwf_out c31]; rfl, rfl⟩
    · rw [i_lt, lwm, hb'] at c31
      have e : nI j * 10 + nI k = nI (10 * j + k) := by rw [show (10 : Int32) = nI 10 from rfl, pk_mul, nI_add, Nat.mul_comm]
      have e2 : (b * 10 + nI k).toNatClampNeg = 10 * j + k := by rw [hbj, e, i_cl (by omega)]
      refine rx_aload_nr d_Page_lastWith_34 (by rfl) ?_
      refine rx_getfield d_Page_lastWith_35 fl_Page_22 hp.1 (by rfl) ?_
      refine rx_iload d_Page_lastWith_38 (by rfl) ?_
      refine rx_bipush (v := 10) d_Page_lastWith_40 (by decide) ?_
      refine rx_imul d_Page_lastWith_42 ?_
      refine rx_iload_n d_Page_lastWith_43 (by rfl) ?_
      refine rx_iadd d_Page_lastWith_44 ?_
      refine rx_iaload d_Page_lastWith_45 (by rfl) hp.2.2.2.1 (by rw [hbj, e]; exact vp_in_nI (by omega) (by omega)) ?_
      rw [e2]
      refine rx_if_eq (tgt := 52) d_Page_lastWith_46 (by rfl) (fun c46 => ?_) (fun c46 => ?_)
      · refine rx_iinc d_Page_lastWith_52 (by rfl) (by rfl) ?_
        refine rx_goto (tgt := 24) d_Page_lastWith_55 (by rfl) ?_
        exact rx_cons (ih (b + Int32.ofInt (-1)) (by omega) (i_dec (by omega) hb')) (fun r h9 z => ⟨z.1.trans (by rw [lwf_no c31 (by simp [c46])]), z.2⟩)
      · refine rx_iload d_Page_lastWith_49 (by rfl) ?_
        refine rx_ireturn d_Page_lastWith_51 (by rfl) ?_
        exact ⟨by rw [lwf_yes c31 (by simp [c46]), i_ofI, hbj], rfl⟩
theorem c_lastWith (hp : is_pg V h a n al at_ av Le Te Va) {k : Nat} (hk : k < 10) (f t : Int32) : rx_C V (d + 1) kc ks m_Page_lastWith [.ref a, .int (nI k), .int f, .int t] h (rx_X (.inl (some (.int (Int32.ofInt (lwf (fun i => decide (Va (10 * i + k) ≠ 0)) (max f.toInt 0) ((min t.toInt ((n : Int) - 1)) + 1).toNat))))) h) := by
  have hn : n ≤ 20 := hp.2.2.2.2
  have hk0 : ¬ nI k < 0 := by rw [i_lt, i_n (by omega), i_0]; omega
  have hk1 : nI k < 10 := by rw [i_lt, i_n (by omega), i_10]; omega
  have hm : (nI n - 1).toInt = (n : Int) - 1 := by
    cases n with
    | zero => decide
    | succ j => rw [show nI (j + 1) - 1 = nI j from nI_pred j, i_n (by omega)]; omega
  have hmin : (if nI n - 1 < t then nI n - 1 else t).toInt = min t.toInt ((n : Int) - 1) := by
    by_cases hc : nI n - 1 < t
    · rw [if_pos hc, hm]; rw [i_lt, hm] at hc; omega
    · rw [if_neg hc]; rw [i_lt, hm] at hc; omega
  refine rx_iload_n d_Page_lastWith_0 (by rfl) ?_
  refine rx_if_lt (tgt := 10) d_Page_lastWith_1 (by rfl) (fun z => absurd z hk0) (fun c1 => ?_)
  refine rx_iload_n d_Page_lastWith_4 (by rfl) ?_
  refine rx_bipush (v := 10) d_Page_lastWith_5 (by decide) ?_
  refine rx_icmp_lt (tgt := 12) d_Page_lastWith_7 (by rfl) (fun c7 => ?_) (fun z => absurd hk1 z)
  refine rx_iload_n d_Page_lastWith_12 (by rfl) ?_
  refine rx_aload_nr d_Page_lastWith_13 (by rfl) ?_
  refine rx_getfield d_Page_lastWith_14 fl_Page_9 hp.1 (by rfl) ?_
  refine rx_iconst (v := 1) d_Page_lastWith_17 (by decide) ?_
  refine rx_isub d_Page_lastWith_18 ?_
  refine rx_min d_Page_lastWith_19 ml_Page_46 (Nat.le_of_ble_eq_true rfl) ?_
  refine rx_istore d_Page_lastWith_22 (Nat.le_of_ble_eq_true rfl) ?_
  by_cases hneg : (if nI n - 1 < t then nI n - 1 else t).toInt < 0
  · have hz : ((min t.toInt ((n : Int) - 1)) + 1).toNat = 0 := by omega
    rw [hz]
    exact l_lw0 hp f t _ hneg
  · exact l_lastWith hp hk f t _ _ (by omega) (by rw [hmin]; omega)
theorem c_isToSegno (v : Int32) : rx_C V d kc ks m_Jump_isToSegno [.int v] h (rx_X (.inl (some (.int (if (v - 1) - (v - 1) / 2 * 2 = 1 then 1 else 0)))) h) := by
  refine rx_iload_n d_Jump_isToSegno_0 (by rfl) ?_
  refine rx_iconst (v := 1) d_Jump_isToSegno_1 (by decide) ?_
  refine rx_isub d_Jump_isToSegno_2 ?_
  refine rx_iconst (v := 2) d_Jump_isToSegno_3 (by decide) ?_
  refine rx_irem d_Jump_isToSegno_4 (by decide) ?_
  refine rx_iconst (v := 1) d_Jump_isToSegno_5 (by decide) ?_
  refine rx_icmp_ne (tgt := 13) d_Jump_isToSegno_6 (by rfl) (fun c6 => ?_) (fun c6 => ?_)
  · refine rx_iconst (v := 0) d_Jump_isToSegno_13 (by decide) ?_
    refine rx_zreturn d_Jump_isToSegno_14 (by rfl) (by rfl) ?_
    exact ⟨by first | rw [if_neg c6] | rw [if_pos c6], rfl⟩
  · refine rx_iconst (v := 1) d_Jump_isToSegno_9 (by decide) ?_
    refine rx_goto (tgt := 14) d_Jump_isToSegno_10 (by rfl) ?_
    refine rx_zreturn d_Jump_isToSegno_14 (by rfl) (by rfl) ?_
    exact ⟨by first | rw [if_neg c6] | rw [if_pos c6], rfl⟩
theorem c_hasRepeats (v : Int32) : rx_C V d kc ks m_Jump_hasRepeats [.int v] h (rx_X (.inl (some (.int (if v ≤ 6 then 0 else 1)))) h) := by
  refine rx_iload_n d_Jump_hasRepeats_0 (by rfl) ?_
  refine rx_bipush (v := 6) d_Jump_hasRepeats_1 (by decide) ?_
  refine rx_icmp_le (tgt := 10) d_Jump_hasRepeats_3 (by rfl) (fun c3 => ?_) (fun c3 => ?_)
  · refine rx_iconst (v := 0) d_Jump_hasRepeats_10 (by decide) ?_
    refine rx_zreturn d_Jump_hasRepeats_11 (by rfl) (by rfl) ?_
    exact ⟨by first | rw [if_pos c3] | rw [if_neg c3], rfl⟩
  · refine rx_iconst (v := 1) d_Jump_hasRepeats_6 (by decide) ?_
    refine rx_goto (tgt := 11) d_Jump_hasRepeats_7 (by rfl) ?_
    refine rx_zreturn d_Jump_hasRepeats_11 (by rfl) (by rfl) ?_
    exact ⟨by first | rw [if_pos c3] | rw [if_neg c3], rfl⟩
theorem c_way (v : Int32) : rx_C V d kc ks m_Jump_way [.int v] h (rx_X (.inl (some (.int ((v - 1) / 2 - (v - 1) / 2 / 3 * 3)))) h) := by
  refine rx_iload_n d_Jump_way_0 (by rfl) ?_
  refine rx_iconst (v := 1) d_Jump_way_1 (by decide) ?_
  refine rx_isub d_Jump_way_2 ?_
  refine rx_iconst (v := 2) d_Jump_way_3 (by decide) ?_
  refine rx_idiv d_Jump_way_4 (by decide) ?_
  refine rx_iconst (v := 3) d_Jump_way_5 (by decide) ?_
  refine rx_irem d_Jump_way_6 (by decide) ?_
  refine rx_ireturn d_Jump_way_7 (by rfl) ?_
  exact ⟨rfl, rfl⟩
/-- a Repeat's seven numbers -/
def rcl (R : Nat → Int32) : va_E := .inr (4, [.int (R 0), .int (R 1), .int (R 2), .int (R 3), .int (R 4), .int (R 5), .int (R 6)])
/-- a Note's six numbers -/
def ncl (N : Nat → Int32) : va_E := .inr (7, [.int (N 0), .int (N 1), .int (N 2), .int (N 3), .int (N 4), .int (N 5)])
variable {q q2 : Nat} {R N N2 : Nat → Int32}
theorem c_hasEndings (hr : rx_rd V h q = some (rcl R)) : rx_C V d kc ks m_Repeat_hasEndings [.ref q] h (rx_X (.inl (some (.int (if R 3 = -1 then 0 else 1)))) h) := by
  refine rx_aload_nr d_Repeat_hasEndings_0 (by rfl) ?_
  refine rx_getfield d_Repeat_hasEndings_1 fl_Repeat_9 hr (by rfl) ?_
  refine rx_iconst (v := -1) d_Repeat_hasEndings_4 (by decide) ?_
  refine rx_icmp_eq (tgt := 12) d_Repeat_hasEndings_5 (by rfl) (fun c5 => ?_) (fun c5 => ?_)
  · refine rx_iconst (v := 0) d_Repeat_hasEndings_12 (by decide) ?_
    refine rx_zreturn d_Repeat_hasEndings_13 (by rfl) (by rfl) ?_
    exact ⟨by first | rw [if_pos c5] | rw [if_neg c5], rfl⟩
  · refine rx_iconst (v := 1) d_Repeat_hasEndings_8 (by decide) ?_
    refine rx_goto (tgt := 13) d_Repeat_hasEndings_9 (by rfl) ?_
    refine rx_zreturn d_Repeat_hasEndings_13 (by rfl) (by rfl) ?_
    exact ⟨by first | rw [if_pos c5] | rw [if_neg c5], rfl⟩
theorem c_spans (hr : rx_rd V h q = some (rcl R)) (b : Int32) : rx_C V d kc ks m_Repeat_spans [.ref q, .int b] h (rx_X (.inl (some (.int (if b < R 0 ∨ R 2 < b then 0 else 1)))) h) := by
  refine rx_iload_n d_Repeat_spans_0 (by rfl) ?_
  refine rx_aload_nr d_Repeat_spans_1 (by rfl) ?_
  refine rx_getfield d_Repeat_spans_2 fl_Repeat_15 hr (by rfl) ?_
  refine rx_icmp_lt (tgt := 20) d_Repeat_spans_5 (by rfl) (fun c5 => ?_) (fun c5 => ?_)
  · refine rx_iconst (v := 0) d_Repeat_spans_20 (by decide) ?_
    refine rx_zreturn d_Repeat_spans_21 (by rfl) (by rfl) ?_
    exact ⟨by first | rw [if_pos (Or.inl c5)] | rw [if_pos (Or.inr c13)] | rw [if_neg (fun z => z.elim c5 c13)], rfl⟩
  · refine rx_iload_n d_Repeat_spans_8 (by rfl) ?_
    refine rx_aload_nr d_Repeat_spans_9 (by rfl) ?_
    refine rx_getfield d_Repeat_spans_10 fl_Repeat_18 hr (by rfl) ?_
    refine rx_icmp_gt (tgt := 20) d_Repeat_spans_13 (by rfl) (fun c13 => ?_) (fun c13 => ?_)
    · refine rx_iconst (v := 0) d_Repeat_spans_20 (by decide) ?_
      refine rx_zreturn d_Repeat_spans_21 (by rfl) (by rfl) ?_
      exact ⟨by first | rw [if_pos (Or.inl c5)] | rw [if_pos (Or.inr c13)] | rw [if_neg (fun z => z.elim c5 c13)], rfl⟩
    · refine rx_iconst (v := 1) d_Repeat_spans_16 (by decide) ?_
      refine rx_goto (tgt := 21) d_Repeat_spans_17 (by rfl) ?_
      refine rx_zreturn d_Repeat_spans_21 (by rfl) (by rfl) ?_
      exact ⟨by first | rw [if_pos (Or.inl c5)] | rw [if_pos (Or.inr c13)] | rw [if_neg (fun z => z.elim c5 c13)], rfl⟩
theorem c_end (hr : rx_rd V h q = some (ncl N)) : rx_C V d kc ks m_Note_end [.ref q] h (rx_X (.inl (some (.int (N 2 + N 3)))) h) := by
  refine rx_aload_nr d_Note_end_0 (by rfl) ?_
  refine rx_getfield d_Note_end_1 fl_Note_16 hr (by rfl) ?_
  refine rx_aload_nr d_Note_end_4 (by rfl) ?_
  refine rx_getfield d_Note_end_5 fl_Note_19 hr (by rfl) ?_
  refine rx_iadd d_Note_end_8 ?_
  refine rx_ireturn d_Note_end_9 (by rfl) ?_
  exact ⟨rfl, rfl⟩
theorem c_isIn (hr : rx_rd V h q = some (ncl N)) (p b : Int32) : rx_C V d kc ks m_Note_isIn [.ref q, .int p, .int b] h (rx_X (.inl (some (.int (if N 0 = p ∧ N 1 = b then 1 else 0)))) h) := by
  refine rx_aload_nr d_Note_isIn_0 (by rfl) ?_
  refine rx_getfield d_Note_isIn_1 fl_Note_7 hr (by rfl) ?_
  refine rx_iload_n d_Note_isIn_4 (by rfl) ?_
  refine rx_icmp_ne (tgt := 20) d_Note_isIn_5 (by rfl) (fun c5 => ?_) (fun c5 => ?_)
  · refine rx_iconst (v := 0) d_Note_isIn_20 (by decide) ?_
    refine rx_zreturn d_Note_isIn_21 (by rfl) (by rfl) ?_
    exact ⟨by first | rw [if_neg (fun z => c5 z.1)] | rw [if_neg (fun z => c13 z.2)] | rw [if_pos ⟨c5, c13⟩], rfl⟩
  · refine rx_aload_nr d_Note_isIn_8 (by rfl) ?_
    refine rx_getfield d_Note_isIn_9 fl_Note_13 hr (by rfl) ?_
    refine rx_iload_n d_Note_isIn_12 (by rfl) ?_
    refine rx_icmp_ne (tgt := 20) d_Note_isIn_13 (by rfl) (fun c13 => ?_) (fun c13 => ?_)
    · refine rx_iconst (v := 0) d_Note_isIn_20 (by decide) ?_
      refine rx_zreturn d_Note_isIn_21 (by rfl) (by rfl) ?_
      exact ⟨by first | rw [if_neg (fun z => c5 z.1)] | rw [if_neg (fun z => c13 z.2)] | rw [if_pos ⟨c5, c13⟩], rfl⟩
    · refine rx_iconst (v := 1) d_Note_isIn_16 (by decide) ?_
      refine rx_goto (tgt := 21) d_Note_isIn_17 (by rfl) ?_
      refine rx_zreturn d_Note_isIn_21 (by rfl) (by rfl) ?_
      exact ⟨by first | rw [if_neg (fun z => c5 z.1)] | rw [if_neg (fun z => c13 z.2)] | rw [if_pos ⟨c5, c13⟩], rfl⟩
theorem c_reachesOver (hp : is_pg V h a n al at_ av Le Te Va) (hr : rx_rd V h q = some (ncl N)) : rx_C V (d + 2) kc ks m_Note_reachesOver [.ref q, .ref a] h (rx_X (.inl (some (.int (if N 5 ≠ 0 ∧ N 2 + N 3 = pgl n Le (N 1) then 1 else 0)))) h) := by
  refine rx_aload_nr d_Note_reachesOver_0 (by rfl) ?_
  refine rx_getfield d_Note_reachesOver_1 fl_Note_25 hr (by rfl) ?_
  refine rx_if_eq (tgt := 26) d_Note_reachesOver_4 (by rfl) (fun c4 => ?_) (fun c4 => ?_)
  · refine rx_iconst (v := 0) d_Note_reachesOver_26 (by decide) ?_
    refine rx_zreturn d_Note_reachesOver_27 (by rfl) (by rfl) ?_
    exact ⟨by simp_all, rfl⟩
  · refine rx_aload_nr d_Note_reachesOver_7 (by rfl) ?_
    refine rx_cV d_Note_reachesOver_8 (by rfl) ml_Note_29 im_Note_end se_Note_end (by exact c9_Note_end) hr (by rfl) (by exact Nat.le_of_ble_eq_true rfl) (c_end hr) ?_
    refine rx_aload_nr d_Note_reachesOver_11 (by rfl) ?_
    refine rx_aload_nr d_Note_reachesOver_12 (by rfl) ?_
    refine rx_getfield d_Note_reachesOver_13 fl_Note_13 hr (by rfl) ?_
    refine rx_cV d_Note_reachesOver_16 (by rfl) ml_Note_33 im_Page_lengthOf se_Page_lengthOf (by exact c9_Page_lengthOf) hp.1 (by rfl) (by exact Nat.le_of_ble_eq_true rfl) (c_lengthOf hp (N 1)) ?_
    refine rx_icmp_ne (tgt := 26) d_Note_reachesOver_19 (by rfl) (fun c19 => ?_) (fun c19 => ?_)
    · refine rx_iconst (v := 0) d_Note_reachesOver_26 (by decide) ?_
      refine rx_zreturn d_Note_reachesOver_27 (by rfl) (by rfl) ?_
      exact ⟨by simp_all, rfl⟩
    · refine rx_iconst (v := 1) d_Note_reachesOver_22 (by decide) ?_
      refine rx_goto (tgt := 27) d_Note_reachesOver_23 (by rfl) ?_
      refine rx_zreturn d_Note_reachesOver_27 (by rfl) (by rfl) ?_
      exact ⟨by simp_all, rfl⟩
/-- the order of the notes: part, bar, start, pitch -/
def nbh (N N2 : Nat → Int32) : Prop := if N 0 ≠ N2 0 then N2 0 < N 0 else if N 1 ≠ N2 1 then N2 1 < N 1 else if N 2 ≠ N2 2 then N2 2 < N 2 else N2 4 < N 4
theorem i_nle {x y : Int32} (h : ¬ x ≤ y) : y < x := by rw [i_le] at h; rw [i_lt]; omega
theorem i_nlt {x y : Int32} (h : x ≤ y) : ¬ y < x := by rw [i_le] at h; rw [i_lt]; omega
theorem c_isBehind (hr : rx_rd V h q = some (ncl N)) (hr2 : rx_rd V h q2 = some (ncl N2)) : rx_C V d kc ks m_Note_isBehind [.ref q, .ref q2] h (fun r h' => h' = h ∧ ((nbh N N2 ∧ r = .inl (some (.int 1))) ∨ (¬ nbh N N2 ∧ r = .inl (some (.int 0))))) := by
  refine rx_aload_nr d_Note_isBehind_0 (by rfl) ?_
  refine rx_getfield d_Note_isBehind_1 fl_Note_7 hr (by rfl) ?_
  refine rx_aload_nr d_Note_isBehind_4 (by rfl) ?_
  refine rx_getfield d_Note_isBehind_5 fl_Note_7 hr2 (by rfl) ?_
  refine rx_icmp_eq (tgt := 28) d_Note_isBehind_8 (by rfl) (fun c8 => ?_) (fun c8 => ?_)
  · refine rx_aload_nr d_Note_isBehind_28 (by rfl) ?_
    refine rx_getfield d_Note_isBehind_29 fl_Note_13 hr (by rfl) ?_
    refine rx_aload_nr d_Note_isBehind_32 (by rfl) ?_
    refine rx_getfield d_Note_isBehind_33 fl_Note_13 hr2 (by rfl) ?_
    refine rx_icmp_eq (tgt := 56) d_Note_isBehind_36 (by rfl) (fun c36 => ?_) (fun c36 => ?_)
    · refine rx_aload_nr d_Note_isBehind_56 (by rfl) ?_
      refine rx_getfield d_Note_isBehind_57 fl_Note_16 hr (by rfl) ?_
      refine rx_aload_nr d_Note_isBehind_60 (by rfl) ?_
      refine rx_getfield d_Note_isBehind_61 fl_Note_16 hr2 (by rfl) ?_
      refine rx_icmp_eq (tgt := 86) d_Note_isBehind_64 (by rfl) (fun c64 => ?_) (fun c64 => ?_)
      · refine rx_aload_nr d_Note_isBehind_86 (by rfl) ?_
        refine rx_getfield d_Note_isBehind_87 fl_Note_22 hr (by rfl) ?_
        refine rx_aload_nr d_Note_isBehind_90 (by rfl) ?_
        refine rx_getfield d_Note_isBehind_91 fl_Note_22 hr2 (by rfl) ?_
        refine rx_icmp_le (tgt := 101) d_Note_isBehind_94 (by rfl) (fun c94 => ?_) (fun c94 => ?_)
        · refine rx_iconst (v := 0) d_Note_isBehind_101 (by decide) ?_
          refine rx_zreturn d_Note_isBehind_102 (by rfl) (by rfl) ?_
          exact ⟨rfl, by first | exact Or.inl ⟨by simp_all [nbh, i_nle], rfl⟩ | exact Or.inr ⟨by simp_all [nbh, i_nlt], rfl⟩⟩
        · refine rx_iconst (v := 1) d_Note_isBehind_97 (by decide) ?_
          refine rx_goto (tgt := 102) d_Note_isBehind_98 (by rfl) ?_
          refine rx_zreturn d_Note_isBehind_102 (by rfl) (by rfl) ?_
          exact ⟨rfl, by first | exact Or.inl ⟨by simp_all [nbh, i_nle], rfl⟩ | exact Or.inr ⟨by simp_all [nbh, i_nlt], rfl⟩⟩
      · refine rx_aload_nr d_Note_isBehind_67 (by rfl) ?_
        refine rx_getfield d_Note_isBehind_68 fl_Note_16 hr (by rfl) ?_
        refine rx_aload_nr d_Note_isBehind_71 (by rfl) ?_
        refine rx_getfield d_Note_isBehind_72 fl_Note_16 hr2 (by rfl) ?_
        refine rx_icmp_le (tgt := 82) d_Note_isBehind_75 (by rfl) (fun c75 => ?_) (fun c75 => ?_)
        · refine rx_iconst (v := 0) d_Note_isBehind_82 (by decide) ?_
          refine rx_goto (tgt := 102) d_Note_isBehind_83 (by rfl) ?_
          refine rx_zreturn d_Note_isBehind_102 (by rfl) (by rfl) ?_
          exact ⟨rfl, by first | exact Or.inl ⟨by simp_all [nbh, i_nle], rfl⟩ | exact Or.inr ⟨by simp_all [nbh, i_nlt], rfl⟩⟩
        · refine rx_iconst (v := 1) d_Note_isBehind_78 (by decide) ?_
          refine rx_goto (tgt := 102) d_Note_isBehind_79 (by rfl) ?_
          refine rx_zreturn d_Note_isBehind_102 (by rfl) (by rfl) ?_
          exact ⟨rfl, by first | exact Or.inl ⟨by simp_all [nbh, i_nle], rfl⟩ | exact Or.inr ⟨by simp_all [nbh, i_nlt], rfl⟩⟩
    · refine rx_aload_nr d_Note_isBehind_39 (by rfl) ?_
      refine rx_getfield d_Note_isBehind_40 fl_Note_13 hr (by rfl) ?_
      refine rx_aload_nr d_Note_isBehind_43 (by rfl) ?_
      refine rx_getfield d_Note_isBehind_44 fl_Note_13 hr2 (by rfl) ?_
      refine rx_icmp_le (tgt := 54) d_Note_isBehind_47 (by rfl) (fun c47 => ?_) (fun c47 => ?_)
      · refine rx_iconst (v := 0) d_Note_isBehind_54 (by decide) ?_
        refine rx_zreturn d_Note_isBehind_55 (by rfl) (by rfl) ?_
        exact ⟨rfl, by first | exact Or.inl ⟨by simp_all [nbh, i_nle], rfl⟩ | exact Or.inr ⟨by simp_all [nbh, i_nlt], rfl⟩⟩
      · refine rx_iconst (v := 1) d_Note_isBehind_50 (by decide) ?_
        refine rx_goto (tgt := 55) d_Note_isBehind_51 (by rfl) ?_
        refine rx_zreturn d_Note_isBehind_55 (by rfl) (by rfl) ?_
        exact ⟨rfl, by first | exact Or.inl ⟨by simp_all [nbh, i_nle], rfl⟩ | exact Or.inr ⟨by simp_all [nbh, i_nlt], rfl⟩⟩
  · refine rx_aload_nr d_Note_isBehind_11 (by rfl) ?_
    refine rx_getfield d_Note_isBehind_12 fl_Note_7 hr (by rfl) ?_
    refine rx_aload_nr d_Note_isBehind_15 (by rfl) ?_
    refine rx_getfield d_Note_isBehind_16 fl_Note_7 hr2 (by rfl) ?_
    refine rx_icmp_le (tgt := 26) d_Note_isBehind_19 (by rfl) (fun c19 => ?_) (fun c19 => ?_)
    · refine rx_iconst (v := 0) d_Note_isBehind_26 (by decide) ?_
      refine rx_zreturn d_Note_isBehind_27 (by rfl) (by rfl) ?_
      exact ⟨rfl, by first | exact Or.inl ⟨by simp_all [nbh, i_nle], rfl⟩ | exact Or.inr ⟨by simp_all [nbh, i_nlt], rfl⟩⟩
    · refine rx_iconst (v := 1) d_Note_isBehind_22 (by decide) ?_
      refine rx_goto (tgt := 27) d_Note_isBehind_23 (by rfl) ?_
      refine rx_zreturn d_Note_isBehind_27 (by rfl) (by rfl) ?_
      exact ⟨rfl, by first | exact Or.inl ⟨by simp_all [nbh, i_nle], rfl⟩ | exact Or.inr ⟨by simp_all [nbh, i_nlt], rfl⟩⟩
end LF
end
section
/-! Notes: reads -/
theorem i_inc (i : Nat) : nI i + Int32.ofInt 1 = nI (i + 1) := (nI_succ i).symm
/-- the first place from i on, of m places, with Pr -/
def fix (Pr : Nat → Bool) : Nat → Nat → Option Nat
  | _, 0 => none
  | i, m + 1 => if Pr i then some i else fix Pr (i + 1) m
theorem fix_no {Pr : Nat → Bool} {i m : Nat} (h : Pr i = false) : fix Pr i (m + 1) = fix Pr (i + 1) m := by
  show (if Pr i then some i else fix Pr (i + 1) m) = _
  rw [h]; rfl
theorem fix_yes {Pr : Nat → Bool} {i m : Nat} (h : Pr i = true) : fix Pr i (m + 1) = some i := by
  show (if Pr i then some i else fix Pr (i + 1) m) = _
  rw [h]; rfl
/-- a fold over m places from i on -/
def ffo {α : Type} (f : α → Nat → α) : α → Nat → Nat → α
  | a, _, 0 => a
  | a, i, m + 1 => ffo f (f a i) (i + 1) m
theorem lg_lt0 (x y : Int64) : lg_cmp x y < 0 ↔ x < y := by
  unfold lg_cmp
  by_cases h1 : x > y
  · rw [if_pos h1]
    exact ⟨fun z => absurd z (by decide), fun z => (Int64.lt_irrefl (Int64.lt_trans h1 z)).elim⟩
  · rw [if_neg h1]
    by_cases h2 : x = y
    · rw [if_pos h2]
      exact ⟨fun z => absurd z (by decide), fun z => (Int64.lt_irrefl (h2 ▸ z)).elim⟩
    · rw [if_neg h2]
      refine ⟨fun _ => ?_, fun _ => by decide⟩
      have e1 : ¬ y.toInt < x.toInt := fun z => h1 (Int64.lt_iff_toInt_lt.mpr z)
      have e2 : ¬ x.toInt = y.toInt := fun z => h2 (Int64.toInt_inj.mp z)
      exact Int64.lt_iff_toInt_lt.mpr (by omega)
theorem lg_le0 (x y : Int64) : lg_cmp x y ≤ 0 ↔ ¬ y < x := by
  unfold lg_cmp
  by_cases h1 : x > y
  · rw [if_pos h1]
    exact ⟨fun z => absurd z (by decide), fun z => absurd h1 z⟩
  · rw [if_neg h1]
    by_cases h2 : x = y
    · rw [if_pos h2]
      exact ⟨fun _ => h1, fun _ => by decide⟩
    · rw [if_neg h2]
      exact ⟨fun _ => h1, fun _ => by decide⟩
/-- the notes' cells -/
def is_nt (V : rx_V) (h : List va_E) (a ar num : Nat) (f : Nat → Option Nat) (na : Nat → Nat) (NS : Nat → Nat → Int32) : Prop :=
  rx_rd V h a = some (.inr (2, [.ref ar, .int (nI num)])) ∧ rx_rd V h ar = some (.inl (V.2.2.2.1 4, 40, .inr (.inr (.inr (.inr f))))) ∧ (∀ i, i < num → f i = some (na i)) ∧ (∀ i, i < num → rx_rd V h (na i) = some (ncl (NS i))) ∧ num ≤ 40
section NT
variable {V : rx_V} {d kc ks a n al at_ av aN ar num q : Nat} {h : List va_E} {Le Te Va N : Nat → Int32} {f : Nat → Option Nat} {na : Nat → Nat} {NS : Nat → Nat → Int32}
theorem c_isFull (hN : is_nt V h aN ar num f na NS) : rx_C V d kc ks m_Notes_isFull [.ref aN] h (rx_X (.inl (some (.int (if num = 40 then 1 else 0)))) h) := by
  have h40 : num ≤ 40 := hN.2.2.2.2
  refine rx_aload_nr d_Notes_isFull_0 (by rfl) ?_
  refine rx_getfield d_Notes_isFull_1 fl_Notes_17 hN.1 (by rfl) ?_
  refine rx_aload_nr d_Notes_isFull_4 (by rfl) ?_
  refine rx_getfield d_Notes_isFull_5 fl_Notes_11 hN.1 (by rfl) ?_
  refine rx_alen d_Notes_isFull_8 (by rfl) hN.2.1 ?_
  refine rx_icmp_lt (tgt := 16) d_Notes_isFull_9 (by rfl) (fun c9 => ?_) (fun c9 => ?_)
  · have z : num < 40 := by rw [i_lt, i_n (by omega), show Int32.ofNat 40 = nI 40 from rfl, i_n (by omega)] at c9; omega
    refine rx_iconst (v := 0) d_Notes_isFull_16 (by decide) ?_
    refine rx_zreturn d_Notes_isFull_17 (by rfl) (by rfl) ?_
    exact ⟨by first | (rw [if_neg (by omega)]; done) | (rw [if_pos (by omega)]; done), rfl⟩
  · have z : ¬ num < 40 := by rw [i_lt, i_n (by omega), show Int32.ofNat 40 = nI 40 from rfl, i_n (by omega)] at c9; omega
    refine rx_iconst (v := 1) d_Notes_isFull_12 (by decide) ?_
    refine rx_goto (tgt := 17) d_Notes_isFull_13 (by rfl) ?_
    refine rx_zreturn d_Notes_isFull_17 (by rfl) (by rfl) ?_
    exact ⟨by first | (rw [if_neg (by omega)]; done) | (rw [if_pos (by omega)]; done), rfl⟩
theorem l_isRest (hN : is_nt V h aN ar num f na NS) (p b : Int32) : ∀ (m i : Nat), i + m = num → rx_W V (d + 1) kc ks m_Notes_isRest 2 [some (.ref aN), some (.int p), some (.int b), some (.int (nI i))] [] h (rx_X (.inl (some (.int (if (fix (fun i => decide (NS i 0 = p ∧ NS i 1 = b)) i m).isSome then 0 else 1)))) h) := by
  intro m
  induction m with
  | zero =>
    intro i hi
    have hi9 : i = num := by omega
    have h40 : num ≤ 40 := hN.2.2.2.2
    refine rx_iload_n d_Notes_isRest_2 (by rfl) ?_
    refine rx_aload_nr d_Notes_isRest_3 (by rfl) ?_
    refine rx_getfield d_Notes_isRest_4 fl_Notes_17 hN.1 (by rfl) ?_
    refine rx_icmp_ge (tgt := 32) d_Notes_isRest_7 (by rfl) (fun c7 => ?_) (fun z => absurd (show nI num ≤ nI i by rw [hi9]; exact Int32.le_refl _) z)
    refine rx_iconst (v := 1) d_Notes_isRest_32 (by decide) ?_
    refine rx_zreturn d_Notes_isRest_33 (by rfl) (by rfl) ?_
    exact ⟨rfl, rfl⟩
  | succ m ih =>
    intro i hi
    have hlt : i < num := by omega
    have h40 : num ≤ 40 := hN.2.2.2.2
    have hcl : (nI i).toNatClampNeg = i := i_cl (by omega)
    refine rx_iload_n d_Notes_isRest_2 (by rfl) ?_
    refine rx_aload_nr d_Notes_isRest_3 (by rfl) ?_
    refine rx_getfield d_Notes_isRest_4 fl_Notes_17 hN.1 (by rfl) ?_
    refine rx_icmp_ge (tgt := 32) d_Notes_isRest_7 (by rfl) (fun z => absurd z (nI_ge hlt (by omega))) (fun c7 => ?_)
    refine rx_aload_nr d_Notes_isRest_10 (by rfl) ?_
    refine rx_getfield d_Notes_isRest_11 fl_Notes_11 hN.1 (by rfl) ?_
    refine rx_iload_n d_Notes_isRest_14 (by rfl) ?_
    refine rx_aaload d_Notes_isRest_15 (by rfl) hN.2.1 (vp_in_nI (by omega) (by omega)) ?_
    rw [hcl, hN.2.2.1 i hlt]
    refine rx_iload_n d_Notes_isRest_16 (by rfl) ?_
    refine rx_iload_n d_Notes_isRest_17 (by rfl) ?_
    refine rx_cV d_Notes_isRest_18 (by rfl) ml_Notes_33 im_Note_isIn se_Note_isIn (by exact c9_Note_isIn) (hN.2.2.2.1 i hlt) (by rfl) (by exact Nat.le_of_ble_eq_true rfl) (c_isIn (hN.2.2.2.1 i hlt) p b) ?_
    refine rx_if_eq (tgt := 26) d_Notes_isRest_21 (by rfl) (fun c21 => ?_) (fun c21 => ?_)
    · have hf : (fun i => decide (NS i 0 = p ∧ NS i 1 = b)) i = false := decide_eq_false (ite10.mp c21)
      refine rx_iinc (v := nI (i + 1)) d_Notes_isRest_26 (by rfl) (i_inc i) ?_
      refine rx_goto (tgt := 2) d_Notes_isRest_29 (by rfl) ?_
      rw [fix_no hf]
      exact ih (i + 1) (by omega)
    · have ht : (fun i => decide (NS i 0 = p ∧ NS i 1 = b)) i = true := decide_eq_true (ite11.mp c21)
      refine rx_iconst (v := 0) d_Notes_isRest_24 (by decide) ?_
      refine rx_zreturn d_Notes_isRest_25 (by rfl) (by rfl) ?_
      exact ⟨by rw [fix_yes ht]; rfl, rfl⟩
theorem c_isRest (hN : is_nt V h aN ar num f na NS) (p b : Int32) : rx_C V (d + 1) kc ks m_Notes_isRest [.ref aN, .int p, .int b] h (rx_X (.inl (some (.int (if (fix (fun i => decide (NS i 0 = p ∧ NS i 1 = b)) 0 num).isSome then 0 else 1)))) h) := by
  refine rx_iconst (v := 0) d_Notes_isRest_0 (by decide) ?_
  refine rx_istore_n d_Notes_isRest_1 (Nat.le_of_ble_eq_true rfl) ?_
  exact l_isRest hN p b num 0 (by omega)
theorem l_seek (hN : is_nt V h aN ar num f na NS) (p b s t : Int32) : ∀ (m i : Nat) (x : Option Value), i + m = num → rx_W V (d + 1) kc ks m_Notes_seek 3 [some (.ref aN), some (.int p), some (.int b), some (.int s), some (.int t), some (.int (nI i)), x] [] h (rx_X (.inl (some (va_rf ((fix (fun i => decide (NS i 0 = p ∧ NS i 1 = b ∧ NS i 2 = s ∧ NS i 4 = t)) i m).map na)))) h) := by
  intro m
  induction m with
  | zero =>
    intro i x hi
    have hi9 : i = num := by omega
    have h40 : num ≤ 40 := hN.2.2.2.2
    refine rx_iload d_Notes_seek_3 (by rfl) ?_
    refine rx_aload_nr d_Notes_seek_5 (by rfl) ?_
    refine rx_getfield d_Notes_seek_6 fl_Notes_17 hN.1 (by rfl) ?_
    refine rx_icmp_ge (tgt := 59) d_Notes_seek_9 (by rfl) (fun c9 => ?_) (fun z => absurd (show nI num ≤ nI i by rw [hi9]; exact Int32.le_refl _) z)
    refine rx_null d_Notes_seek_59 ?_
    refine rx_areturn_N d_Notes_seek_60 (by rfl) ?_
    exact ⟨rfl, rfl⟩
  | succ m ih =>
    intro i x hi
    have hlt : i < num := by omega
    have h40 : num ≤ 40 := hN.2.2.2.2
    have hcl : (nI i).toNatClampNeg = i := i_cl (by omega)
    refine rx_iload d_Notes_seek_3 (by rfl) ?_
    refine rx_aload_nr d_Notes_seek_5 (by rfl) ?_
    refine rx_getfield d_Notes_seek_6 fl_Notes_17 hN.1 (by rfl) ?_
    refine rx_icmp_ge (tgt := 59) d_Notes_seek_9 (by rfl) (fun z => absurd z (nI_ge hlt (by omega))) (fun c9 => ?_)
    refine rx_aload_nr d_Notes_seek_12 (by rfl) ?_
    refine rx_getfield d_Notes_seek_13 fl_Notes_11 hN.1 (by rfl) ?_
    refine rx_iload d_Notes_seek_16 (by rfl) ?_
    refine rx_aaload d_Notes_seek_18 (by rfl) hN.2.1 (vp_in_nI (by omega) (by omega)) ?_
    rw [hcl, hN.2.2.1 i hlt]
    refine rx_astore_r d_Notes_seek_19 (Nat.le_of_ble_eq_true rfl) ?_
    refine rx_aload_r d_Notes_seek_21 (by rfl) ?_
    refine rx_iload_n d_Notes_seek_23 (by rfl) ?_
    refine rx_iload_n d_Notes_seek_24 (by rfl) ?_
    refine rx_cV d_Notes_seek_25 (by rfl) ml_Notes_33 im_Note_isIn se_Note_isIn (by exact c9_Note_isIn) (hN.2.2.2.1 i hlt) (by rfl) (by exact Nat.le_of_ble_eq_true rfl) (c_isIn (hN.2.2.2.1 i hlt) p b) ?_
    refine rx_if_eq (tgt := 53) d_Notes_seek_28 (by rfl) (fun c28 => ?_) (fun c28 => ?_)
    · have hf : (fun i => decide (NS i 0 = p ∧ NS i 1 = b ∧ NS i 2 = s ∧ NS i 4 = t)) i = false := decide_eq_false (fun z => ite10.mp c28 ⟨z.1, z.2.1⟩)
      refine rx_iinc (v := nI (i + 1)) d_Notes_seek_53 (by rfl) (i_inc i) ?_
      refine rx_goto (tgt := 3) d_Notes_seek_56 (by rfl) ?_
      rw [fix_no hf]
      exact ih (i + 1) (some (.ref (na i))) (by omega)
    · refine rx_aload_r d_Notes_seek_31 (by rfl) ?_
      refine rx_getfield d_Notes_seek_33 fl_Notes_37 (hN.2.2.2.1 i hlt) (by rfl) ?_
      refine rx_iload_n d_Notes_seek_36 (by rfl) ?_
      refine rx_icmp_ne (tgt := 53) d_Notes_seek_37 (by rfl) (fun c37 => ?_) (fun c37 => ?_)
      · have hf : (fun i => decide (NS i 0 = p ∧ NS i 1 = b ∧ NS i 2 = s ∧ NS i 4 = t)) i = false := decide_eq_false (fun z => c37 z.2.2.1)
        refine rx_iinc (v := nI (i + 1)) d_Notes_seek_53 (by rfl) (i_inc i) ?_
        refine rx_goto (tgt := 3) d_Notes_seek_56 (by rfl) ?_
        rw [fix_no hf]
        exact ih (i + 1) (some (.ref (na i))) (by omega)
      · refine rx_aload_r d_Notes_seek_40 (by rfl) ?_
        refine rx_getfield d_Notes_seek_42 fl_Notes_40 (hN.2.2.2.1 i hlt) (by rfl) ?_
        refine rx_iload d_Notes_seek_45 (by rfl) ?_
        refine rx_icmp_ne (tgt := 53) d_Notes_seek_47 (by rfl) (fun c47 => ?_) (fun c47 => ?_)
        · have hf : (fun i => decide (NS i 0 = p ∧ NS i 1 = b ∧ NS i 2 = s ∧ NS i 4 = t)) i = false := decide_eq_false (fun z => c47 z.2.2.2)
          refine rx_iinc (v := nI (i + 1)) d_Notes_seek_53 (by rfl) (i_inc i) ?_
          refine rx_goto (tgt := 3) d_Notes_seek_56 (by rfl) ?_
          rw [fix_no hf]
          exact ih (i + 1) (some (.ref (na i))) (by omega)
        · have ht : (fun i => decide (NS i 0 = p ∧ NS i 1 = b ∧ NS i 2 = s ∧ NS i 4 = t)) i = true := decide_eq_true ⟨(ite11.mp c28).1, (ite11.mp c28).2, c37, c47⟩
          refine rx_aload_r d_Notes_seek_50 (by rfl) ?_
          refine rx_areturn_r d_Notes_seek_52 (by rfl) ?_
          exact ⟨by rw [fix_yes ht]; rfl, rfl⟩
end NT
end
section
/-! ScoreRoads' small statics; Notes: more reads -/
theorem i_nle' {x y : Int32} (h : ¬ x < y) : y ≤ x := by rw [i_lt] at h; rw [i_le]; omega
def iwn (x lo hi : Int32) : Int32 := if lo ≤ x ∧ x ≤ hi then 1 else 0
section N2
variable {V : rx_V} {d kc ks a n al at_ av aN ar num q l1 l2 : Nat} {h : List va_E} {Le Te Va N fl fm : Nat → Int32} {f : Nat → Option Nat} {na : Nat → Nat} {NS : Nat → Nat → Int32}
theorem c_isWithin (x lo hi : Int32) : rx_C V d kc ks m_SR_isWithin [.int x, .int lo, .int hi] h (rx_X (.inl (some (.int (iwn x lo hi)))) h) := by
  refine rx_iload_n d_SR_isWithin_0 (by rfl) ?_
  refine rx_iload_n d_SR_isWithin_1 (by rfl) ?_
  refine rx_icmp_lt (tgt := 14) d_SR_isWithin_2 (by rfl) (fun c2 => ?_) (fun c2 => ?_)
  · have z : iwn x lo hi = 0 := if_neg (fun w => i_nlt w.1 c2)
    refine rx_iconst (v := 0) d_SR_isWithin_14 (by decide) ?_
    refine rx_zreturn d_SR_isWithin_15 (by rfl) (by rfl) ?_
    exact ⟨by rw [z], rfl⟩
  · refine rx_iload_n d_SR_isWithin_5 (by rfl) ?_
    refine rx_iload_n d_SR_isWithin_6 (by rfl) ?_
    refine rx_icmp_gt (tgt := 14) d_SR_isWithin_7 (by rfl) (fun c7 => ?_) (fun c7 => ?_)
    · have z : iwn x lo hi = 0 := if_neg (fun w => i_nlt w.2 c7)
      refine rx_iconst (v := 0) d_SR_isWithin_14 (by decide) ?_
      refine rx_zreturn d_SR_isWithin_15 (by rfl) (by rfl) ?_
      exact ⟨by rw [z], rfl⟩
    · have z : iwn x lo hi = 1 := if_pos ⟨i_nle' c2, i_nle' c7⟩
      refine rx_iconst (v := 1) d_SR_isWithin_10 (by decide) ?_
      refine rx_goto (tgt := 15) d_SR_isWithin_11 (by rfl) ?_
      refine rx_zreturn d_SR_isWithin_15 (by rfl) (by rfl) ?_
      exact ⟨by rw [z], rfl⟩
theorem c_isKind (x : Int32) : rx_C V (d + 1) kc ks m_SR_isKind [.int x] h (rx_X (.inl (some (.int (iwn x 0 9)))) h) := by
  have hz : narrow .boolean (.int (iwn x 0 9)) = .int (iwn x 0 9) := by
    unfold iwn
    by_cases z : (0 : Int32) ≤ x ∧ x ≤ 9
    · rw [if_pos z]; rfl
    · rw [if_neg z]; rfl
  refine rx_iload_n d_SR_isKind_0 (by rfl) ?_
  refine rx_iconst (v := 0) d_SR_isKind_1 (by decide) ?_
  refine rx_bipush (v := 9) d_SR_isKind_2 (by decide) ?_
  refine rx_cS d_SR_isKind_4 ml_SR_50 st_SR_isWithin (by exact c9_SR_isWithin) (by rfl) (by exact Nat.le_of_ble_eq_true rfl) (c_isWithin x 0 9) ?_
  refine rx_zreturn d_SR_isKind_7 (by rfl) hz ?_
  exact ⟨rfl, rfl⟩
theorem iwn_in {x : Int32} (h : ¬ iwn x 0 9 = 0) : vp_in x 10 := by
  unfold iwn at h
  by_cases z : (0 : Int32) ≤ x ∧ x ≤ 9
  · rw [i_le, i_0, i_le, show (9 : Int32).toInt = 9 from by decide] at z
    exact vp_in_iff.mpr ⟨by omega, by omega⟩
  · rw [if_neg z] at h; exact absurd rfl h
theorem c_isValue (h1 : V.2.2.2.2[1]? = some (l1, 10, fl)) (h2 : V.2.2.2.2[2]? = some (l2, 10, fm)) (k v : Int32) : rx_C V (d + 2) kc ks m_SR_isValue [.int k, .int v] h (rx_X (.inl (some (.int (if v = 0 ∨ (¬ iwn k 0 9 = 0 ∧ ¬ iwn v (fl k.toNatClampNeg) (fm k.toNatClampNeg) = 0) then 1 else 0)))) h) := by
  refine rx_iload_n d_SR_isValue_0 (by rfl) ?_
  refine rx_if_eq (tgt := 28) d_SR_isValue_1 (by rfl) (fun c1 => ?_) (fun c1 => ?_)
  · refine rx_iconst (v := 1) d_SR_isValue_28 (by decide) ?_
    refine rx_goto (tgt := 33) d_SR_isValue_29 (by rfl) ?_
    refine rx_zreturn d_SR_isValue_33 (by rfl) (by rfl) ?_
    exact ⟨by simp_all, rfl⟩
  · refine rx_iload_n d_SR_isValue_4 (by rfl) ?_
    refine rx_cS d_SR_isValue_5 ml_SR_77 st_SR_isKind (by exact c9_SR_isKind) (by rfl) (by exact Nat.le_of_ble_eq_true rfl) (c_isKind k) ?_
    refine rx_if_eq (tgt := 32) d_SR_isValue_8 (by rfl) (fun c8 => ?_) (fun c8 => ?_)
    · refine rx_iconst (v := 0) d_SR_isValue_32 (by decide) ?_
      refine rx_zreturn d_SR_isValue_33 (by rfl) (by rfl) ?_
      exact ⟨by simp_all, rfl⟩
    · refine rx_iload_n d_SR_isValue_11 (by rfl) ?_
      refine rx_least d_SR_isValue_12 h1 (rx_in 501 (by decide +kernel) (by decide +kernel)) ?_
      refine rx_iload_n d_SR_isValue_15 (by rfl) ?_
      refine rx_ialoadX d_SR_isValue_16 (List.mem_of_getElem? h1) (iwn_in c8) ?_
      refine rx_most d_SR_isValue_17 h2 (rx_in 503 (by decide +kernel) (by decide +kernel)) ?_
      refine rx_iload_n d_SR_isValue_20 (by rfl) ?_
      refine rx_ialoadX d_SR_isValue_21 (List.mem_of_getElem? h2) (iwn_in c8) ?_
      refine rx_cS d_SR_isValue_22 ml_SR_50 st_SR_isWithin (by exact c9_SR_isWithin) (by rfl) (by exact Nat.le_of_ble_eq_true rfl) (c_isWithin v (fl k.toNatClampNeg) (fm k.toNatClampNeg)) ?_
      refine rx_if_eq (tgt := 32) d_SR_isValue_25 (by rfl) (fun c25 => ?_) (fun c25 => ?_)
      · refine rx_iconst (v := 0) d_SR_isValue_32 (by decide) ?_
        refine rx_zreturn d_SR_isValue_33 (by rfl) (by rfl) ?_
        exact ⟨by simp_all, rfl⟩
      · refine rx_iconst (v := 1) d_SR_isValue_28 (by decide) ?_
        refine rx_goto (tgt := 33) d_SR_isValue_29 (by rfl) ?_
        refine rx_zreturn d_SR_isValue_33 (by rfl) (by rfl) ?_
        exact ⟨by simp_all, rfl⟩
theorem c_needPart {p : Int32} (hp : ¬ iwn p 0 2 = 0) : rx_C V (d + 1) kc ks m_SR_needPart [.int p] h (rx_X (.inl none) h) := by
  refine rx_iload_n d_SR_needPart_0 (by rfl) ?_
  refine rx_iconst (v := 0) d_SR_needPart_1 (by decide) ?_
  refine rx_iconst (v := 2) d_SR_needPart_2 (by decide) ?_
  refine rx_cS d_SR_needPart_3 ml_SR_50 st_SR_isWithin (by exact c9_SR_isWithin) (by rfl) (by exact Nat.le_of_ble_eq_true rfl) (c_isWithin p 0 2) ?_
  refine rx_if_ne (tgt := 19) d_SR_needPart_6 (by rfl) (fun c6 => ?_) (fun z => absurd z hp)
  refine rx_vreturn d_SR_needPart_19 (by rfl) ?_
  exact ⟨rfl, rfl⟩
theorem x_needPart (htr : V.1.stackTraces = false) {p : Int32} (hp : iwn p 0 2 = 0) : rx_C V (d + 6) 1 6 m_SR_needPart [.int p] h (rx_X (.inr 0) (h ++ [.inr (9 + 0, [])])) := by
  refine rx_iload_n d_SR_needPart_0 (by rfl) ?_
  refine rx_iconst (v := 0) d_SR_needPart_1 (by decide) ?_
  refine rx_iconst (v := 2) d_SR_needPart_2 (by decide) ?_
  refine rx_cS d_SR_needPart_3 ml_SR_50 st_SR_isWithin (by exact c9_SR_isWithin) (by rfl) (by exact Nat.le_of_ble_eq_true rfl) (c_isWithin p 0 2) ?_
  refine rx_if_ne (tgt := 19) d_SR_needPart_6 (by rfl) (fun z => absurd hp z) (fun c6 => ?_)
  exact rx_throw (E := 0) htr (by rfl) (by rfl) (by decide) d_SR_needPart_9 d_SR_needPart_12 d_SR_needPart_13 d_SR_needPart_15 d_SR_needPart_18 ck_SR_54 (text := "no such part") (by decide +kernel) (Nat.le_of_ble_eq_true rfl) ⟨rfl, rfl⟩
theorem c_needPlayed {i m : Int32} (hp : ¬ iwn i 0 m = 0) : rx_C V (d + 1) kc ks m_SR_needPlayed [.int i, .int m] h (rx_X (.inl none) h) := by
  refine rx_iload_n d_SR_needPlayed_0 (by rfl) ?_
  refine rx_iconst (v := 0) d_SR_needPlayed_1 (by decide) ?_
  refine rx_iload_n d_SR_needPlayed_2 (by rfl) ?_
  refine rx_cS d_SR_needPlayed_3 ml_SR_50 st_SR_isWithin (by exact c9_SR_isWithin) (by rfl) (by exact Nat.le_of_ble_eq_true rfl) (c_isWithin i 0 m) ?_
  refine rx_if_ne (tgt := 19) d_SR_needPlayed_6 (by rfl) (fun c6 => ?_) (fun z => absurd z hp)
  refine rx_vreturn d_SR_needPlayed_19 (by rfl) ?_
  exact ⟨rfl, rfl⟩
theorem x_needPlayed (htr : V.1.stackTraces = false) {i m : Int32} (hp : iwn i 0 m = 0) : rx_C V (d + 6) 1 6 m_SR_needPlayed [.int i, .int m] h (rx_X (.inr 2) (h ++ [.inr (9 + 2, [])])) := by
  refine rx_iload_n d_SR_needPlayed_0 (by rfl) ?_
  refine rx_iconst (v := 0) d_SR_needPlayed_1 (by decide) ?_
  refine rx_iload_n d_SR_needPlayed_2 (by rfl) ?_
  refine rx_cS d_SR_needPlayed_3 ml_SR_50 st_SR_isWithin (by exact c9_SR_isWithin) (by rfl) (by exact Nat.le_of_ble_eq_true rfl) (c_isWithin i 0 m) ?_
  refine rx_if_ne (tgt := 19) d_SR_needPlayed_6 (by rfl) (fun z => absurd hp z) (fun c6 => ?_)
  exact rx_throw (E := 2) htr (by rfl) (by rfl) (by decide) d_SR_needPlayed_9 d_SR_needPlayed_12 d_SR_needPlayed_13 d_SR_needPlayed_15 d_SR_needPlayed_18 ck_SR_221 (text := "not so many bars are played") (by decide +kernel) (Nat.le_of_ble_eq_true rfl) ⟨rfl, rfl⟩
theorem c_seek (hN : is_nt V h aN ar num f na NS) (p b s t : Int32) : rx_C V (d + 1) kc ks m_Notes_seek [.ref aN, .int p, .int b, .int s, .int t] h (rx_X (.inl (some (va_rf ((fix (fun i => decide (NS i 0 = p ∧ NS i 1 = b ∧ NS i 2 = s ∧ NS i 4 = t)) 0 num).map na)))) h) := by
  refine rx_iconst (v := 0) d_Notes_seek_0 (by decide) ?_
  refine rx_istore d_Notes_seek_1 (Nat.le_of_ble_eq_true rfl) ?_
  exact l_seek hN p b s t num 0 none (by omega)
theorem c_get (hN : is_nt V h aN ar num f na NS) {i : Nat} (hi : i < num) : rx_C V (d + 1) kc ks m_Notes_get [.ref aN, .int (nI i)] h (rx_X (.inl (some (.ref (na i)))) h) := by
  have h40 : num ≤ 40 := hN.2.2.2.2
  have hm : nI num - 1 = nI (num - 1) := by
    cases num with
    | zero => omega
    | succ j => exact nI_pred j
  have hw : ¬ iwn (nI i) 0 (nI num - 1) = 0 := by
    rw [hm]; unfold iwn
    rw [if_pos ⟨nI_pos' (by omega), nI_le (by omega) (by omega)⟩]; decide
  refine rx_iload_n d_Notes_get_0 (by rfl) ?_
  refine rx_iconst (v := 0) d_Notes_get_1 (by decide) ?_
  refine rx_aload_nr d_Notes_get_2 (by rfl) ?_
  refine rx_getfield d_Notes_get_3 fl_Notes_17 hN.1 (by rfl) ?_
  refine rx_iconst (v := 1) d_Notes_get_6 (by decide) ?_
  refine rx_isub d_Notes_get_7 ?_
  refine rx_cSN d_Notes_get_8 ml_Notes_29 st_SR_isWithin (by exact c9_SR_isWithin) (by rfl) (by exact Nat.le_of_ble_eq_true rfl) (c_isWithin (nI i) 0 (nI num - 1)) ?_
  refine rx_if_eq (tgt := 23) d_Notes_get_11 (by rfl) (fun z => absurd z (fun z => hw z)) (fun c11 => ?_)
  refine rx_aload_nr d_Notes_get_14 (by rfl) ?_
  refine rx_getfield d_Notes_get_15 fl_Notes_11 hN.1 (by rfl) ?_
  refine rx_iload_n d_Notes_get_18 (by rfl) ?_
  refine rx_aaload d_Notes_get_19 (by rfl) hN.2.1 (vp_in_nI (by omega) (by omega)) ?_
  rw [i_cl (by omega), hN.2.2.1 i hi]
  refine rx_goto (tgt := 24) d_Notes_get_20 (by rfl) ?_
  refine rx_areturn_r d_Notes_get_24 (by rfl) ?_
  exact ⟨rfl, rfl⟩
theorem l_endIn (hN : is_nt V h aN ar num f na NS) (b : Int32) : ∀ (m i : Nat) (e : Int32), i + m = num → rx_W V (d + 1) kc ks m_Notes_endIn 4 [some (.ref aN), some (.int b), some (.int e), some (.int (nI i))] [] h (rx_X (.inl (some (.int (ffo (fun (e : Int32) i => if NS i 1 = b then (if e < NS i 2 + NS i 3 then NS i 2 + NS i 3 else e) else e) e i m)))) h) := by
  intro m
  induction m with
  | zero =>
    intro i e hi
    have hi9 : i = num := by omega
    have h40 : num ≤ 40 := hN.2.2.2.2
    refine rx_iload_n d_Notes_endIn_4 (by rfl) ?_
    refine rx_aload_nr d_Notes_endIn_5 (by rfl) ?_
    refine rx_getfield d_Notes_endIn_6 fl_Notes_17 hN.1 (by rfl) ?_
    refine rx_icmp_ge (tgt := 45) d_Notes_endIn_9 (by rfl) (fun c9 => ?_) (fun z => absurd (show nI num ≤ nI i by rw [hi9]; exact Int32.le_refl _) z)
    refine rx_iload_n d_Notes_endIn_45 (by rfl) ?_
    refine rx_ireturn d_Notes_endIn_46 (by rfl) ?_
    exact ⟨rfl, rfl⟩
  | succ m ih =>
    intro i e hi
    have hlt : i < num := by omega
    have h40 : num ≤ 40 := hN.2.2.2.2
    have hcl : (nI i).toNatClampNeg = i := i_cl (by omega)
    refine rx_iload_n d_Notes_endIn_4 (by rfl) ?_
    refine rx_aload_nr d_Notes_endIn_5 (by rfl) ?_
    refine rx_getfield d_Notes_endIn_6 fl_Notes_17 hN.1 (by rfl) ?_
    refine rx_icmp_ge (tgt := 45) d_Notes_endIn_9 (by rfl) (fun z => absurd z (nI_ge hlt (by omega))) (fun c9 => ?_)
    refine rx_aload_nr d_Notes_endIn_12 (by rfl) ?_
    refine rx_getfield d_Notes_endIn_13 fl_Notes_11 hN.1 (by rfl) ?_
    refine rx_iload_n d_Notes_endIn_16 (by rfl) ?_
    refine rx_aaload d_Notes_endIn_17 (by rfl) hN.2.1 (vp_in_nI (by omega) (by omega)) ?_
    rw [hcl, hN.2.2.1 i hlt]
    refine rx_getfield d_Notes_endIn_18 fl_Notes_43 (hN.2.2.2.1 i hlt) (by rfl) ?_
    refine rx_iload_n d_Notes_endIn_21 (by rfl) ?_
    refine rx_icmp_ne (tgt := 39) d_Notes_endIn_22 (by rfl) (fun c22 => ?_) (fun c22 => ?_)
    · have hst : (fun (e : Int32) i => if NS i 1 = b then (if e < NS i 2 + NS i 3 then NS i 2 + NS i 3 else e) else e) e i = e := if_neg c22
      refine rx_iinc (v := nI (i + 1)) d_Notes_endIn_39 (by rfl) (i_inc i) ?_
      refine rx_goto (tgt := 4) d_Notes_endIn_42 (by rfl) ?_
      have z := ih (i + 1) ((fun (e : Int32) i => if NS i 1 = b then (if e < NS i 2 + NS i 3 then NS i 2 + NS i 3 else e) else e) e i) (by omega)
      rw [hst] at z
      show rx_W V (d + 1) kc ks m_Notes_endIn 4 _ [] h (rx_X (.inl (some (.int (ffo (fun (e : Int32) i => if NS i 1 = b then (if e < NS i 2 + NS i 3 then NS i 2 + NS i 3 else e) else e) ((fun (e : Int32) i => if NS i 1 = b then (if e < NS i 2 + NS i 3 then NS i 2 + NS i 3 else e) else e) e i) (i + 1) m)))) h)
      rw [hst]
      exact z
    · have hst : (fun (e : Int32) i => if NS i 1 = b then (if e < NS i 2 + NS i 3 then NS i 2 + NS i 3 else e) else e) e i = (if e < NS i 2 + NS i 3 then NS i 2 + NS i 3 else e) := if_pos c22
      refine rx_iload_n d_Notes_endIn_25 (by rfl) ?_
      refine rx_aload_nr d_Notes_endIn_26 (by rfl) ?_
      refine rx_getfield d_Notes_endIn_27 fl_Notes_11 hN.1 (by rfl) ?_
      refine rx_iload_n d_Notes_endIn_30 (by rfl) ?_
      refine rx_aaload d_Notes_endIn_31 (by rfl) hN.2.1 (vp_in_nI (by omega) (by omega)) ?_
      rw [hcl, hN.2.2.1 i hlt]
      refine rx_cV d_Notes_endIn_32 (by rfl) ml_Notes_46 im_Note_end se_Note_end (by exact c9_Note_end) (hN.2.2.2.1 i hlt) (by rfl) (by exact Nat.le_of_ble_eq_true rfl) (c_end (hN.2.2.2.1 i hlt)) ?_
      refine rx_max d_Notes_endIn_35 ml_Notes_50 (Nat.le_of_ble_eq_true rfl) ?_
      refine rx_istore_n d_Notes_endIn_38 (Nat.le_of_ble_eq_true rfl) ?_
      refine rx_iinc (v := nI (i + 1)) d_Notes_endIn_39 (by rfl) (i_inc i) ?_
      refine rx_goto (tgt := 4) d_Notes_endIn_42 (by rfl) ?_
      have z := ih (i + 1) ((fun (e : Int32) i => if NS i 1 = b then (if e < NS i 2 + NS i 3 then NS i 2 + NS i 3 else e) else e) e i) (by omega)
      rw [hst] at z
      show rx_W V (d + 1) kc ks m_Notes_endIn 4 _ [] h (rx_X (.inl (some (.int (ffo (fun (e : Int32) i => if NS i 1 = b then (if e < NS i 2 + NS i 3 then NS i 2 + NS i 3 else e) else e) ((fun (e : Int32) i => if NS i 1 = b then (if e < NS i 2 + NS i 3 then NS i 2 + NS i 3 else e) else e) e i) (i + 1) m)))) h)
      rw [hst]
      exact z
theorem c_endIn (hN : is_nt V h aN ar num f na NS) (b : Int32) : rx_C V (d + 1) kc ks m_Notes_endIn [.ref aN, .int b] h (rx_X (.inl (some (.int (ffo (fun (e : Int32) i => if NS i 1 = b then (if e < NS i 2 + NS i 3 then NS i 2 + NS i 3 else e) else e) 0 0 num)))) h) := by
  refine rx_iconst (v := 0) d_Notes_endIn_0 (by decide) ?_
  refine rx_istore_n d_Notes_endIn_1 (Nat.le_of_ble_eq_true rfl) ?_
  refine rx_iconst (v := 0) d_Notes_endIn_2 (by decide) ?_
  refine rx_istore_n d_Notes_endIn_3 (Nat.le_of_ble_eq_true rfl) ?_
  exact l_endIn hN b num 0 0 (by omega)
theorem l_canShift (hN : is_nt V h aN ar num f na NS) (p st : Int32) : ∀ (m i : Nat) (x : Option Value) (y : Option Value), i + m = num → rx_W V (d + 1) kc ks m_Notes_canShift 2 [some (.ref aN), some (.int p), some (.int st), some (.int (nI i)), x, y] [] h (rx_X (.inl (some (.int (if (fix (fun i => decide (NS i 0 = p ∧ (((NS i 4).toInt64 + st.toInt64) < 0 ∨ 127 < ((NS i 4).toInt64 + st.toInt64)))) i m).isSome then 0 else 1)))) h) := by
  intro m
  induction m with
  | zero =>
    intro i x y hi
    have hi9 : i = num := by omega
    have h40 : num ≤ 40 := hN.2.2.2.2
    refine rx_iload_n d_Notes_canShift_2 (by rfl) ?_
    refine rx_aload_nr d_Notes_canShift_3 (by rfl) ?_
    refine rx_getfield d_Notes_canShift_4 fl_Notes_17 hN.1 (by rfl) ?_
    refine rx_icmp_ge (tgt := 62) d_Notes_canShift_7 (by rfl) (fun c7 => ?_) (fun z => absurd (show nI num ≤ nI i by rw [hi9]; exact Int32.le_refl _) z)
    refine rx_iconst (v := 1) d_Notes_canShift_62 (by decide) ?_
    refine rx_zreturn d_Notes_canShift_63 (by rfl) (by rfl) ?_
    exact ⟨rfl, rfl⟩
  | succ m ih =>
    intro i x y hi
    have hlt : i < num := by omega
    have h40 : num ≤ 40 := hN.2.2.2.2
    have hcl : (nI i).toNatClampNeg = i := i_cl (by omega)
    refine rx_iload_n d_Notes_canShift_2 (by rfl) ?_
    refine rx_aload_nr d_Notes_canShift_3 (by rfl) ?_
    refine rx_getfield d_Notes_canShift_4 fl_Notes_17 hN.1 (by rfl) ?_
    refine rx_icmp_ge (tgt := 62) d_Notes_canShift_7 (by rfl) (fun z => absurd z (nI_ge hlt (by omega))) (fun c7 => ?_)
    refine rx_aload_nr d_Notes_canShift_10 (by rfl) ?_
    refine rx_getfield d_Notes_canShift_11 fl_Notes_11 hN.1 (by rfl) ?_
    refine rx_iload_n d_Notes_canShift_14 (by rfl) ?_
    refine rx_aaload d_Notes_canShift_15 (by rfl) hN.2.1 (vp_in_nI (by omega) (by omega)) ?_
    rw [hcl, hN.2.2.1 i hlt]
    refine rx_getfield d_Notes_canShift_16 fl_Notes_56 (hN.2.2.2.1 i hlt) (by rfl) ?_
    refine rx_iload_n d_Notes_canShift_19 (by rfl) ?_
    refine rx_icmp_ne (tgt := 56) d_Notes_canShift_20 (by rfl) (fun c20 => ?_) (fun c20 => ?_)
    · have hf : (fun i => decide (NS i 0 = p ∧ (((NS i 4).toInt64 + st.toInt64) < 0 ∨ 127 < ((NS i 4).toInt64 + st.toInt64)))) i = false := decide_eq_false (fun z => c20 z.1)
      refine rx_iinc (v := nI (i + 1)) d_Notes_canShift_56 (by rfl) (i_inc i) ?_
      refine rx_goto (tgt := 2) d_Notes_canShift_59 (by rfl) ?_
      rw [fix_no hf]
      exact ih (i + 1) _ _ (by omega)
    · refine rx_aload_nr d_Notes_canShift_23 (by rfl) ?_
      refine rx_getfield d_Notes_canShift_24 fl_Notes_11 hN.1 (by rfl) ?_
      refine rx_iload_n d_Notes_canShift_27 (by rfl) ?_
      refine rx_aaload d_Notes_canShift_28 (by rfl) hN.2.1 (vp_in_nI (by omega) (by omega)) ?_
      rw [hcl, hN.2.2.1 i hlt]
      refine rx_getfield d_Notes_canShift_29 fl_Notes_40 (hN.2.2.2.1 i hlt) (by rfl) ?_
      refine rx_i2l d_Notes_canShift_32 ?_
      refine rx_iload_n d_Notes_canShift_33 (by rfl) ?_
      refine rx_i2l d_Notes_canShift_34 ?_
      refine rx_ladd d_Notes_canShift_35 ?_
      refine rx_lstore d_Notes_canShift_36 (Nat.le_of_ble_eq_true rfl) ?_
      refine rx_lload d_Notes_canShift_38 (by rfl) ?_
      refine rx_lconst (v := 0) d_Notes_canShift_40 (by decide) ?_
      refine rx_lcmp d_Notes_canShift_41 ?_
      refine rx_if_lt (tgt := 54) d_Notes_canShift_42 (by rfl) (fun c42 => ?_) (fun c42 => ?_)
      · have ht : (fun i => decide (NS i 0 = p ∧ (((NS i 4).toInt64 + st.toInt64) < 0 ∨ 127 < ((NS i 4).toInt64 + st.toInt64)))) i = true := decide_eq_true ⟨c20, Or.inl ((lg_lt0 _ _).mp c42)⟩
        refine rx_iconst (v := 0) d_Notes_canShift_54 (by decide) ?_
        refine rx_zreturn d_Notes_canShift_55 (by rfl) (by rfl) ?_
        exact ⟨by rw [fix_yes ht]; rfl, rfl⟩
      · refine rx_lload d_Notes_canShift_45 (by rfl) ?_
        refine rx_ldc2 d_Notes_canShift_47 kl_Notes_59 ?_
        refine rx_lcmp d_Notes_canShift_50 ?_
        refine rx_if_le (tgt := 56) d_Notes_canShift_51 (by rfl) (fun c51 => ?_) (fun c51 => ?_)
        · have hf : (fun i => decide (NS i 0 = p ∧ (((NS i 4).toInt64 + st.toInt64) < 0 ∨ 127 < ((NS i 4).toInt64 + st.toInt64)))) i = false := decide_eq_false (fun z => z.2.elim (fun w => c42 ((lg_lt0 _ _).mpr w)) (fun w => (lg_le0 _ _).mp c51 w))
          refine rx_iinc (v := nI (i + 1)) d_Notes_canShift_56 (by rfl) (i_inc i) ?_
          refine rx_goto (tgt := 2) d_Notes_canShift_59 (by rfl) ?_
          rw [fix_no hf]
          exact ih (i + 1) _ _ (by omega)
        · have ht : (fun i => decide (NS i 0 = p ∧ (((NS i 4).toInt64 + st.toInt64) < 0 ∨ 127 < ((NS i 4).toInt64 + st.toInt64)))) i = true := decide_eq_true ⟨c20, Or.inr (Decidable.not_not.mp (fun w => c51 ((lg_le0 _ _).mpr w)))⟩
          refine rx_iconst (v := 0) d_Notes_canShift_54 (by decide) ?_
          refine rx_zreturn d_Notes_canShift_55 (by rfl) (by rfl) ?_
          exact ⟨by rw [fix_yes ht]; rfl, rfl⟩
theorem c_canShift (hN : is_nt V h aN ar num f na NS) (p st : Int32) : rx_C V (d + 1) kc ks m_Notes_canShift [.ref aN, .int p, .int st] h (rx_X (.inl (some (.int (if (fix (fun i => decide (NS i 0 = p ∧ (((NS i 4).toInt64 + st.toInt64) < 0 ∨ 127 < ((NS i 4).toInt64 + st.toInt64)))) 0 num).isSome then 0 else 1)))) h) := by
  refine rx_iconst (v := 0) d_Notes_canShift_0 (by decide) ?_
  refine rx_istore_n d_Notes_canShift_1 (Nat.le_of_ble_eq_true rfl) ?_
  exact l_canShift hN p st num 0 _ _ (by omega)
theorem l_isGoingOn (hp : is_pg V h a n al at_ av Le Te Va) (hN : is_nt V h aN ar num f na NS) (hr : rx_rd V h q = some (ncl N)) (b : Int32) : ∀ (m i : Nat) (x : Option Value), i + m = num → rx_W V (d + 3) kc ks m_Notes_isGoingOn 12 [some (.ref aN), some (.ref q), some (.ref a), some (.int b), some (.int (nI i)), x] [] h (rx_X (.inl (some (.int (if (fix (fun i => decide (NS i 0 = N 0 ∧ NS i 1 = b ∧ NS i 4 = N 4 ∧ NS i 5 ≠ 0 ∧ NS i 2 + NS i 3 = pgl n Le (NS i 1))) i m).isSome then 1 else 0)))) h) := by
  intro m
  induction m with
  | zero =>
    intro i x hi
    have hi9 : i = num := by omega
    have h40 : num ≤ 40 := hN.2.2.2.2
    refine rx_iload d_Notes_isGoingOn_12 (by rfl) ?_
    refine rx_aload_nr d_Notes_isGoingOn_14 (by rfl) ?_
    refine rx_getfield d_Notes_isGoingOn_15 fl_Notes_17 hN.1 (by rfl) ?_
    refine rx_icmp_ge (tgt := 72) d_Notes_isGoingOn_18 (by rfl) (fun c18 => ?_) (fun z => absurd (show nI num ≤ nI i by rw [hi9]; exact Int32.le_refl _) z)
    refine rx_iconst (v := 0) d_Notes_isGoingOn_72 (by decide) ?_
    refine rx_zreturn d_Notes_isGoingOn_73 (by rfl) (by rfl) ?_
    exact ⟨rfl, rfl⟩
  | succ m ih =>
    intro i x hi
    have hlt : i < num := by omega
    have h40 : num ≤ 40 := hN.2.2.2.2
    have hcl : (nI i).toNatClampNeg = i := i_cl (by omega)
    refine rx_iload d_Notes_isGoingOn_12 (by rfl) ?_
    refine rx_aload_nr d_Notes_isGoingOn_14 (by rfl) ?_
    refine rx_getfield d_Notes_isGoingOn_15 fl_Notes_17 hN.1 (by rfl) ?_
    refine rx_icmp_ge (tgt := 72) d_Notes_isGoingOn_18 (by rfl) (fun z => absurd z (nI_ge hlt (by omega))) (fun c18 => ?_)
    refine rx_aload_nr d_Notes_isGoingOn_21 (by rfl) ?_
    refine rx_getfield d_Notes_isGoingOn_22 fl_Notes_11 hN.1 (by rfl) ?_
    refine rx_iload d_Notes_isGoingOn_25 (by rfl) ?_
    refine rx_aaload d_Notes_isGoingOn_27 (by rfl) hN.2.1 (vp_in_nI (by omega) (by omega)) ?_
    rw [hcl, hN.2.2.1 i hlt]
    refine rx_astore_r d_Notes_isGoingOn_28 (Nat.le_of_ble_eq_true rfl) ?_
    refine rx_aload_r d_Notes_isGoingOn_30 (by rfl) ?_
    refine rx_aload_nr d_Notes_isGoingOn_32 (by rfl) ?_
    refine rx_getfield d_Notes_isGoingOn_33 fl_Notes_56 hr (by rfl) ?_
    refine rx_iload_n d_Notes_isGoingOn_36 (by rfl) ?_
    refine rx_cV d_Notes_isGoingOn_37 (by rfl) ml_Notes_33 im_Note_isIn se_Note_isIn (by exact c9_Note_isIn) (hN.2.2.2.1 i hlt) (by rfl) (by exact Nat.le_of_ble_eq_true rfl) (c_isIn (hN.2.2.2.1 i hlt) (N 0) b) ?_
    refine rx_if_eq (tgt := 66) d_Notes_isGoingOn_40 (by rfl) (fun c40 => ?_) (fun c40 => ?_)
    · have hf : (fun i => decide (NS i 0 = N 0 ∧ NS i 1 = b ∧ NS i 4 = N 4 ∧ NS i 5 ≠ 0 ∧ NS i 2 + NS i 3 = pgl n Le (NS i 1))) i = false := decide_eq_false (fun z => ite10.mp c40 ⟨z.1, z.2.1⟩)
      refine rx_iinc (v := nI (i + 1)) d_Notes_isGoingOn_66 (by rfl) (i_inc i) ?_
      refine rx_goto (tgt := 12) d_Notes_isGoingOn_69 (by rfl) ?_
      rw [fix_no hf]
      exact ih (i + 1) _ (by omega)
    · refine rx_aload_r d_Notes_isGoingOn_43 (by rfl) ?_
      refine rx_getfield d_Notes_isGoingOn_45 fl_Notes_40 (hN.2.2.2.1 i hlt) (by rfl) ?_
      refine rx_aload_nr d_Notes_isGoingOn_48 (by rfl) ?_
      refine rx_getfield d_Notes_isGoingOn_49 fl_Notes_40 hr (by rfl) ?_
      refine rx_icmp_ne (tgt := 66) d_Notes_isGoingOn_52 (by rfl) (fun c52 => ?_) (fun c52 => ?_)
      · have hf : (fun i => decide (NS i 0 = N 0 ∧ NS i 1 = b ∧ NS i 4 = N 4 ∧ NS i 5 ≠ 0 ∧ NS i 2 + NS i 3 = pgl n Le (NS i 1))) i = false := decide_eq_false (fun z => c52 z.2.2.1)
        refine rx_iinc (v := nI (i + 1)) d_Notes_isGoingOn_66 (by rfl) (i_inc i) ?_
        refine rx_goto (tgt := 12) d_Notes_isGoingOn_69 (by rfl) ?_
        rw [fix_no hf]
        exact ih (i + 1) _ (by omega)
      · refine rx_aload_r d_Notes_isGoingOn_55 (by rfl) ?_
        refine rx_aload_nr d_Notes_isGoingOn_57 (by rfl) ?_
        refine rx_cV d_Notes_isGoingOn_58 (by rfl) ml_Notes_61 im_Note_reachesOver se_Note_reachesOver (by exact c9_Note_reachesOver) (hN.2.2.2.1 i hlt) (by rfl) (by exact Nat.le_of_ble_eq_true rfl) (c_reachesOver hp (hN.2.2.2.1 i hlt)) ?_
        refine rx_if_eq (tgt := 66) d_Notes_isGoingOn_61 (by rfl) (fun c61 => ?_) (fun c61 => ?_)
        · have hf : (fun i => decide (NS i 0 = N 0 ∧ NS i 1 = b ∧ NS i 4 = N 4 ∧ NS i 5 ≠ 0 ∧ NS i 2 + NS i 3 = pgl n Le (NS i 1))) i = false := decide_eq_false (fun z => ite10.mp c61 ⟨z.2.2.2.1, z.2.2.2.2⟩)
          refine rx_iinc (v := nI (i + 1)) d_Notes_isGoingOn_66 (by rfl) (i_inc i) ?_
          refine rx_goto (tgt := 12) d_Notes_isGoingOn_69 (by rfl) ?_
          rw [fix_no hf]
          exact ih (i + 1) _ (by omega)
        · have ht : (fun i => decide (NS i 0 = N 0 ∧ NS i 1 = b ∧ NS i 4 = N 4 ∧ NS i 5 ≠ 0 ∧ NS i 2 + NS i 3 = pgl n Le (NS i 1))) i = true := decide_eq_true ⟨(ite11.mp c40).1, (ite11.mp c40).2, c52, (ite11.mp c61).1, (ite11.mp c61).2⟩
          refine rx_iconst (v := 1) d_Notes_isGoingOn_64 (by decide) ?_
          refine rx_zreturn d_Notes_isGoingOn_65 (by rfl) (by rfl) ?_
          exact ⟨by rw [fix_yes ht]; rfl, rfl⟩
theorem c_isGoingOn (hp : is_pg V h a n al at_ av Le Te Va) (hN : is_nt V h aN ar num f na NS) (hr : rx_rd V h q = some (ncl N)) (b : Int32) : rx_C V (d + 3) kc ks m_Notes_isGoingOn [.ref aN, .ref q, .ref a, .int b] h (rx_X (.inl (some (.int (if N 2 = 0 ∧ (fix (fun i => decide (NS i 0 = N 0 ∧ NS i 1 = b ∧ NS i 4 = N 4 ∧ NS i 5 ≠ 0 ∧ NS i 2 + NS i 3 = pgl n Le (NS i 1))) 0 num).isSome then 1 else 0)))) h) := by
  refine rx_aload_nr d_Notes_isGoingOn_0 (by rfl) ?_
  refine rx_getfield d_Notes_isGoingOn_1 fl_Notes_37 hr (by rfl) ?_
  refine rx_if_eq (tgt := 9) d_Notes_isGoingOn_4 (by rfl) (fun c4 => ?_) (fun c4 => ?_)
  · refine rx_iconst (v := 0) d_Notes_isGoingOn_9 (by decide) ?_
    refine rx_istore d_Notes_isGoingOn_10 (Nat.le_of_ble_eq_true rfl) ?_
    exact rx_cons (l_isGoingOn hp hN hr b num 0 _ (by omega)) (fun r h9 z => ⟨z.1.trans (by simp [c4]), z.2⟩)
  · refine rx_iconst (v := 0) d_Notes_isGoingOn_7 (by decide) ?_
    refine rx_zreturn d_Notes_isGoingOn_8 (by rfl) (by rfl) ?_
    exact ⟨by simp [c4], rfl⟩
theorem c_goingOn (hp : is_pg V h a n al at_ av Le Te Va) (hN : is_nt V h aN ar num f na NS) (hr : rx_rd V h q = some (ncl N)) (b : Int32) : rx_C V (d + 3) kc ks m_Notes_goingOn [.ref aN, .ref q, .ref a, .int b] h (rx_X (.inl (some (va_rf (if N 5 ≠ 0 ∧ N 2 + N 3 = pgl n Le (N 1) then (fix (fun i => decide (NS i 0 = N 0 ∧ NS i 1 = b ∧ NS i 2 = 0 ∧ NS i 4 = N 4)) 0 num).map na else none)))) h) := by
  refine rx_aload_nr d_Notes_goingOn_0 (by rfl) ?_
  refine rx_aload_nr d_Notes_goingOn_1 (by rfl) ?_
  refine rx_cV d_Notes_goingOn_2 (by rfl) ml_Notes_61 im_Note_reachesOver se_Note_reachesOver (by exact c9_Note_reachesOver) hr (by rfl) (by exact Nat.le_of_ble_eq_true rfl) (c_reachesOver hp hr) ?_
  refine rx_if_eq (tgt := 25) d_Notes_goingOn_5 (by rfl) (fun c5 => ?_) (fun c5 => ?_)
  · rw [if_neg (ite10.mp c5)]
    refine rx_null d_Notes_goingOn_25 ?_
    refine rx_areturn_N d_Notes_goingOn_26 (by rfl) ?_
    exact ⟨rfl, rfl⟩
  · rw [if_pos (ite11.mp c5)]
    refine rx_aload_nr d_Notes_goingOn_8 (by rfl) ?_
    refine rx_aload_nr d_Notes_goingOn_9 (by rfl) ?_
    refine rx_getfield d_Notes_goingOn_10 fl_Notes_56 hr (by rfl) ?_
    refine rx_iload_n d_Notes_goingOn_13 (by rfl) ?_
    refine rx_iconst (v := 0) d_Notes_goingOn_14 (by decide) ?_
    refine rx_aload_nr d_Notes_goingOn_15 (by rfl) ?_
    refine rx_getfield d_Notes_goingOn_16 fl_Notes_40 hr (by rfl) ?_
    refine rx_cV d_Notes_goingOn_19 (by rfl) ml_Notes_65 im_Notes_seek se_Notes_seek (by exact c9_Notes_seek) hN.1 (by rfl) (by exact Nat.le_of_ble_eq_true rfl) (c_seek hN (N 0) b 0 (N 4)) ?_
    refine rx_goto (tgt := 26) d_Notes_goingOn_22 (by rfl) ?_
    refine rx_areturn d_Notes_goingOn_26 (by rfl) ?_
    exact ⟨rfl, rfl⟩
end N2
end
section
/-! Repeats: reads, passes -/
theorem rx_ne {V : rx_V} {h : List va_E} {a b : Nat} {e1 e2 : va_E} (h1 : rx_rd V h a = some e1) (h2 : rx_rd V h b = some e2) (hne : e1 ≠ e2) : a ≠ b := by
  intro e
  subst e
  exact hne (Option.some.inj (h1.symm.trans h2))
/-- nothing has changed but at the places FP; no cell is new -/
def rx_fr (V : rx_V) (h h' : List va_E) (FP : Nat → Prop) : Prop := h'.length = h.length ∧ ∀ q, ¬ FP q → rx_rd V h' q = rx_rd V h q
theorem rx_fr.rf {V : rx_V} {h : List va_E} {FP : Nat → Prop} : rx_fr V h h FP := ⟨rfl, fun _ _ => rfl⟩
theorem rx_fr.tr {V : rx_V} {h h1 h2 : List va_E} {FP : Nat → Prop} (a : rx_fr V h h1 FP) (b : rx_fr V h1 h2 FP) : rx_fr V h h2 FP := ⟨b.1.trans a.1, fun q hq => (b.2 q hq).trans (a.2 q hq)⟩
theorem rx_fr.mo {V : rx_V} {h h1 : List va_E} {FP FP' : Nat → Prop} (a : rx_fr V h h1 FP) (hs : ∀ q, FP q → FP' q) : rx_fr V h h1 FP' := ⟨a.1, fun q hq => a.2 q (fun z => hq (hs q z))⟩
theorem rx_fr.wr {V : rx_V} {h : List va_E} {a : Nat} {e0 e : va_E} {FP : Nat → Prop} (he : rx_rd V h a = some e0) (ha : FP a) : rx_fr V h (rx_wr V h a e) FP := ⟨rx_wr_len, fun q hq => rx_rd_wn he (fun z => hq (z ▸ ha))⟩
def ogt (n : Nat) (f : Nat → Option Nat) (b : Int32) : Option Nat := if 0 ≤ b.toInt ∧ b.toInt < n then f b.toInt.toNat else none
theorem ogt_0 {n : Nat} {f : Nat → Option Nat} {b : Int32} (h : b < 0) : ogt n f b = none := by
  rw [i_lt, i_0] at h
  exact if_neg (by omega)
theorem ogt_n {n : Nat} {f : Nat → Option Nat} {b : Int32} (hn : n ≤ 1000000) (h : nI n ≤ b) : ogt n f b = none := by
  rw [i_le, i_n hn] at h
  exact if_neg (by omega)
theorem ogt_1 {n : Nat} {f : Nat → Option Nat} {b : Int32} (hn : n ≤ 1000000) (h1 : ¬ b < 0) (h2 : ¬ nI n ≤ b) : vp_in b n ∧ f b.toNatClampNeg = ogt n f b := by
  obtain ⟨j, hj, rfl⟩ := i_ix hn h1 h2
  refine ⟨vp_in_nI hj (by omega), ?_⟩
  unfold ogt
  rw [i_n (by omega), i_cl (by omega), if_pos (by omega)]
  rfl
theorem ogt_nn {n j : Nat} {f : Nat → Option Nat} (hn : n ≤ 1000000) (hj : j < n) : ogt n f (nI j) = f j := by
  unfold ogt
  rw [i_n (by omega), if_pos (by omega)]
  rfl
/-- the cells of the repeats: the object, its three arrays, the Repeat objects -/
def is_rp (V : rx_V) (h : List va_E) (a n aA aE aG num : Nat) (fA fE fG : Nat → Option Nat) (ra : Nat → Nat) (R : Nat → Nat → Int32) : Prop :=
  rx_rd V h a = some (.inr (3, [.ref aA, .ref aE, .ref aG, .int (nI num)])) ∧ rx_rd V h aA = some (.inl (V.2.2.2.1 3, n, .inr (.inr (.inr (.inr fA))))) ∧ rx_rd V h aE = some (.inl (V.2.2.2.1 3, n, .inr (.inr (.inr (.inr fE))))) ∧ rx_rd V h aG = some (.inl (V.2.2.2.1 3, n, .inr (.inr (.inr (.inr fG))))) ∧
  (∀ r, r < n → fA r = some (ra r)) ∧ (∀ r, r < n → rx_rd V h (ra r) = some (rcl (R r))) ∧ (∀ r r', r < n → r' < n → ra r = ra r' → r = r') ∧ num ≤ n ∧ n ≤ 20
/-- one Repeat is written -/
def rup (R : Nat → Nat → Int32) (r k : Nat) (v : Int32) : Nat → Nat → Int32 := fun r' k' => if r' = r ∧ k' = k then v else R r' k'
theorem rup_o {R : Nat → Nat → Int32} {r k : Nat} {v : Int32} {r' : Nat} (h : r' ≠ r) : rup R r k v r' = R r' := by
  funext k'
  exact if_neg (fun z => h z.1)
theorem rup_s {R : Nat → Nat → Int32} {r k : Nat} {v : Int32} : rup R r k v r k = v := if_pos ⟨rfl, rfl⟩
theorem rup_k {R : Nat → Nat → Int32} {r k k' : Nat} {v : Int32} (h : k' ≠ k) : rup R r k v r k' = R r k' := if_neg (fun z => h z.2)
theorem rup_u {R : Nat → Nat → Int32} {r k : Nat} {v : Int32} : rup R r k v r = upd (R r) k v := by
  funext j
  unfold rup upd
  by_cases h : j = k
  · rw [if_pos ⟨rfl, h⟩, if_pos h]
  · rw [if_neg (fun z => h z.2), if_neg h]
theorem is_rp.set {V : rx_V} {h : List va_E} {a n aA aE aG num : Nat} {fA fE fG : Nat → Option Nat} {ra : Nat → Nat} {R : Nat → Nat → Int32} (H : is_rp V h a n aA aE aG num fA fE fG ra R) {r : Nat} (hr : r < n) {X : Nat → Int32} {R' : Nat → Nat → Int32} (hs : ∀ k, k < 7 → R' r k = X k) (ho : ∀ r', r' ≠ r → R' r' = R r') : is_rp V (rx_wr V h (ra r) (rcl X)) a n aA aE aG num fA fE fG ra R' := by
  obtain ⟨h1, h2, h3, h4, h5, h6, h7, h8, h9⟩ := H
  have hc := h6 r hr
  refine ⟨(rx_rd_wn hc (rx_ne h1 hc (fun z => by cases z))).trans h1, (rx_rd_wn hc (rx_ne h2 hc (fun z => by cases z))).trans h2, (rx_rd_wn hc (rx_ne h3 hc (fun z => by cases z))).trans h3, (rx_rd_wn hc (rx_ne h4 hc (fun z => by cases z))).trans h4, h5, fun r' hr' => ?_, h7, h8, h9⟩
  by_cases e : r' = r
  · subst e
    rw [rx_rd_wr hc]
    unfold rcl
    rw [hs 0 (by omega), hs 1 (by omega), hs 2 (by omega), hs 3 (by omega), hs 4 (by omega), hs 5 (by omega), hs 6 (by omega)]
  · rw [rx_rd_wn hc (fun z => e (h7 r' r hr' hr z)), h6 r' hr', ho r' e]
section RP
variable {V : rx_V} {d kc ks a n aA aE aG num q : Nat} {h : List va_E} {fA fE fG : Nat → Option Nat} {ra : Nat → Nat} {R : Nat → Nat → Int32}
theorem c_ofEnd (H : is_rp V h a n aA aE aG num fA fE fG ra R) (b : Int32) : rx_C V d kc ks m_Repeats_ofEnd [.ref a, .int b] h (rx_X (.inl (some (va_rf (ogt n fE b)))) h) := by
  have hn : n ≤ 20 := H.2.2.2.2.2.2.2.2
  refine rx_iload_n d_Repeats_ofEnd_0 (by rfl) ?_
  refine rx_if_lt (tgt := 22) d_Repeats_ofEnd_1 (by rfl) (fun c1 => ?_) (fun c1 => ?_)
  · rw [ogt_0 c1]
    refine rx_null d_Repeats_ofEnd_22 ?_
    refine rx_areturn_N d_Repeats_ofEnd_23 (by rfl) ?_
    exact ⟨rfl, rfl⟩
  · refine rx_iload_n d_Repeats_ofEnd_4 (by rfl) ?_
    refine rx_aload_nr d_Repeats_ofEnd_5 (by rfl) ?_
    refine rx_getfield d_Repeats_ofEnd_6 fl_Repeats_17 H.1 (by rfl) ?_
    refine rx_alen d_Repeats_ofEnd_9 (by rfl) H.2.2.1 ?_
    refine rx_icmp_ge (tgt := 22) d_Repeats_ofEnd_10 (by rfl) (fun c10 => ?_) (fun c10 => ?_)
    · have c10 : nI n ≤ b := c10
      rw [ogt_n (by omega) c10]
      refine rx_null d_Repeats_ofEnd_22 ?_
      refine rx_areturn_N d_Repeats_ofEnd_23 (by rfl) ?_
      exact ⟨rfl, rfl⟩
    · have c10 : ¬ nI n ≤ b := c10
      refine rx_aload_nr d_Repeats_ofEnd_13 (by rfl) ?_
      refine rx_getfield d_Repeats_ofEnd_14 fl_Repeats_17 H.1 (by rfl) ?_
      refine rx_iload_n d_Repeats_ofEnd_17 (by rfl) ?_
      refine rx_aaload d_Repeats_ofEnd_18 (by rfl) H.2.2.1 (ogt_1 (f := fE) (by omega) c1 c10).1 ?_
      rw [(ogt_1 (f := fE) (by omega) c1 c10).2]
      refine rx_goto (tgt := 23) d_Repeats_ofEnd_19 (by rfl) ?_
      refine rx_areturn d_Repeats_ofEnd_23 (by rfl) ?_
      exact ⟨rfl, rfl⟩
theorem c_ofEnding (H : is_rp V h a n aA aE aG num fA fE fG ra R) (b : Int32) : rx_C V d kc ks m_Repeats_ofEnding [.ref a, .int b] h (rx_X (.inl (some (va_rf (ogt n fG b)))) h) := by
  have hn : n ≤ 20 := H.2.2.2.2.2.2.2.2
  refine rx_iload_n d_Repeats_ofEnding_0 (by rfl) ?_
  refine rx_if_lt (tgt := 22) d_Repeats_ofEnding_1 (by rfl) (fun c1 => ?_) (fun c1 => ?_)
  · rw [ogt_0 c1]
    refine rx_null d_Repeats_ofEnding_22 ?_
    refine rx_areturn_N d_Repeats_ofEnding_23 (by rfl) ?_
    exact ⟨rfl, rfl⟩
  · refine rx_iload_n d_Repeats_ofEnding_4 (by rfl) ?_
    refine rx_aload_nr d_Repeats_ofEnding_5 (by rfl) ?_
    refine rx_getfield d_Repeats_ofEnding_6 fl_Repeats_20 H.1 (by rfl) ?_
    refine rx_alen d_Repeats_ofEnding_9 (by rfl) H.2.2.2.1 ?_
    refine rx_icmp_ge (tgt := 22) d_Repeats_ofEnding_10 (by rfl) (fun c10 => ?_) (fun c10 => ?_)
    · have c10 : nI n ≤ b := c10
      rw [ogt_n (by omega) c10]
      refine rx_null d_Repeats_ofEnding_22 ?_
      refine rx_areturn_N d_Repeats_ofEnding_23 (by rfl) ?_
      exact ⟨rfl, rfl⟩
    · have c10 : ¬ nI n ≤ b := c10
      refine rx_aload_nr d_Repeats_ofEnding_13 (by rfl) ?_
      refine rx_getfield d_Repeats_ofEnding_14 fl_Repeats_20 H.1 (by rfl) ?_
      refine rx_iload_n d_Repeats_ofEnding_17 (by rfl) ?_
      refine rx_aaload d_Repeats_ofEnding_18 (by rfl) H.2.2.2.1 (ogt_1 (f := fG) (by omega) c1 c10).1 ?_
      rw [(ogt_1 (f := fG) (by omega) c1 c10).2]
      refine rx_goto (tgt := 23) d_Repeats_ofEnding_19 (by rfl) ?_
      refine rx_areturn d_Repeats_ofEnding_23 (by rfl) ?_
      exact ⟨rfl, rfl⟩
theorem l_around (H : is_rp V h a n aA aE aG num fA fE fG ra R) (b : Int32) : ∀ (m i : Nat), i + m = num → rx_W V (d + 1) kc ks m_Repeats_around 2 [some (.ref a), some (.int b), some (.int (nI i))] [] h (rx_X (.inl (some (va_rf ((fix (fun r => decide (¬ (b < R r 0 ∨ R r 2 < b))) i m).map ra)))) h) := by
  intro m
  induction m with
  | zero =>
    intro i hi
    have hi9 : i = num := by omega
    have hn : n ≤ 20 := H.2.2.2.2.2.2.2.2
    have hm : num ≤ n := H.2.2.2.2.2.2.2.1
    refine rx_iload_n d_Repeats_around_2 (by rfl) ?_
    refine rx_aload_nr d_Repeats_around_3 (by rfl) ?_
    refine rx_getfield d_Repeats_around_4 fl_Repeats_24 H.1 (by rfl) ?_
    refine rx_icmp_ge (tgt := 36) d_Repeats_around_7 (by rfl) (fun c7 => ?_) (fun z => absurd (show nI num ≤ nI i by rw [hi9]; exact Int32.le_refl _) z)
    refine rx_null d_Repeats_around_36 ?_
    refine rx_areturn_N d_Repeats_around_37 (by rfl) ?_
    exact ⟨rfl, rfl⟩
  | succ m ih =>
    intro i hi
    have hlt : i < num := by omega
    have hn : n ≤ 20 := H.2.2.2.2.2.2.2.2
    have hm : num ≤ n := H.2.2.2.2.2.2.2.1
    have hcl : (nI i).toNatClampNeg = i := i_cl (by omega)
    refine rx_iload_n d_Repeats_around_2 (by rfl) ?_
    refine rx_aload_nr d_Repeats_around_3 (by rfl) ?_
    refine rx_getfield d_Repeats_around_4 fl_Repeats_24 H.1 (by rfl) ?_
    refine rx_icmp_ge (tgt := 36) d_Repeats_around_7 (by rfl) (fun z => absurd z (nI_ge hlt (by omega))) (fun c7 => ?_)
    refine rx_aload_nr d_Repeats_around_10 (by rfl) ?_
    refine rx_getfield d_Repeats_around_11 fl_Repeats_11 H.1 (by rfl) ?_
    refine rx_iload_n d_Repeats_around_14 (by rfl) ?_
    refine rx_aaload d_Repeats_around_15 (by rfl) H.2.1 (vp_in_nI (by omega) (by omega)) ?_
    rw [hcl, H.2.2.2.2.1 i (by omega)]
    refine rx_iload_n d_Repeats_around_16 (by rfl) ?_
    refine rx_cV d_Repeats_around_17 (by rfl) ml_Repeats_88 im_Repeat_spans se_Repeat_spans (by exact c9_Repeat_spans) (H.2.2.2.2.2.1 i (by omega)) (by rfl) (by exact Nat.le_of_ble_eq_true rfl) (c_spans (H.2.2.2.2.2.1 i (by omega)) b) ?_
    refine rx_if_eq (tgt := 30) d_Repeats_around_20 (by rfl) (fun c20 => ?_) (fun c20 => ?_)
    · have hf : (fun r => decide (¬ (b < R r 0 ∨ R r 2 < b))) i = false := decide_eq_false (fun z => z (ite01.mp c20))
      refine rx_iinc (v := nI (i + 1)) d_Repeats_around_30 (by rfl) (i_inc i) ?_
      refine rx_goto (tgt := 2) d_Repeats_around_33 (by rfl) ?_
      rw [fix_no hf]
      exact ih (i + 1) (by omega)
    · have ht : (fun r => decide (¬ (b < R r 0 ∨ R r 2 < b))) i = true := decide_eq_true (fun z => c20 (ite01.mpr z))
      refine rx_aload_nr d_Repeats_around_23 (by rfl) ?_
      refine rx_getfield d_Repeats_around_24 fl_Repeats_11 H.1 (by rfl) ?_
      refine rx_iload_n d_Repeats_around_27 (by rfl) ?_
      refine rx_aaload d_Repeats_around_28 (by rfl) H.2.1 (vp_in_nI (by omega) (by omega)) ?_
      rw [hcl, H.2.2.2.2.1 i (by omega)]
      refine rx_areturn_r d_Repeats_around_29 (by rfl) ?_
      exact ⟨by rw [fix_yes ht]; rfl, rfl⟩
theorem c_around (H : is_rp V h a n aA aE aG num fA fE fG ra R) (b : Int32) : rx_C V (d + 1) kc ks m_Repeats_around [.ref a, .int b] h (rx_X (.inl (some (va_rf ((fix (fun r => decide (¬ (b < R r 0 ∨ R r 2 < b))) 0 num).map ra)))) h) := by
  refine rx_iconst (v := 0) d_Repeats_around_0 (by decide) ?_
  refine rx_istore_n d_Repeats_around_1 (Nat.le_of_ble_eq_true rfl) ?_
  exact l_around H b num 0 (by omega)
/-- the places of the Repeat objects -/
def fp_ra (n : Nat) (ra : Nat → Nat) : Nat → Prop := fun q => ∃ r, r < n ∧ q = ra r
theorem l_resetPasses : ∀ (m i : Nat) (h1 : List va_E) (R1 : Nat → Nat → Int32), i + m = num → is_rp V h1 a n aA aE aG num fA fE fG ra R1 → rx_fr V h h1 (fp_ra n ra) → (∀ r k, R1 r k = if r < i ∧ k = 6 then 1 else R r k) →
    rx_W V d kc ks m_Repeats_resetPasses 2 [some (.ref a), some (.int (nI i))] [] h1 (fun r h' => r = .inl none ∧ is_rp V h' a n aA aE aG num fA fE fG ra (fun r k => if r < num ∧ k = 6 then 1 else R r k) ∧ rx_fr V h h' (fp_ra n ra)) := by
  intro m
  induction m with
  | zero =>
    intro i h1 R1 hi H hf hR
    have hi9 : i = num := by omega
    refine rx_iload_n d_Repeats_resetPasses_2 (by rfl) ?_
    refine rx_aload_nr d_Repeats_resetPasses_3 (by rfl) ?_
    refine rx_getfield d_Repeats_resetPasses_4 fl_Repeats_24 H.1 (by rfl) ?_
    refine rx_icmp_ge (tgt := 26) d_Repeats_resetPasses_7 (by rfl) (fun c7 => ?_) (fun z => absurd (show nI num ≤ nI i by rw [hi9]; exact Int32.le_refl _) z)
    refine rx_vreturn d_Repeats_resetPasses_26 (by rfl) ?_
    exact ⟨rfl, by rw [← hi9, show (fun r k => if r < i ∧ k = 6 then 1 else R r k) = R1 from by funext r k; exact (hR r k).symm, hi9]; exact H, hf⟩
  | succ m ih =>
    intro i h1 R1 hi H hf hR
    have hlt : i < num := by omega
    have hn : n ≤ 20 := H.2.2.2.2.2.2.2.2
    have hm : num ≤ n := H.2.2.2.2.2.2.2.1
    have hcl : (nI i).toNatClampNeg = i := i_cl (by omega)
    have hc := H.2.2.2.2.2.1 i (by omega)
    refine rx_iload_n d_Repeats_resetPasses_2 (by rfl) ?_
    refine rx_aload_nr d_Repeats_resetPasses_3 (by rfl) ?_
    refine rx_getfield d_Repeats_resetPasses_4 fl_Repeats_24 H.1 (by rfl) ?_
    refine rx_icmp_ge (tgt := 26) d_Repeats_resetPasses_7 (by rfl) (fun z => absurd z (nI_ge hlt (by omega))) (fun c7 => ?_)
    refine rx_aload_nr d_Repeats_resetPasses_10 (by rfl) ?_
    refine rx_getfield d_Repeats_resetPasses_11 fl_Repeats_11 H.1 (by rfl) ?_
    refine rx_iload_n d_Repeats_resetPasses_14 (by rfl) ?_
    refine rx_aaload d_Repeats_resetPasses_15 (by rfl) H.2.1 (vp_in_nI (by omega) (by omega)) ?_
    rw [hcl, H.2.2.2.2.1 i (by omega)]
    refine rx_iconst (v := 1) d_Repeats_resetPasses_16 (by decide) ?_
    refine rx_putfield d_Repeats_resetPasses_17 (fw_Repeats_92 rfl) hc (Nat.le_of_ble_eq_true rfl) (by rfl) (by rfl) ?_
    refine rx_iinc (v := nI (i + 1)) d_Repeats_resetPasses_20 (by rfl) (i_inc i) ?_
    refine rx_goto (tgt := 2) d_Repeats_resetPasses_23 (by rfl) ?_
    refine ih (i + 1) _ (rup R1 i 6 1) (by omega) (H.set (X := upd (R1 i) 6 1) (by omega) (fun k _ => by rw [rup_u]) (fun r' e => rup_o e)) (hf.tr (rx_fr.wr hc ⟨i, by omega, rfl⟩)) (fun r k => ?_)
    unfold rup
    by_cases e : r = i ∧ k = 6
    · rw [if_pos e, if_pos ⟨by omega, e.2⟩]
    · rw [if_neg e, hR r k]
      by_cases e2 : r < i ∧ k = 6
      · rw [if_pos e2, if_pos ⟨by omega, e2.2⟩]
      · rw [if_neg e2, if_neg (by omega)]
theorem c_resetPasses (H : is_rp V h a n aA aE aG num fA fE fG ra R) : rx_C V d kc ks m_Repeats_resetPasses [.ref a] h (fun r h' => r = .inl none ∧ is_rp V h' a n aA aE aG num fA fE fG ra (fun r k => if r < num ∧ k = 6 then 1 else R r k) ∧ rx_fr V h h' (fp_ra n ra)) := by
  refine rx_iconst (v := 0) d_Repeats_resetPasses_0 (by decide) ?_
  refine rx_istore_n d_Repeats_resetPasses_1 (Nat.le_of_ble_eq_true rfl) ?_
  exact l_resetPasses num 0 h R (by omega) H rx_fr.rf (fun r k => by rw [if_neg (by omega)])
end RP
end
section
/-! Repeats: begin, goesOn -/
/-- the last bar with a sign, as the class says it -/
def lwi (n : Nat) (Va : Nat → Int32) (k : Nat) (f t : Int32) : Int32 := Int32.ofInt (lwf (fun i => decide (Va (10 * i + k) ≠ 0)) (max f.toInt 0) ((min t.toInt ((n : Int) - 1)) + 1).toNat)
def rsu (R : Nat → Nat → Int32) (r : Nat) (X : Nat → Int32) : Nat → Nat → Int32 := fun r' => if r' = r then X else R r'
theorem rsu_s {R : Nat → Nat → Int32} {r : Nat} {X : Nat → Int32} : rsu R r X r = X := if_pos rfl
theorem rsu_o {R : Nat → Nat → Int32} {r r' : Nat} {X : Nat → Int32} (h : r' ≠ r) : rsu R r X r' = R r' := if_neg h
theorem is_pg.fr {V : rx_V} {h h' : List va_E} {a n al at_ av : Nat} {Le Te Va : Nat → Int32} {FP : Nat → Prop} (hp : is_pg V h a n al at_ av Le Te Va) (hf : rx_fr V h h' FP) (h1 : ¬ FP a) (h2 : ¬ FP al) (h3 : ¬ FP at_) (h4 : ¬ FP av) : is_pg V h' a n al at_ av Le Te Va :=
  ⟨(hf.2 a h1).trans hp.1, (hf.2 al h2).trans hp.2.1, (hf.2 at_ h3).trans hp.2.2.1, (hf.2 av h4).trans hp.2.2.2.1, hp.2.2.2.2⟩
theorem is_pg.wr {V : rx_V} {h : List va_E} {a n al at_ av q : Nat} {Le Te Va : Nat → Int32} {e0 e : va_E} (hp : is_pg V h a n al at_ av Le Te Va) (hc : rx_rd V h q = some e0) (h1 : a ≠ q) (h2 : al ≠ q) (h3 : at_ ≠ q) (h4 : av ≠ q) : is_pg V (rx_wr V h q e) a n al at_ av Le Te Va :=
  hp.fr (FP := fun x => x = q) (rx_fr.wr hc rfl) h1 h2 h3 h4
theorem is_pg.rc {V : rx_V} {h : List va_E} {a n al at_ av q : Nat} {Le Te Va : Nat → Int32} {X : Nat → Int32} {e : va_E} (hp : is_pg V h a n al at_ av Le Te Va) (hc : rx_rd V h q = some (rcl X)) : is_pg V (rx_wr V h q e) a n al at_ av Le Te Va :=
  hp.wr hc (rx_ne hp.1 hc (fun z => by cases z)) (rx_ne hp.2.1 hc (fun z => by cases z)) (rx_ne hp.2.2.1 hc (fun z => by cases z)) (rx_ne hp.2.2.2.1 hc (fun z => by cases z))
theorem is_rp.num {V : rx_V} {h : List va_E} {a n aA aE aG num num' : Nat} {fA fE fG : Nat → Option Nat} {ra : Nat → Nat} {R : Nat → Nat → Int32} (H : is_rp V h a n aA aE aG num fA fE fG ra R) (hm : num' ≤ n) : is_rp V (rx_wr V h a (.inr (3, [.ref aA, .ref aE, .ref aG, .int (nI num')]))) a n aA aE aG num' fA fE fG ra R := by
  obtain ⟨h1, h2, h3, h4, h5, h6, h7, h8, h9⟩ := H
  refine ⟨rx_rd_wr h1, (rx_rd_wn h1 (rx_ne h2 h1 (fun z => by cases z))).trans h2, (rx_rd_wn h1 (rx_ne h3 h1 (fun z => by cases z))).trans h3, (rx_rd_wn h1 (rx_ne h4 h1 (fun z => by cases z))).trans h4, h5, fun r hr => (rx_rd_wn h1 (rx_ne (h6 r hr) h1 (fun z => by cases z))).trans (h6 r hr), h7, hm, h9⟩
/-- the places of the repeats: the object, the Repeats -/
def fp_rp (a n : Nat) (ra : Nat → Nat) : Nat → Prop := fun q => q = a ∨ fp_ra n ra q
section GA
variable {V : rx_V} {d kc ks a n aA aE aG num q aP al at_ av : Nat} {h : List va_E} {fA fE fG : Nat → Option Nat} {ra : Nat → Nat} {R : Nat → Nat → Int32} {Le Te Va : Nat → Int32}
theorem c_lw (hp : is_pg V h aP n al at_ av Le Te Va) {k : Nat} (hk : k < 10) (f t : Int32) : rx_C V (d + 1) kc ks m_Page_lastWith [.ref aP, .int (Int32.ofNat k), .int f, .int t] h (rx_X (.inl (some (.int (lwi n Va k f t)))) h) := c_lastWith hp hk f t
theorem c_goesOn (hp : is_pg V h aP n al at_ av Le Te Va) (f t : Int32) : rx_C V (d + 2) kc ks m_Repeats_goesOn [.ref aP, .int f, .int t] h (rx_X (.inl (some (.int (if ¬ pgv n Va f 2 = 0 ∧ lwi n Va 0 f t = -1 then 1 else 0)))) h) := by
  refine rx_aload_nr d_Repeats_goesOn_0 (by rfl) ?_
  refine rx_iload_n d_Repeats_goesOn_1 (by rfl) ?_
  refine rx_iconst (v := 2) d_Repeats_goesOn_2 (by decide) ?_
  refine rx_cV d_Repeats_goesOn_3 (by rfl) ml_Repeats_36 im_Page_has se_Page_has (by exact c9_Page_has) hp.1 (by rfl) (by exact Nat.le_of_ble_eq_true rfl) (c_has hp f 2) ?_
  refine rx_if_eq (tgt := 24) d_Repeats_goesOn_6 (by rfl) (fun c6 => ?_) (fun c6 => ?_)
  · have z := ite01.mp c6
    refine rx_iconst (v := 0) d_Repeats_goesOn_24 (by decide) ?_
    refine rx_zreturn d_Repeats_goesOn_25 (by rfl) (by rfl) ?_
    exact ⟨by first | (rw [if_pos ⟨z, c17⟩]; done) | (rw [if_neg (fun w => c17 w.2)]; done) | (rw [if_neg (fun w => w.1 z)]; done), rfl⟩
  · have z : ¬ pgv n Va f 2 = 0 := fun w => c6 (ite01.mpr w)
    refine rx_aload_nr d_Repeats_goesOn_9 (by rfl) ?_
    refine rx_iconst (v := 0) d_Repeats_goesOn_10 (by decide) ?_
    refine rx_iload_n d_Repeats_goesOn_11 (by rfl) ?_
    refine rx_iload_n d_Repeats_goesOn_12 (by rfl) ?_
    refine rx_cV d_Repeats_goesOn_13 (by rfl) ml_Repeats_53 im_Page_lastWith se_Page_lastWith (by exact c9_Page_lastWith) hp.1 (by rfl) (by exact Nat.le_of_ble_eq_true rfl) (c_lw hp (k := 0) (by omega) f t) ?_
    refine rx_iconst (v := -1) d_Repeats_goesOn_16 (by decide) ?_
    refine rx_icmp_ne (tgt := 24) d_Repeats_goesOn_17 (by rfl) (fun c17 => ?_) (fun c17 => ?_)
    · refine rx_iconst (v := 0) d_Repeats_goesOn_24 (by decide) ?_
      refine rx_zreturn d_Repeats_goesOn_25 (by rfl) (by rfl) ?_
      exact ⟨by first | (rw [if_pos ⟨z, c17⟩]; done) | (rw [if_neg (fun w => c17 w.2)]; done) | (rw [if_neg (fun w => w.1 z)]; done), rfl⟩
    · refine rx_iconst (v := 1) d_Repeats_goesOn_20 (by decide) ?_
      refine rx_goto (tgt := 25) d_Repeats_goesOn_21 (by rfl) ?_
      refine rx_zreturn d_Repeats_goesOn_25 (by rfl) (by rfl) ?_
      exact ⟨by first | (rw [if_pos ⟨z, c17⟩]; done) | (rw [if_neg (fun w => c17 w.2)]; done) | (rw [if_neg (fun w => w.1 z)]; done), rfl⟩
theorem c_begin (hp : is_pg V h aP n al at_ av Le Te Va) (H : is_rp V h a n aA aE aG num fA fE fG ra R) (hm : num < n) (f t : Int32) {v : Int32} (hv : lwi n Va 0 f t = v) : rx_C V (d + 2) kc ks m_Repeats_begin [.ref a, .ref aP, .int f, .int t] h (fun r h' => r = .inl (some (.ref (ra num))) ∧ is_rp V h' a n aA aE aG (num + 1) fA fE fG ra (rsu R num (upd (upd (upd (upd (upd (R num) 0 (if v = -1 then f else v)) 1 t) 3 (-1)) 4 (-1)) 5 (pgv n Va t 1))) ∧ rx_fr V h h' (fp_rp a n ra)) := by
  have hn : n ≤ 20 := H.2.2.2.2.2.2.2.2
  have hcl : (nI num).toNatClampNeg = num := i_cl (by omega)
  have hc := H.2.2.2.2.2.1 num hm
  refine rx_aload_nr d_Repeats_begin_0 (by rfl) ?_
  refine rx_iconst (v := 0) d_Repeats_begin_1 (by decide) ?_
  refine rx_iload_n d_Repeats_begin_2 (by rfl) ?_
  refine rx_iload_n d_Repeats_begin_3 (by rfl) ?_
  refine rx_cV d_Repeats_begin_4 (by rfl) ml_Repeats_53 im_Page_lastWith se_Page_lastWith (by exact c9_Page_lastWith) hp.1 (by rfl) (by exact Nat.le_of_ble_eq_true rfl) (c_lw hp (k := 0) (by omega) f t) ?_
  rw [hv]
  refine rx_istore d_Repeats_begin_7 (Nat.le_of_ble_eq_true rfl) ?_
  refine rx_aload_nr d_Repeats_begin_9 (by rfl) ?_
  refine rx_getfield d_Repeats_begin_10 fl_Repeats_11 H.1 (by rfl) ?_
  refine rx_aload_nr d_Repeats_begin_13 (by rfl) ?_
  refine rx_getfield d_Repeats_begin_14 fl_Repeats_24 H.1 (by rfl) ?_
  refine rx_aaload d_Repeats_begin_17 (by rfl) H.2.1 (vp_in_nI (by omega) (by omega)) ?_
  rw [hcl, H.2.2.2.2.1 num hm]
  refine rx_astore_r d_Repeats_begin_18 (Nat.le_of_ble_eq_true rfl) ?_
  refine rx_aload_r d_Repeats_begin_20 (by rfl) ?_
  refine rx_iload d_Repeats_begin_22 (by rfl) ?_
  refine rx_iconst (v := -1) d_Repeats_begin_24 (by decide) ?_
  refine rx_icmp_ne (tgt := 32) d_Repeats_begin_25 (by rfl) (fun c25 => ?_) (fun c25 => ?_)
  · have hst : (if v = -1 then f else v) = v := if_neg c25
    refine rx_iload d_Repeats_begin_32 (by rfl) ?_
    refine rx_putfield d_Repeats_begin_34 (fw_Repeats_57 rfl) hc (Nat.le_of_ble_eq_true rfl) (by rfl) (by rfl) ?_
    refine rx_aload_r d_Repeats_begin_37 (by rfl) ?_
    refine rx_iload_n d_Repeats_begin_39 (by rfl) ?_
    refine rx_putfield d_Repeats_begin_40 (fw_Repeats_60 rfl) (rx_rd_wr hc) (Nat.le_of_ble_eq_true rfl) (by rfl) (by rfl) ?_
    refine rx_aload_r d_Repeats_begin_43 (by rfl) ?_
    refine rx_iconst (v := -1) d_Repeats_begin_45 (by decide) ?_
    refine rx_putfield d_Repeats_begin_46 (fw_Repeats_63 rfl) (rx_rd_wr (rx_rd_wr hc)) (Nat.le_of_ble_eq_true rfl) (by rfl) (by rfl) ?_
    refine rx_aload_r d_Repeats_begin_49 (by rfl) ?_
    refine rx_iconst (v := -1) d_Repeats_begin_51 (by decide) ?_
    refine rx_putfield d_Repeats_begin_52 (fw_Repeats_66 rfl) (rx_rd_wr (rx_rd_wr (rx_rd_wr hc))) (Nat.le_of_ble_eq_true rfl) (by rfl) (by rfl) ?_
    refine rx_aload_r d_Repeats_begin_55 (by rfl) ?_
    refine rx_aload_nr d_Repeats_begin_57 (by rfl) ?_
    refine rx_iload_n d_Repeats_begin_58 (by rfl) ?_
    refine rx_iconst (v := 1) d_Repeats_begin_59 (by decide) ?_
    simp only [rx_wr_wr]
    refine rx_cV d_Repeats_begin_60 (by rfl) ml_Repeats_69 im_Page_value se_Page_value (by exact c9_Page_value) (hp.rc hc).1 (by rfl) (by exact Nat.le_of_ble_eq_true rfl) (c_value (hp.rc hc) t 1) ?_
    refine rx_putfield d_Repeats_begin_63 (fw_Repeats_73 rfl) (rx_rd_wr hc) (Nat.le_of_ble_eq_true rfl) (by rfl) (by rfl) ?_
    simp only [rx_wr_wr]
    refine rx_aload_nr d_Repeats_begin_66 (by rfl) ?_
    refine rx_dup d_Repeats_begin_67 (by rfl) ?_
    refine rx_getfield d_Repeats_begin_68 fl_Repeats_24 ((rx_rd_wn hc (rx_ne H.1 hc (fun z => by cases z))).trans H.1) (by rfl) ?_
    refine rx_iconst (v := 1) d_Repeats_begin_71 (by decide) ?_
    refine rx_iadd d_Repeats_begin_72 ?_
    rw [nI_1]
    refine rx_putfield d_Repeats_begin_73 (fw_Repeats_24 rfl) ((rx_rd_wn hc (rx_ne H.1 hc (fun z => by cases z))).trans H.1) (Nat.le_of_ble_eq_true rfl) (by rfl) (by rfl) ?_
    refine rx_aload_r d_Repeats_begin_76 (by rfl) ?_
    refine rx_areturn_r d_Repeats_begin_78 (by rfl) ?_
    refine ⟨rfl, ?_, (rx_fr.wr hc (Or.inr ⟨num, hm, rfl⟩)).tr (rx_fr.wr ((rx_rd_wn hc (rx_ne H.1 hc (fun z => by cases z))).trans H.1) (Or.inl rfl))⟩
    rw [hst]
    exact (H.set (X := (upd (upd (upd (upd (upd (R num) 0 _) 1 t) 3 (-1)) 4 (-1)) 5 (pgv n Va t 1))) hm (fun k _ => by rw [rsu_s]) (fun r' e => rsu_o e)).num (by omega)
  · have hst : (if v = -1 then f else v) = f := if_pos c25
    refine rx_iload_n d_Repeats_begin_28 (by rfl) ?_
    refine rx_goto (tgt := 34) d_Repeats_begin_29 (by rfl) ?_
    refine rx_putfield d_Repeats_begin_34 (fw_Repeats_57 rfl) hc (Nat.le_of_ble_eq_true rfl) (by rfl) (by rfl) ?_
    refine rx_aload_r d_Repeats_begin_37 (by rfl) ?_
    refine rx_iload_n d_Repeats_begin_39 (by rfl) ?_
    refine rx_putfield d_Repeats_begin_40 (fw_Repeats_60 rfl) (rx_rd_wr hc) (Nat.le_of_ble_eq_true rfl) (by rfl) (by rfl) ?_
    refine rx_aload_r d_Repeats_begin_43 (by rfl) ?_
    refine rx_iconst (v := -1) d_Repeats_begin_45 (by decide) ?_
    refine rx_putfield d_Repeats_begin_46 (fw_Repeats_63 rfl) (rx_rd_wr (rx_rd_wr hc)) (Nat.le_of_ble_eq_true rfl) (by rfl) (by rfl) ?_
    refine rx_aload_r d_Repeats_begin_49 (by rfl) ?_
    refine rx_iconst (v := -1) d_Repeats_begin_51 (by decide) ?_
    refine rx_putfield d_Repeats_begin_52 (fw_Repeats_66 rfl) (rx_rd_wr (rx_rd_wr (rx_rd_wr hc))) (Nat.le_of_ble_eq_true rfl) (by rfl) (by rfl) ?_
    refine rx_aload_r d_Repeats_begin_55 (by rfl) ?_
    refine rx_aload_nr d_Repeats_begin_57 (by rfl) ?_
    refine rx_iload_n d_Repeats_begin_58 (by rfl) ?_
    refine rx_iconst (v := 1) d_Repeats_begin_59 (by decide) ?_
    simp only [rx_wr_wr]
    refine rx_cV d_Repeats_begin_60 (by rfl) ml_Repeats_69 im_Page_value se_Page_value (by exact c9_Page_value) (hp.rc hc).1 (by rfl) (by exact Nat.le_of_ble_eq_true rfl) (c_value (hp.rc hc) t 1) ?_
    refine rx_putfield d_Repeats_begin_63 (fw_Repeats_73 rfl) (rx_rd_wr hc) (Nat.le_of_ble_eq_true rfl) (by rfl) (by rfl) ?_
    simp only [rx_wr_wr]
    refine rx_aload_nr d_Repeats_begin_66 (by rfl) ?_
    refine rx_dup d_Repeats_begin_67 (by rfl) ?_
    refine rx_getfield d_Repeats_begin_68 fl_Repeats_24 ((rx_rd_wn hc (rx_ne H.1 hc (fun z => by cases z))).trans H.1) (by rfl) ?_
    refine rx_iconst (v := 1) d_Repeats_begin_71 (by decide) ?_
    refine rx_iadd d_Repeats_begin_72 ?_
    rw [nI_1]
    refine rx_putfield d_Repeats_begin_73 (fw_Repeats_24 rfl) ((rx_rd_wn hc (rx_ne H.1 hc (fun z => by cases z))).trans H.1) (Nat.le_of_ble_eq_true rfl) (by rfl) (by rfl) ?_
    refine rx_aload_r d_Repeats_begin_76 (by rfl) ?_
    refine rx_areturn_r d_Repeats_begin_78 (by rfl) ?_
    refine ⟨rfl, ?_, (rx_fr.wr hc (Or.inr ⟨num, hm, rfl⟩)).tr (rx_fr.wr ((rx_rd_wn hc (rx_ne H.1 hc (fun z => by cases z))).trans H.1) (Or.inl rfl))⟩
    rw [hst]
    exact (H.set (X := (upd (upd (upd (upd (upd (R num) 0 _) 1 t) 3 (-1)) 4 (-1)) 5 (pgv n Va t 1))) hm (fun k _ => by rw [rsu_s]) (fun r' e => rsu_o e)).num (by omega)
end GA
end
section
/-! calls that make nothing, with an open end -/
section RXP
variable {V : rx_V} {d kc ks : Nat} {M y : rx_T} {pc : Nat} {L : rx_L} {S Sr As : List Value} {h : List va_E} {Q : rx_R → List va_E → Prop} {P9 : List va_E → Prop} {index : Nat} {v0 : Option Value}
theorem rx_pk {v0 : Option Value} (k : ∀ h1, P9 h1 → rx_W V (d + 1) kc ks M (pc + 3) L (v0.toList ++ Sr) h1 Q) : ∀ v h1, (.inl v : rx_R) = .inl v0 ∧ P9 h1 → rx_W V (d + 1) kc ks M (pc + 3) L (v.toList ++ Sr) h1 Q := fun v h1 z => by
  obtain ⟨z1, z2⟩ := z
  cases z1
  exact k h1 z2
theorem rx_pV {b ci : Nat} {fs : List Value} {r : vw_C} (hd : decode M.2.1 pc = .ok (.invokevirtual index, 3)) (hc : rx_cl[ci]? = some r) (w1 : Cond.methodLink M.1.cls index y.1 ∈ rx_tbl) (w2 : Cond.instanceMethod y.1 ∈ rx_tbl) (w3 : Cond.selects r.1 y.1 y.1 ∈ rx_tbl) (hcl : rx_cl9 y As.length (lg_sl (.ref b :: As)).length)
    (he : rx_rd V h b = some (.inr (ci, fs))) (hS : S = As.reverse ++ .ref b :: Sr) (hw8 : (Sr.map fun v => v.category).sum ≤ 8) (K : rx_C V d 0 0 y (.ref b :: As) h (fun r h' => r = .inl v0 ∧ P9 h')) (k : ∀ h1, P9 h1 → rx_W V (d + 1) kc ks M (pc + 3) L (v0.toList ++ Sr) h1 Q) : rx_W V (d + 1) kc ks M pc L S h Q := by
  have z := rx_callV (mc := 0) (ms := 0) hd hc w1 w2 w3 hcl he hS hw8 K (fun _ _ z => nomatch z.1) (rx_pk k)
  rw [Nat.zero_add, Nat.zero_add] at z
  exact z
theorem rx_pS (hd : decode M.2.1 pc = .ok (.invokestatic index, 3)) (w1 : Cond.methodLink M.1.cls index y.1 ∈ rx_tbl) (w2 : Cond.static y.1 ∈ rx_tbl) (hcl : rx_cl9 y As.length (lg_sl As).length)
    (hS : S = As.reverse ++ Sr) (hw8 : (Sr.map fun v => v.category).sum ≤ 8) (K : rx_C V d 0 0 y As h (fun r h' => r = .inl v0 ∧ P9 h')) (k : ∀ h1, P9 h1 → rx_W V (d + 1) kc ks M (pc + 3) L (v0.toList ++ Sr) h1 Q) : rx_W V (d + 1) kc ks M pc L S h Q := by
  have z := rx_callS (mc := 0) (ms := 0) hd w1 w2 hcl hS hw8 K (fun _ _ z => nomatch z.1) (rx_pk k)
  rw [Nat.zero_add, Nat.zero_add] at z
  exact z
theorem rx_pSN {host : String} (hd : decode M.2.1 pc = .ok (.invokestatic index, 3)) (w1 : Cond.methodLinkNest M.1.cls index y.1 host ∈ rx_tbl) (w2 : Cond.static y.1 ∈ rx_tbl) (hcl : rx_cl9 y As.length (lg_sl As).length)
    (hS : S = As.reverse ++ Sr) (hw8 : (Sr.map fun v => v.category).sum ≤ 8) (K : rx_C V d 0 0 y As h (fun r h' => r = .inl v0 ∧ P9 h')) (k : ∀ h1, P9 h1 → rx_W V (d + 1) kc ks M (pc + 3) L (v0.toList ++ Sr) h1 Q) : rx_W V (d + 1) kc ks M pc L S h Q := by
  have z := rx_callSN (mc := 0) (ms := 0) hd w1 w2 hcl hS hw8 K (fun _ _ z => nomatch z.1) (rx_pk k)
  rw [Nat.zero_add, Nat.zero_add] at z
  exact z
end RXP
/-! the repeats of a page, as values -/
def up {α : Type} (f : Nat → α) (i : Nat) (v : α) : Nat → α := fun j => if j = i then v else f j
theorem up_s {α : Type} {f : Nat → α} {i : Nat} {v : α} : up f i v i = v := if_pos rfl
theorem up_o {α : Type} {f : Nat → α} {i j : Nat} {v : α} (h : j ≠ i) : up f i v j = f j := if_neg h
theorem up_va {f : Nat → Option Nat} {i : Nat} {v : Option Nat} : va_up f i v = up f i v := rfl
theorem up_upd {f : Nat → Int32} {i : Nat} {v : Int32} : upd f i v = up f i v := rfl
theorem up_map {f : Nat → Option Nat} {i : Nat} {v : Option Nat} {g : Nat → Nat} : up (fun x => (f x).map g) i (v.map g) = fun x => (up f i v x).map g := by
  funext x
  unfold up
  by_cases e : x = i
  · rw [if_pos e, if_pos e]
  · rw [if_neg e, if_neg e]
/-- whether a bar has a sign -/
def hb (Va : Nat → Int32) (k b : Nat) : Bool := decide (Va (10 * b + k) ≠ 0)
theorem hb_t {Va : Nat → Int32} {k b : Nat} : hb Va k b = true ↔ Va (10 * b + k) ≠ 0 := decide_eq_true_iff
theorem hb_f {Va : Nat → Int32} {k b : Nat} : hb Va k b = false ↔ Va (10 * b + k) = 0 := by
  unfold hb
  rw [decide_eq_false_iff_not, Decidable.not_not]
/-- number, behind, firsts, first ENDs, last ENDs, counts, whose END -/
abbrev gT : Type := Nat × Nat × (Nat → Nat) × (Nat → Nat) × (Nat → Nat) × (Nat → Int32) × (Nat → Option Nat)
def gF (s : gT) : Nat → Nat := s.2.2.1
def gE (s : gT) : Nat → Nat := s.2.2.2.1
def gL (s : gT) : Nat → Nat := s.2.2.2.2.1
def gC (s : gT) : Nat → Int32 := s.2.2.2.2.2.1
def gO (s : gT) : Nat → Option Nat := s.2.2.2.2.2.2
/-- the first bar of a new repeat -/
def gfi (Va : Nat → Int32) (be b : Nat) : Nat := if lwf (hb Va 0) be (b + 1) = -1 then be else (lwf (hb Va 0) be (b + 1)).toNat
def gne (Va : Nat → Int32) (s : gT) (b : Nat) : gT := (s.1 + 1, b + 1, up (gF s) s.1 (gfi Va s.2.1 b), up (gE s) s.1 b, up (gL s) s.1 b, up (gC s) s.1 (Va (10 * b + 1)), up (gO s) b (some s.1))
def ggo (s : gT) (b : Nat) : gT := (s.1, b + 1, gF s, gE s, up (gL s) (s.1 - 1) b, gC s, up (gO s) b (some (s.1 - 1)))
/-- whether an END at b goes on -/
def gon (Va : Nat → Int32) (be b : Nat) : Bool := hb Va 2 be && decide (lwf (hb Va 0) be (b + 1) = -1)
def gsn (Va : Nat → Int32) (s : gT) (b : Nat) : gT := if hb Va 1 b then (if s.1 = 0 ∨ gon Va s.2.1 b = false then gne Va s b else ggo s b) else s
def gst (Va : Nat → Int32) : Nat → gT
  | 0 => (0, 0, fun _ => 0, fun _ => 0, fun _ => 0, fun _ => 0, fun _ => none)
  | b + 1 => gsn Va (gst Va b) b
theorem gsn_0 {Va : Nat → Int32} {s : gT} {b : Nat} (h : hb Va 1 b = false) : gsn Va s b = s := by
  unfold gsn; rw [h]; rfl
theorem gsn_n {Va : Nat → Int32} {s : gT} {b : Nat} (h : hb Va 1 b = true) (h2 : s.1 = 0 ∨ gon Va s.2.1 b = false) : gsn Va s b = gne Va s b := by
  unfold gsn; rw [h, if_pos rfl, if_pos h2]
theorem gsn_g {Va : Nat → Int32} {s : gT} {b : Nat} (h : hb Va 1 b = true) (h1 : s.1 ≠ 0) (h2 : gon Va s.2.1 b = true) : gsn Va s b = ggo s b := by
  unfold gsn; rw [h, if_pos rfl, if_neg (by rw [h2]; simp [h1])]
theorem lwf_ran (Pr : Nat → Bool) (lo : Int) (m : Nat) : lwf Pr lo m = -1 ∨ ∃ j : Nat, lwf Pr lo m = j ∧ lo ≤ j ∧ j < m ∧ Pr j = true := by
  induction m with
  | zero => exact Or.inl rfl
  | succ m ih =>
    by_cases h1 : (m : Int) < lo
    · exact Or.inl (lwf_out h1)
    · cases h2 : Pr m with
      | true => exact Or.inr ⟨m, lwf_yes h1 h2, by omega, by omega, h2⟩
      | false =>
        rw [lwf_no h1 h2]
        obtain ih | ⟨j, e1, e2, e3, e4⟩ := ih
        · exact Or.inl ih
        · exact Or.inr ⟨j, e1, e2, by omega, e4⟩
theorem gfi_ran {Va : Nat → Int32} {be b : Nat} (h : be ≤ b) : be ≤ gfi Va be b ∧ gfi Va be b ≤ b := by
  unfold gfi
  obtain e | ⟨j, e1, e2, e3, e4⟩ := lwf_ran (hb Va 0) be (b + 1)
  · rw [if_pos e]; exact ⟨Nat.le_refl _, h⟩
  · rw [e1, if_neg (by omega)]; omega
/-- what holds after b bars -/
def gI (Va : Nat → Int32) (b : Nat) (s : gT) : Prop :=
  s.1 ≤ b ∧ s.2.1 ≤ b ∧ (s.1 = 0 → s.2.1 = 0) ∧ (∀ r, s.1 = r + 1 → s.2.1 = gL s r + 1) ∧
  (∀ r, r < s.1 → gF s r ≤ gE s r ∧ gE s r ≤ gL s r ∧ gL s r < s.2.1 ∧ gC s r = Va (10 * gE s r + 1) ∧ gO s (gE s r) = some r ∧ gO s (gL s r) = some r) ∧
  (∀ r r', r < r' → r' < s.1 → gL s r < gF s r') ∧
  (∀ x r, gO s x = some r → r < s.1 ∧ gE s r ≤ x ∧ x ≤ gL s r ∧ hb Va 1 x = true) ∧
  (∀ x, x < b → hb Va 1 x = true → ∃ r, gO s x = some r) ∧
  (∀ x r, gO s x = some r → x ≠ gE s r → ∃ y, y < x ∧ gO s y = some r ∧ hb Va 2 (y + 1) = true)
theorem gI_0 (Va : Nat → Int32) : gI Va 0 (gst Va 0) :=
  ⟨Nat.le_refl _, Nat.le_refl _, fun _ => rfl, fun r h => (nomatch h), fun r h => absurd h (Nat.not_lt_zero _), fun r r' _ h => absurd h (Nat.not_lt_zero _), fun x r h => (nomatch h), fun x h => absurd h (Nat.not_lt_zero _), fun x r h => nomatch h⟩
theorem gI_n {Va : Nat → Int32} {b : Nat} {s : gT} (I : gI Va b s) (h : hb Va 1 b = true) : gI Va (b + 1) (gne Va s b) := by
  obtain ⟨i1, i2, i3, i4, i5, i6, i7, i8, i9⟩ := I
  have hg := gfi_ran (Va := Va) i2
  have lo : ∀ r, r < s.1 → gL s r < b := fun r hr => Nat.lt_of_lt_of_le (i5 r hr).2.2.1 i2
  refine ⟨by show s.1 + 1 ≤ b + 1; omega, Nat.le_refl _, fun z => (nomatch z), fun r hr => ?_, fun r hr => ?_, fun r r' h1 h2 => ?_, fun x r hx => ?_, fun x hx h1 => ?_, fun x r hx hne => ?_⟩
  · have e : r = s.1 := by have : s.1 + 1 = r + 1 := hr; omega
    subst e
    show b + 1 = up (gL s) s.1 b s.1 + 1
    rw [up_s]
  · show up (gF s) s.1 (gfi Va s.2.1 b) r ≤ up (gE s) s.1 b r ∧ up (gE s) s.1 b r ≤ up (gL s) s.1 b r ∧ up (gL s) s.1 b r < b + 1 ∧ up (gC s) s.1 (Va (10 * b + 1)) r = Va (10 * (up (gE s) s.1 b r) + 1) ∧ up (gO s) b (some s.1) (up (gE s) s.1 b r) = some r ∧ up (gO s) b (some s.1) (up (gL s) s.1 b r) = some r
    have hr' : r < s.1 + 1 := hr
    by_cases e : r = s.1
    · subst e
      rw [up_s, up_s, up_s, up_s, up_s]
      exact ⟨hg.2, Nat.le_refl _, Nat.lt_succ_self _, rfl, rfl, rfl⟩
    · have l := lo r (by omega)
      obtain ⟨j1, j2, j3, j4, j5, j6⟩ := i5 r (by omega)
      rw [up_o e, up_o e, up_o e, up_o e, up_o (by omega), up_o (by omega)]
      exact ⟨j1, j2, by omega, j4, j5, j6⟩
  · show up (gL s) s.1 b r < up (gF s) s.1 (gfi Va s.2.1 b) r'
    have h2' : r' < s.1 + 1 := h2
    rw [up_o (by omega)]
    by_cases e : r' = s.1
    · subst e
      rw [up_s]
      have := (i5 r h1).2.2.1
      omega
    · rw [up_o e]
      exact i6 r r' h1 (by omega)
  · have hx' : up (gO s) b (some s.1) x = some r := hx
    show r < s.1 + 1 ∧ up (gE s) s.1 b r ≤ x ∧ x ≤ up (gL s) s.1 b r ∧ _
    by_cases e : x = b
    · subst e
      rw [up_s] at hx'
      cases hx'
      rw [up_s, up_s]
      exact ⟨Nat.lt_succ_self _, Nat.le_refl _, Nat.le_refl _, h⟩
    · rw [up_o e] at hx'
      obtain ⟨j1, j2, j3, j4⟩ := i7 x r hx'
      rw [up_o (by omega), up_o (by omega)]
      exact ⟨by omega, j2, j3, j4⟩
  · show ∃ r, up (gO s) b (some s.1) x = some r
    by_cases e : x = b
    · subst e
      exact ⟨_, up_s⟩
    · rw [up_o e]
      exact i8 x (by omega) h1
  · have hx' : up (gO s) b (some s.1) x = some r := hx
    have hne' : x ≠ up (gE s) s.1 b r := hne
    show ∃ y, y < x ∧ up (gO s) b (some s.1) y = some r ∧ _
    by_cases e : x = b
    · subst e
      rw [up_s] at hx'
      cases hx'
      rw [up_s] at hne'
      exact absurd rfl hne'
    · rw [up_o e] at hx'
      obtain ⟨j1, j2, j3, j4⟩ := i7 x r hx'
      rw [up_o (by omega)] at hne'
      obtain ⟨y, y1, y2, y3⟩ := i9 x r hx' hne'
      have := lo r j1
      exact ⟨y, y1, by rw [up_o (by omega)]; exact y2, y3⟩
theorem gI_g {Va : Nat → Int32} {b : Nat} {s : gT} (I : gI Va b s) (h : hb Va 1 b = true) (h0 : s.1 ≠ 0) (h2 : gon Va s.2.1 b = true) : gI Va (b + 1) (ggo s b) := by
  obtain ⟨i1, i2, i3, i4, i5, i6, i7, i8, i9⟩ := I
  have lo : ∀ r, r < s.1 → gL s r < b := fun r hr => Nat.lt_of_lt_of_le (i5 r hr).2.2.1 i2
  obtain ⟨q, hq⟩ : ∃ q, s.1 = q + 1 := ⟨s.1 - 1, by omega⟩
  have hq1 : s.1 - 1 = q := by omega
  have h2' : hb Va 2 s.2.1 = true := by
    unfold gon at h2
    cases z : hb Va 2 s.2.1 with
    | true => rfl
    | false => rw [z] at h2; cases h2
  refine ⟨by show s.1 ≤ b + 1; omega, Nat.le_refl _, fun z => absurd z h0, fun r hr => ?_, fun r hr => ?_, fun r r' h1 h2 => ?_, fun x r hx => ?_, fun x hx h1 => ?_, fun x r hx hne => ?_⟩
  · have e : r = s.1 - 1 := by have : s.1 = r + 1 := hr; omega
    subst e
    show b + 1 = up (gL s) (s.1 - 1) b (s.1 - 1) + 1
    rw [up_s]
  · show gF s r ≤ gE s r ∧ gE s r ≤ up (gL s) (s.1 - 1) b r ∧ up (gL s) (s.1 - 1) b r < b + 1 ∧ _ ∧ up (gO s) b (some (s.1 - 1)) (gE s r) = some r ∧ up (gO s) b (some (s.1 - 1)) (up (gL s) (s.1 - 1) b r) = some r
    have hr' : r < s.1 := hr
    have l := lo r hr'
    obtain ⟨j1, j2, j3, j4, j5, j6⟩ := i5 r hr'
    rw [up_o (f := gO s) (show gE s r ≠ b by omega)]
    by_cases e : r = s.1 - 1
    · subst e
      rw [up_s, up_s]
      exact ⟨j1, by omega, Nat.lt_succ_self _, j4, j5, rfl⟩
    · rw [up_o e, up_o (by omega)]
      exact ⟨j1, j2, by omega, j4, j5, j6⟩
  · show up (gL s) (s.1 - 1) b r < gF s r'
    have h2' : r' < s.1 := h2
    rw [up_o (by omega)]
    exact i6 r r' h1 h2'
  · have hx' : up (gO s) b (some (s.1 - 1)) x = some r := hx
    show r < s.1 ∧ gE s r ≤ x ∧ x ≤ up (gL s) (s.1 - 1) b r ∧ _
    by_cases e : x = b
    · subst e
      rw [up_s] at hx'
      cases hx'
      rw [up_s]
      have l := lo (s.1 - 1) (by omega)
      have j := (i5 (s.1 - 1) (by omega)).2.1
      exact ⟨by omega, by omega, Nat.le_refl _, h⟩
    · rw [up_o e] at hx'
      obtain ⟨j1, j2, j3, j4⟩ := i7 x r hx'
      refine ⟨j1, j2, ?_, j4⟩
      by_cases e2 : r = s.1 - 1
      · subst e2
        rw [up_s]
        have l := lo (s.1 - 1) j1
        omega
      · rw [up_o e2]
        exact j3
  · show ∃ r, up (gO s) b (some (s.1 - 1)) x = some r
    by_cases e : x = b
    · subst e
      exact ⟨_, up_s⟩
    · rw [up_o e]
      exact i8 x (by omega) h1
  · have hx' : up (gO s) b (some (s.1 - 1)) x = some r := hx
    show ∃ y, y < x ∧ up (gO s) b (some (s.1 - 1)) y = some r ∧ _
    by_cases e : x = b
    · subst e
      rw [up_s] at hx'
      cases hx'
      have l := lo (s.1 - 1) (by omega)
      refine ⟨gL s (s.1 - 1), l, ?_, ?_⟩
      · rw [up_o (by omega)]
        exact (i5 (s.1 - 1) (by omega)).2.2.2.2.2
      · rw [← i4 (s.1 - 1) (by omega)]
        exact h2'
    · rw [up_o e] at hx'
      obtain ⟨j1, j2, j3, j4⟩ := i7 x r hx'
      obtain ⟨y, y1, y2, y3⟩ := i9 x r hx' hne
      have := lo r j1
      exact ⟨y, y1, by rw [up_o (by omega)]; exact y2, y3⟩
theorem gI_b (Va : Nat → Int32) : ∀ b, gI Va b (gst Va b) := by
  intro b
  induction b with
  | zero => exact gI_0 Va
  | succ b ih =>
    show gI Va (b + 1) (gsn Va (gst Va b) b)
    cases h : hb Va 1 b with
    | false =>
      rw [gsn_0 h]
      obtain ⟨i1, i2, i3, i4, i5, i6, i7, i8, i9⟩ := ih
      refine ⟨by omega, by omega, i3, i4, i5, i6, i7, fun x hx h1 => ?_, i9⟩
      by_cases e : x = b
      · rw [e, h] at h1; cases h1
      · exact i8 x (by omega) h1
    | true =>
      by_cases h2 : (gst Va b).1 = 0 ∨ gon Va (gst Va b).2.1 b = false
      · rw [gsn_n h h2]
        exact gI_n ih h
      · rw [gsn_g h (fun z => h2 (Or.inl z)) (by cases z : gon Va (gst Va b).2.1 b with | true => rfl | false => exact absurd (Or.inr z) h2)]
        exact gI_g ih h (fun z => h2 (Or.inl z)) (by cases z : gon Va (gst Va b).2.1 b with | true => rfl | false => exact absurd (Or.inr z) h2)
end
section
/-! Repeats.gatherEnds -/
theorem pgv_k {n b k : Nat} {Va : Nat → Int32} {kk : Int32} (hn : n ≤ 20) (h : b < n) (hk : k < 10) (e : kk = nI k) : pgv n Va (nI b) kk = Va (10 * b + k) := by rw [e]; exact pgv_n hn h hk
theorem lwi_n {n k f b : Nat} {Va : Nat → Int32} (hn : n ≤ 20) (hf : f ≤ 1000) (h : b < n) : lwi n Va k (nI f) (nI b) = Int32.ofInt (lwf (hb Va k) f (b + 1)) := by
  unfold lwi
  rw [i_n (by omega), i_n (by omega), show max (f : Int) 0 = f from by omega, show ((min (b : Int) ((n : Int) - 1)) + 1).toNat = b + 1 from by omega]
  rfl
theorem ofI_m1 {x : Int} {j : Nat} (h : x = j) (hj : j ≤ 1000000) : Int32.ofInt x ≠ -1 := by
  rw [h, i_ofI]
  intro z
  have := congrArg Int32.toInt z
  rw [i_n hj, i_m1] at this
  omega
theorem lwi_m1 {n k f b : Nat} {Va : Nat → Int32} (hn : n ≤ 20) (hf : f ≤ 1000) (h : b < n) : lwi n Va k (nI f) (nI b) = -1 ↔ lwf (hb Va k) f (b + 1) = -1 := by
  rw [lwi_n hn hf h]
  obtain e | ⟨j, e1, e2, e3, e4⟩ := lwf_ran (hb Va k) f (b + 1)
  · rw [e]; exact ⟨fun _ => rfl, fun _ => rfl⟩
  · exact ⟨fun z => absurd z (ofI_m1 e1 (by omega)), fun z => by omega⟩
theorem lwi_gfi {n f b : Nat} {Va : Nat → Int32} (hn : n ≤ 20) (hf : f ≤ 1000) (h : b < n) : (if lwi n Va 0 (nI f) (nI b) = -1 then nI f else lwi n Va 0 (nI f) (nI b)) = nI (gfi Va f b) := by
  unfold gfi
  obtain e | ⟨j, e1, e2, e3, e4⟩ := lwf_ran (hb Va 0) f (b + 1)
  · rw [if_pos ((lwi_m1 hn hf h).mpr e), if_pos e]
  · rw [if_neg (fun z => by have := (lwi_m1 hn hf h).mp z; omega), if_neg (by omega), lwi_n hn hf h, e1, i_ofI]
    rfl
theorem is_rp.setE {V : rx_V} {h : List va_E} {a n aA aE aG num : Nat} {fA fE fG f' : Nat → Option Nat} {ra : Nat → Nat} {R : Nat → Nat → Int32} (H : is_rp V h a n aA aE aG num fA fE fG ra R) (d1 : aA ≠ aE) (d2 : aG ≠ aE) : is_rp V (rx_wr V h aE (.inl (V.2.2.2.1 3, n, .inr (.inr (.inr (.inr f')))))) a n aA aE aG num fA f' fG ra R := by
  obtain ⟨h1, h2, h3, h4, h5, h6, h7, h8, h9⟩ := H
  exact ⟨(rx_rd_wn h3 (rx_ne h1 h3 (fun z => by cases z))).trans h1, (rx_rd_wn h3 d1).trans h2, rx_rd_wr h3, (rx_rd_wn h3 d2).trans h4, h5, fun r hr => (rx_rd_wn h3 (rx_ne (h6 r hr) h3 (fun z => by cases z))).trans (h6 r hr), h7, h8, h9⟩
theorem is_rp.setG {V : rx_V} {h : List va_E} {a n aA aE aG num : Nat} {fA fE fG f' : Nat → Option Nat} {ra : Nat → Nat} {R : Nat → Nat → Int32} (H : is_rp V h a n aA aE aG num fA fE fG ra R) (d1 : aA ≠ aG) (d2 : aE ≠ aG) : is_rp V (rx_wr V h aG (.inl (V.2.2.2.1 3, n, .inr (.inr (.inr (.inr f')))))) a n aA aE aG num fA fE f' ra R := by
  obtain ⟨h1, h2, h3, h4, h5, h6, h7, h8, h9⟩ := H
  exact ⟨(rx_rd_wn h4 (rx_ne h1 h4 (fun z => by cases z))).trans h1, (rx_rd_wn h4 d1).trans h2, (rx_rd_wn h4 d2).trans h3, rx_rd_wr h4, h5, fun r hr => (rx_rd_wn h4 (rx_ne (h6 r hr) h4 (fun z => by cases z))).trans (h6 r hr), h7, h8, h9⟩
/-- the places that gathering may write -/
def fp_g (a n aE aG : Nat) (ra : Nat → Nat) : Nat → Prop := fun q => q = a ∨ q = aE ∨ q = aG ∨ fp_ra n ra q
theorem fp_g_rp {a n aE aG : Nat} {ra : Nat → Nat} : ∀ q, fp_rp a n ra q → fp_g a n aE aG ra q := fun q z => z.elim (fun e => Or.inl e) (fun e => Or.inr (Or.inr (Or.inr e)))
theorem fp_g_ra {a n aE aG : Nat} {ra : Nat → Nat} : ∀ q, fp_ra n ra q → fp_g a n aE aG ra q := fun q z => Or.inr (Or.inr (Or.inr z))
theorem is_rp.nog {V : rx_V} {h : List va_E} {a n aA aE aG num : Nat} {fA fE fG : Nat → Option Nat} {ra : Nat → Nat} {R : Nat → Nat → Int32} (H : is_rp V h a n aA aE aG num fA fE fG ra R) {q : Nat} {e : va_E} (he : rx_rd V h q = some e) (h1 : ∀ fs, e ≠ .inr (3, fs)) (h2 : ∀ fs, e ≠ .inr (4, fs)) (h3 : ∀ c m f, e ≠ .inl (c, m, .inr (.inr (.inr (.inr f))))) : ¬ fp_g a n aE aG ra q := by
  rintro (z | z | z | ⟨r, hr, z⟩)
  · exact rx_ne he H.1 (h1 _) z
  · exact rx_ne he H.2.2.1 (h3 _ _ _) z
  · exact rx_ne he H.2.2.2.1 (h3 _ _ _) z
  · exact rx_ne he (H.2.2.2.2.2.1 r hr) (h2 _) z
theorem is_pg.frg {V : rx_V} {h h' : List va_E} {aP n al at_ av a n' aA aE aG num : Nat} {Le Te Va : Nat → Int32} {fA fE fG : Nat → Option Nat} {ra : Nat → Nat} {R : Nat → Nat → Int32} (hp : is_pg V h aP n al at_ av Le Te Va) (H : is_rp V h a n' aA aE aG num fA fE fG ra R) (hf : rx_fr V h h' (fp_g a n' aE aG ra)) : is_pg V h' aP n al at_ av Le Te Va :=
  hp.fr hf (H.nog hp.1 (fun _ z => by cases z) (fun _ z => by cases z) (fun _ _ _ z => by cases z)) (H.nog hp.2.1 (fun _ z => by cases z) (fun _ z => by cases z) (fun _ _ _ z => by cases z)) (H.nog hp.2.2.1 (fun _ z => by cases z) (fun _ z => by cases z) (fun _ _ _ z => by cases z)) (H.nog hp.2.2.2.1 (fun _ z => by cases z) (fun _ z => by cases z) (fun _ _ _ z => by cases z))
/-- what the Repeat objects hold when the ENDs are gathered -/
def rof (s : gT) (R : Nat → Nat → Int32) : Prop := ∀ r, r < s.1 → R r 0 = nI (gF s r) ∧ R r 1 = nI (gE s r) ∧ R r 2 = nI (gL s r) ∧ R r 3 = -1 ∧ R r 4 = -1 ∧ R r 5 = gC s r
def grf (s : gT) (ra : Nat → Nat) : Option Nat := if s.1 = 0 then none else some (ra (s.1 - 1))
theorem rof_n {Va : Nat → Int32} {s : gT} {R : Nat → Nat → Int32} {b : Nat} {x0 : Int32} {x5 : Int32} (hr : rof s R) (h0 : x0 = nI (gfi Va s.2.1 b)) (h5 : x5 = Va (10 * b + 1)) : rof (gne Va s b) (rup (rsu R s.1 (upd (upd (upd (upd (upd (R s.1) 0 x0) 1 (nI b)) 3 (-1)) 4 (-1)) 5 x5)) s.1 2 (nI b)) := by
  intro r hlt
  have hlt' : r < s.1 + 1 := hlt
  show _ = nI (up (gF s) s.1 (gfi Va s.2.1 b) r) ∧ _ = nI (up (gE s) s.1 b r) ∧ _ = nI (up (gL s) s.1 b r) ∧ _ ∧ _ ∧ _ = up (gC s) s.1 (Va (10 * b + 1)) r
  by_cases e : r = s.1
  · subst e
    rw [up_s, up_s, up_s, up_s, rup_s, rup_k (by omega), rup_k (by omega), rup_k (by omega), rup_k (by omega), rup_k (by omega), rsu_s]
    exact ⟨h0, rfl, rfl, rfl, rfl, h5⟩
  · rw [up_o e, up_o e, up_o e, up_o e, rup_o e, rsu_o e]
    exact hr r (by omega)
theorem rof_g {s : gT} {R : Nat → Nat → Int32} {b : Nat} (hr : rof s R) : rof (ggo s b) (rup R (s.1 - 1) 2 (nI b)) := by
  intro r hlt
  have hlt' : r < s.1 := hlt
  show _ = nI (gF s r) ∧ _ = nI (gE s r) ∧ _ = nI (up (gL s) (s.1 - 1) b r) ∧ _ ∧ _ ∧ _ = gC s r
  obtain ⟨j1, j2, j3, j4, j5, j6⟩ := hr r hlt'
  by_cases e : r = s.1 - 1
  · subst e
    rw [up_s, rup_s, rup_k (by omega), rup_k (by omega), rup_k (by omega), rup_k (by omega), rup_k (by omega)]
    exact ⟨j1, j2, rfl, j4, j5, j6⟩
  · rw [up_o e, rup_o e]
    exact ⟨j1, j2, j3, j4, j5, j6⟩
section GE
variable {V : rx_V} {d kc ks a n aA aE aG num q aP al at_ av : Nat} {h : List va_E} {fA fE fG : Nat → Option Nat} {ra : Nat → Nat} {R : Nat → Nat → Int32} {Le Te Va : Nat → Int32} {Q : rx_R → List va_E → Prop}
theorem l_ge76 {r b : Nat} (hD : aA ≠ aE ∧ aA ≠ aG ∧ aE ≠ aG) (H : is_rp V h a n aA aE aG num fA fE fG ra R) (hr : r < n) (hbn : b < n)
    (k : ∀ h4, is_rp V h4 a n aA aE aG num fA (up fE b (some (ra r))) fG ra (rup R r 2 (nI b)) → rx_fr V h h4 (fp_g a n aE aG ra) → rx_W V d kc ks m_Repeats_gatherEnds 4 [some (.ref a), some (.ref aP), some (.ref (ra r)), some (.int (nI (b + 1)))] [] h4 Q) :
    rx_W V d kc ks m_Repeats_gatherEnds 76 [some (.ref a), some (.ref aP), some (.ref (ra r)), some (.int (nI b))] [] h Q := by
  have hn : n ≤ 20 := H.2.2.2.2.2.2.2.2
  have hc := H.2.2.2.2.2.1 r hr
  have H3 := H.set (X := upd (R r) 2 (nI b)) hr (R' := rup R r 2 (nI b)) (fun k _ => by rw [rup_u]) (fun r' e => rup_o e)
  refine rx_aload_nr d_Repeats_gatherEnds_76 (by rfl) ?_
  refine rx_iload_n d_Repeats_gatherEnds_77 (by rfl) ?_
  refine rx_putfield d_Repeats_gatherEnds_78 (fw_Repeats_46 rfl) hc (Nat.le_of_ble_eq_true rfl) (by rfl) (by rfl) ?_
  have H3 := H.set (X := upd (R r) 2 (nI b)) hr (R' := rup R r 2 (nI b)) (fun k _ => by rw [rup_u]) (fun r' e => rup_o e)
  refine rx_aload_nr d_Repeats_gatherEnds_81 (by rfl) ?_
  refine rx_getfield d_Repeats_gatherEnds_82 fl_Repeats_17 H3.1 (by rfl) ?_
  refine rx_iload_n d_Repeats_gatherEnds_85 (by rfl) ?_
  refine rx_aload_nr d_Repeats_gatherEnds_86 (by rfl) ?_
  refine rx_aastore (r := ("ScoreRoads$Repeat", F_Repeat, 7)) d_Repeats_gatherEnds_87 (by rfl) H3.2.2.1 (H3.2.2.2.2.2.1 r hr) (by rfl) (vp_in_nI hbn (by omega)) ?_
  rw [i_cl (by omega)]
  refine rx_iinc (v := nI (b + 1)) d_Repeats_gatherEnds_88 (by rfl) (i_inc b) ?_
  refine rx_goto (tgt := 4) d_Repeats_gatherEnds_91 (by rfl) ?_
  exact k _ (H3.setE hD.1 (Ne.symm hD.2.2)) ((rx_fr.wr hc (Or.inr (Or.inr (Or.inr ⟨r, hr, rfl⟩)))).tr (rx_fr.wr H3.2.2.1 (Or.inr (Or.inl rfl))))
theorem l_gatherEnds (hD : aA ≠ aE ∧ aA ≠ aG ∧ aE ≠ aG) (hp : is_pg V h aP n al at_ av Le Te Va) {num0 : Nat} {fE0 : Nat → Option Nat} {R0 : Nat → Nat → Int32} (H0 : is_rp V h a n aA aE aG num0 fA fE0 fG ra R0) : ∀ (m b : Nat) (h1 : List va_E) (R1 : Nat → Nat → Int32), b + m = n → is_rp V h1 a n aA aE aG (gst Va b).1 fA (fun x => (gO (gst Va b) x).map ra) fG ra R1 → rof (gst Va b) R1 → rx_fr V h h1 (fp_g a n aE aG ra) →
    rx_W V (d + 3) kc ks m_Repeats_gatherEnds 4 [some (.ref a), some (.ref aP), some (va_rf (grf (gst Va b) ra)), some (.int (nI b))] [] h1 (fun r h' => r = .inl none ∧ ∃ R', is_rp V h' a n aA aE aG (gst Va n).1 fA (fun x => (gO (gst Va n) x).map ra) fG ra R' ∧ rof (gst Va n) R' ∧ rx_fr V h h' (fp_g a n aE aG ra)) := by
  intro m
  induction m with
  | zero =>
    intro b h1 R1 hb9 H hr hf
    have hi9 : b = n := by omega
    subst hi9
    refine rx_iload_n d_Repeats_gatherEnds_4 (by rfl) ?_
    refine rx_aload_nr d_Repeats_gatherEnds_5 (by rfl) ?_
    refine rx_getfield d_Repeats_gatherEnds_6 fl_Repeats_17 H.1 (by rfl) ?_
    refine rx_alen d_Repeats_gatherEnds_9 (by rfl) H.2.2.1 ?_
    refine rx_icmp_ge (tgt := 94) d_Repeats_gatherEnds_10 (by rfl) (fun c10 => ?_) (fun z => absurd (show nI b ≤ nI b from Int32.le_refl _) z)
    refine rx_vreturn d_Repeats_gatherEnds_94 (by rfl) ?_
    exact ⟨rfl, R1, H, hr, hf⟩
  | succ m ih =>
    intro b h1 R1 hb9 H hr hf
    have hlt : b < n := by omega
    have hn : n ≤ 20 := H.2.2.2.2.2.2.2.2
    have hp1 := hp.frg H0 hf
    have I := gI_b Va b
    have hv1 : pgv n Va (nI b) 1 = Va (10 * b + 1) := pgv_k hn hlt (by omega) rfl
    have hgs : gst Va (b + 1) = gsn Va (gst Va b) b := rfl
    by_cases h0 : (gst Va b).1 = 0
    · rw [show grf (gst Va b) ra = none from if_pos h0]
      show rx_W V (d + 3) kc ks m_Repeats_gatherEnds 4 [some (.ref a), some (.ref aP), some .null, some (.int (nI b))] [] h1 _
      refine rx_iload_n d_Repeats_gatherEnds_4 (by rfl) ?_
      refine rx_aload_nr d_Repeats_gatherEnds_5 (by rfl) ?_
      refine rx_getfield d_Repeats_gatherEnds_6 fl_Repeats_17 H.1 (by rfl) ?_
      refine rx_alen d_Repeats_gatherEnds_9 (by rfl) H.2.2.1 ?_
      refine rx_icmp_ge (tgt := 94) d_Repeats_gatherEnds_10 (by rfl) (fun z => absurd z (nI_ge hlt (by omega))) (fun c10 => ?_)
      refine rx_aload_nr d_Repeats_gatherEnds_13 (by rfl) ?_
      refine rx_iload_n d_Repeats_gatherEnds_14 (by rfl) ?_
      refine rx_iconst (v := 1) d_Repeats_gatherEnds_15 (by decide) ?_
      refine rx_cV d_Repeats_gatherEnds_16 (by rfl) ml_Repeats_36 im_Page_has se_Page_has (by exact c9_Page_has) hp1.1 (by rfl) (by exact Nat.le_of_ble_eq_true rfl) (c_has hp1 (nI b) 1) ?_
      rw [hv1]
      refine rx_if_eq (tgt := 88) d_Repeats_gatherEnds_19 (by rfl) (fun c19 => ?_) (fun c19 => ?_)
      · have hz : hb Va 1 b = false := hb_f.mpr (ite01.mp c19)
        refine rx_iinc (v := nI (b + 1)) d_Repeats_gatherEnds_88 (by rfl) (i_inc b) ?_
        refine rx_goto (tgt := 4) d_Repeats_gatherEnds_91 (by rfl) ?_
        have z := ih (b + 1) h1 R1 (by omega)
        rw [hgs, gsn_0 hz] at z
        have z2 := z H hr hf
        rw [show grf (gst Va b) ra = none from if_pos h0] at z2
        exact z2
      · have hz : hb Va 1 b = true := hb_t.mpr (fun w => c19 (ite01.mpr w))
        refine rx_aload_nr d_Repeats_gatherEnds_22 (by rfl) ?_
        refine rx_getfield d_Repeats_gatherEnds_23 fl_Repeats_24 H.1 (by rfl) ?_
        refine rx_aload_nr d_Repeats_gatherEnds_26 (by rfl) ?_
        refine rx_getfield d_Repeats_gatherEnds_27 fl_Repeats_11 H.1 (by rfl) ?_
        refine rx_alen d_Repeats_gatherEnds_30 (by rfl) H.2.1 ?_
        refine rx_icmp_ge (tgt := 88) d_Repeats_gatherEnds_31 (by rfl) (fun z => absurd z (nI_ge (Nat.lt_of_le_of_lt I.1 hlt) (by omega))) (fun c31 => ?_)
        refine rx_aload_nN d_Repeats_gatherEnds_34 (by rfl) ?_
        refine rx_ifnonnull_N (tgt := 49) d_Repeats_gatherEnds_35 (by rfl) ?_
        refine rx_aload_nr d_Repeats_gatherEnds_38 (by rfl) ?_
        refine rx_aload_nr d_Repeats_gatherEnds_39 (by rfl) ?_
        refine rx_iconst (v := 0) d_Repeats_gatherEnds_40 (by decide) ?_
        refine rx_iload_n d_Repeats_gatherEnds_41 (by rfl) ?_
        refine rx_pV d_Repeats_gatherEnds_42 (by rfl) ml_Repeats_42 im_Repeats_begin se_Repeats_begin (by exact c9_Repeats_begin) H.1 (by rfl) (by exact Nat.le_of_ble_eq_true rfl) (c_begin hp1 H (Nat.lt_of_le_of_lt I.1 hlt) 0 (nI b) rfl) ?_
        intro h2 z9
        obtain ⟨H2, f2⟩ := z9
        refine rx_astore_nr d_Repeats_gatherEnds_45 (Nat.le_of_ble_eq_true rfl) ?_
        refine rx_goto (tgt := 76) d_Repeats_gatherEnds_46 (by rfl) ?_
        refine l_ge76 hD H2 (Nat.lt_of_le_of_lt I.1 hlt) hlt (fun h4 H4 f4 => ?_)
        have z := fun R9 => ih (b + 1) h4 R9 (by omega)
        have hbe : (gst Va b).2.1 = 0 := I.2.2.1 h0
        rw [hgs, gsn_n hz (Or.inl h0)] at z
        have z2 := z _ (by have w := H4; rw [show (some (ra (gst Va b).1) : Option Nat) = (some (gst Va b).1).map ra from rfl, up_map] at w; exact w) (rof_n hr (by rw [hbe]; exact lwi_gfi (f := 0) hn (by decide) hlt) hv1) ((hf.tr (f2.mo fp_g_rp)).tr f4)
        exact z2
    · rw [show grf (gst Va b) ra = some (ra ((gst Va b).1 - 1)) from if_neg h0]
      show rx_W V (d + 3) kc ks m_Repeats_gatherEnds 4 [some (.ref a), some (.ref aP), some (.ref (ra ((gst Va b).1 - 1))), some (.int (nI b))] [] h1 _
      have hq : (gst Va b).1 - 1 < (gst Va b).1 := by omega
      have hqn : (gst Va b).1 - 1 < n := Nat.lt_of_lt_of_le hq (Nat.le_trans I.1 (Nat.le_of_lt hlt))
      have hc := H.2.2.2.2.2.1 _ hqn
      have hL : R1 ((gst Va b).1 - 1) 2 + 1 = nI (gst Va b).2.1 := by
        rw [(hr _ hq).2.2.1, nI_1, I.2.2.2.1 _ (show (gst Va b).1 = ((gst Va b).1 - 1) + 1 by omega)]
      have hbe : (gst Va b).2.1 ≤ b := I.2.1
      have hv2 : pgv n Va (nI (gst Va b).2.1) 2 = Va (10 * (gst Va b).2.1 + 2) := pgv_k hn (by omega) (by omega) rfl
      refine rx_iload_n d_Repeats_gatherEnds_4 (by rfl) ?_
      refine rx_aload_nr d_Repeats_gatherEnds_5 (by rfl) ?_
      refine rx_getfield d_Repeats_gatherEnds_6 fl_Repeats_17 H.1 (by rfl) ?_
      refine rx_alen d_Repeats_gatherEnds_9 (by rfl) H.2.2.1 ?_
      refine rx_icmp_ge (tgt := 94) d_Repeats_gatherEnds_10 (by rfl) (fun z => absurd z (nI_ge hlt (by omega))) (fun c10 => ?_)
      refine rx_aload_nr d_Repeats_gatherEnds_13 (by rfl) ?_
      refine rx_iload_n d_Repeats_gatherEnds_14 (by rfl) ?_
      refine rx_iconst (v := 1) d_Repeats_gatherEnds_15 (by decide) ?_
      refine rx_cV d_Repeats_gatherEnds_16 (by rfl) ml_Repeats_36 im_Page_has se_Page_has (by exact c9_Page_has) hp1.1 (by rfl) (by exact Nat.le_of_ble_eq_true rfl) (c_has hp1 (nI b) 1) ?_
      rw [hv1]
      refine rx_if_eq (tgt := 88) d_Repeats_gatherEnds_19 (by rfl) (fun c19 => ?_) (fun c19 => ?_)
      · have hz : hb Va 1 b = false := hb_f.mpr (ite01.mp c19)
        refine rx_iinc (v := nI (b + 1)) d_Repeats_gatherEnds_88 (by rfl) (i_inc b) ?_
        refine rx_goto (tgt := 4) d_Repeats_gatherEnds_91 (by rfl) ?_
        have z := ih (b + 1) h1 R1 (by omega)
        rw [hgs, gsn_0 hz] at z
        have z2 := z H hr hf
        rw [show grf (gst Va b) ra = some (ra ((gst Va b).1 - 1)) from if_neg h0] at z2
        exact z2
      · have hz : hb Va 1 b = true := hb_t.mpr (fun w => c19 (ite01.mpr w))
        refine rx_aload_nr d_Repeats_gatherEnds_22 (by rfl) ?_
        refine rx_getfield d_Repeats_gatherEnds_23 fl_Repeats_24 H.1 (by rfl) ?_
        refine rx_aload_nr d_Repeats_gatherEnds_26 (by rfl) ?_
        refine rx_getfield d_Repeats_gatherEnds_27 fl_Repeats_11 H.1 (by rfl) ?_
        refine rx_alen d_Repeats_gatherEnds_30 (by rfl) H.2.1 ?_
        refine rx_icmp_ge (tgt := 88) d_Repeats_gatherEnds_31 (by rfl) (fun z => absurd z (nI_ge (Nat.lt_of_le_of_lt I.1 hlt) (by omega))) (fun c31 => ?_)
        refine rx_aload_nr d_Repeats_gatherEnds_34 (by rfl) ?_
        refine rx_ifnonnull_r (tgt := 49) d_Repeats_gatherEnds_35 (by rfl) ?_
        refine rx_aload_nr d_Repeats_gatherEnds_49 (by rfl) ?_
        refine rx_aload_nr d_Repeats_gatherEnds_50 (by rfl) ?_
        refine rx_getfield d_Repeats_gatherEnds_51 fl_Repeats_46 hc (by rfl) ?_
        refine rx_iconst (v := 1) d_Repeats_gatherEnds_54 (by decide) ?_
        refine rx_iadd d_Repeats_gatherEnds_55 ?_
        rw [hL]
        refine rx_iload_n d_Repeats_gatherEnds_56 (by rfl) ?_
        refine rx_cS d_Repeats_gatherEnds_57 ml_Repeats_49 st_Repeats_goesOn (by exact c9_Repeats_goesOn) (by rfl) (by exact Nat.le_of_ble_eq_true rfl) (c_goesOn hp1 (nI (gst Va b).2.1) (nI b)) ?_
        rw [hv2]
        refine rx_if_ne (tgt := 76) d_Repeats_gatherEnds_60 (by rfl) (fun c60 => ?_) (fun c60 => ?_)
        · have hg : gon Va (gst Va b).2.1 b = true := by
            have w := ite11.mp c60
            unfold gon
            rw [hb_t.mpr w.1, decide_eq_true ((lwi_m1 hn (by omega) hlt).mp w.2)]
            rfl
          first
          | refine l_ge76 hD H2 (Nat.lt_of_le_of_lt I.1 hlt) hlt (fun h4 H4 f4 => ?_)
            have z := fun R9 => ih (b + 1) h4 R9 (by omega)
            rw [hgs, gsn_n hz (Or.inr hg)] at z
            have z2 := z _ (by have w := H4; rw [show (some (ra (gst Va b).1) : Option Nat) = (some (gst Va b).1).map ra from rfl, up_map] at w; exact w) (rof_n hr (lwi_gfi hn (by omega) hlt) hv1) ((hf.tr (f2.mo fp_g_rp)).tr f4)
            exact z2
          | refine l_ge76 hD H hqn hlt (fun h4 H4 f4 => ?_)
            have z := fun R9 => ih (b + 1) h4 R9 (by omega)
            rw [hgs, gsn_g hz h0 hg] at z
            have z2 := z _ (by have w := H4; rw [show (some (ra ((gst Va b).1 - 1)) : Option Nat) = (some ((gst Va b).1 - 1)).map ra from rfl, up_map] at w; exact w) (rof_g hr) (hf.tr f4)
            rw [show grf (ggo (gst Va b) b) ra = some (ra ((gst Va b).1 - 1)) from if_neg h0] at z2
            exact z2
        · have hg : gon Va (gst Va b).2.1 b = false := by
            have w := ite10.mp c60
            unfold gon
            cases w2 : hb Va 2 (gst Va b).2.1 with
            | false => rfl
            | true => exact decide_eq_false (fun w3 => w ⟨hb_t.mp w2, (lwi_m1 hn (by omega) hlt).mpr w3⟩)
          refine rx_aload_nr d_Repeats_gatherEnds_63 (by rfl) ?_
          refine rx_aload_nr d_Repeats_gatherEnds_64 (by rfl) ?_
          refine rx_aload_nr d_Repeats_gatherEnds_65 (by rfl) ?_
          refine rx_getfield d_Repeats_gatherEnds_66 fl_Repeats_46 hc (by rfl) ?_
          refine rx_iconst (v := 1) d_Repeats_gatherEnds_69 (by decide) ?_
          refine rx_iadd d_Repeats_gatherEnds_70 ?_
          rw [hL]
          refine rx_iload_n d_Repeats_gatherEnds_71 (by rfl) ?_
          refine rx_pV d_Repeats_gatherEnds_72 (by rfl) ml_Repeats_42 im_Repeats_begin se_Repeats_begin (by exact c9_Repeats_begin) H.1 (by rfl) (by exact Nat.le_of_ble_eq_true rfl) (c_begin hp1 H (Nat.lt_of_le_of_lt I.1 hlt) (nI (gst Va b).2.1) (nI b) rfl) ?_
          intro h2 z9
          obtain ⟨H2, f2⟩ := z9
          refine rx_astore_nr d_Repeats_gatherEnds_75 (Nat.le_of_ble_eq_true rfl) ?_
          first
          | refine l_ge76 hD H2 (Nat.lt_of_le_of_lt I.1 hlt) hlt (fun h4 H4 f4 => ?_)
            have z := fun R9 => ih (b + 1) h4 R9 (by omega)
            rw [hgs, gsn_n hz (Or.inr hg)] at z
            have z2 := z _ (by have w := H4; rw [show (some (ra (gst Va b).1) : Option Nat) = (some (gst Va b).1).map ra from rfl, up_map] at w; exact w) (rof_n hr (lwi_gfi hn (by omega) hlt) hv1) ((hf.tr (f2.mo fp_g_rp)).tr f4)
            exact z2
          | refine l_ge76 hD H hqn hlt (fun h4 H4 f4 => ?_)
            have z := fun R9 => ih (b + 1) h4 R9 (by omega)
            rw [hgs, gsn_g hz h0 hg] at z
            have z2 := z _ (by have w := H4; rw [show (some (ra ((gst Va b).1 - 1)) : Option Nat) = (some ((gst Va b).1 - 1)).map ra from rfl, up_map] at w; exact w) (rof_g hr) (hf.tr f4)
            rw [show grf (ggo (gst Va b) b) ra = some (ra ((gst Va b).1 - 1)) from if_neg h0] at z2
            exact z2
theorem c_gatherEnds (hD : aA ≠ aE ∧ aA ≠ aG ∧ aE ≠ aG) (hp : is_pg V h aP n al at_ av Le Te Va) (H : is_rp V h a n aA aE aG 0 fA (fun _ => none) fG ra R) : rx_C V (d + 3) kc ks m_Repeats_gatherEnds [.ref a, .ref aP] h (fun r h' => r = .inl none ∧ ∃ R', is_rp V h' a n aA aE aG (gst Va n).1 fA (fun x => (gO (gst Va n) x).map ra) fG ra R' ∧ rof (gst Va n) R' ∧ rx_fr V h h' (fp_g a n aE aG ra)) := by
  refine rx_null d_Repeats_gatherEnds_0 ?_
  refine rx_astore_nN d_Repeats_gatherEnds_1 (Nat.le_of_ble_eq_true rfl) ?_
  refine rx_iconst (v := 0) d_Repeats_gatherEnds_2 (by decide) ?_
  refine rx_istore_n d_Repeats_gatherEnds_3 (Nat.le_of_ble_eq_true rfl) ?_
  exact l_gatherEnds hD hp H n 0 h R (by omega) H (fun r hr => absurd hr (Nat.not_lt_zero r)) rx_fr.rf
end GE
end
section
/-! Repeats.takeEnding, gatherEndings, gather -/
theorem fix_iff {Pr : Nat → Bool} : ∀ {m i : Nat}, (fix Pr i m).isSome = true ↔ ∃ x, i ≤ x ∧ x < i + m ∧ Pr x = true := by
  intro m
  induction m with
  | zero => intro i; exact ⟨fun z => (nomatch z), fun ⟨x, h1, h2, _⟩ => by omega⟩
  | succ m ih =>
    intro i
    cases hp : Pr i with
    | true => rw [fix_yes hp]; exact ⟨fun _ => ⟨i, Nat.le_refl _, by omega, hp⟩, fun _ => rfl⟩
    | false =>
      rw [fix_no hp, ih]
      constructor
      · rintro ⟨x, h1, h2, h3⟩; exact ⟨x, by omega, by omega, h3⟩
      · rintro ⟨x, h1, h2, h3⟩
        by_cases e : x = i
        · rw [e, hp] at h3; cases h3
        · exact ⟨x, by omega, by omega, h3⟩
/-- first and last bar whose ending belongs to r -/
def isF (g : Nat → Option Nat) (r : Nat) (v : Int32) : Prop := (v = -1 ∧ ∀ x, g x ≠ some r) ∨ ∃ x, v = nI x ∧ x < 20 ∧ g x = some r ∧ ∀ y, g y = some r → x ≤ y
def isL (g : Nat → Option Nat) (r : Nat) (v : Int32) : Prop := (v = -1 ∧ ∀ x, g x ≠ some r) ∨ ∃ x, v = nI x ∧ x < 20 ∧ g x = some r ∧ ∀ y, g y = some r → y ≤ x
theorem nI_m1 {x : Nat} (h : x ≤ 1000000) : nI x ≠ -1 := by
  intro z
  have := congrArg Int32.toInt z
  rw [i_n h, i_m1] at this
  omega
def gtk (n : Nat) (Va : Nat → Int32) (r : Nat) (g : Nat → Option Nat) (b : Nat) : Nat → Option Nat := if b < n ∧ hb Va 2 b = true ∧ g b = none then up g b (some r) else g
theorem isF_1 {g : Nat → Option Nat} {r b : Nat} {v : Int32} (h : isF g r v) (hv : v = -1) (hb20 : b < 20) : isF (up g b (some r)) r (nI b) := by
  obtain ⟨-, h2⟩ | ⟨x, h1, h2, h3, h4⟩ := h
  · refine Or.inr ⟨b, rfl, hb20, up_s, fun y hy => ?_⟩
    by_cases e : y = b
    · omega
    · rw [up_o e] at hy; exact absurd hy (h2 y)
  · exact absurd (h1.symm.trans hv) (nI_m1 (by omega))
theorem isF_2 {g : Nat → Option Nat} {r b : Nat} {v : Int32} (h : isF g r v) (hv : v ≠ -1) (ha : ∀ y, g y = some r → y < b) : isF (up g b (some r)) r v := by
  obtain ⟨h1, -⟩ | ⟨x, h1, h2, h3, h4⟩ := h
  · exact absurd h1 hv
  · have hx := ha x h3
    refine Or.inr ⟨x, h1, h2, by rw [up_o (by omega)]; exact h3, fun y hy => ?_⟩
    by_cases e : y = b
    · omega
    · rw [up_o e] at hy; exact h4 y hy
theorem isL_1 {g : Nat → Option Nat} {r b : Nat} (hb20 : b < 20) (ha : ∀ y, g y = some r → y < b) : isL (up g b (some r)) r (nI b) := by
  refine Or.inr ⟨b, rfl, hb20, up_s, fun y hy => ?_⟩
  by_cases e : y = b
  · omega
  · rw [up_o e] at hy; exact Nat.le_of_lt (ha y hy)
theorem is_rp.cell {V : rx_V} {h : List va_E} {a n aA aE aG num : Nat} {fA fE fG : Nat → Option Nat} {ra : Nat → Nat} {R : Nat → Nat → Int32} (H : is_rp V h a n aA aE aG num fA fE fG ra R) {r : Nat} (hr : r < n) : rx_rd V h (ra r) = some (rcl (R r)) := H.2.2.2.2.2.1 r hr
theorem is_rp.n20 {V : rx_V} {h : List va_E} {a n aA aE aG num : Nat} {fA fE fG : Nat → Option Nat} {ra : Nat → Nat} {R : Nat → Nat → Int32} (H : is_rp V h a n aA aE aG num fA fE fG ra R) : n ≤ 20 := H.2.2.2.2.2.2.2.2
theorem is_rp.set1 {V : rx_V} {h : List va_E} {a n aA aE aG num : Nat} {fA fE fG : Nat → Option Nat} {ra : Nat → Nat} {R : Nat → Nat → Int32} (H : is_rp V h a n aA aE aG num fA fE fG ra R) {r k : Nat} {v : Int32} (hr : r < n) : is_rp V (rx_wr V h (ra r) (rcl (upd (R r) k v))) a n aA aE aG num fA fE fG ra (rup R r k v) :=
  H.set hr (fun k _ => by rw [rup_u]) (fun r' e => rup_o e)
theorem rx_acmp_ne_r {V : rx_V} {d kc ks : Nat} {M : rx_T} {pc : Nat} {L : rx_L} {S : List Value} {h : List va_E} {Q : rx_R → List va_E → Prop} {rx : Option Nat} {q : Nat} {off : Int} {tgt : Nat} (hd : decode M.2.1 pc = .ok (.if_acmp .ne off, 3)) (ht : (pc : Int) + off = (tgt : Int)) (kt : ¬ rx = some q → rx_W V d kc ks M tgt L S h Q) (kf : rx = some q → rx_W V d kc ks M (pc + 3) L S h Q) : rx_W V d kc ks M pc L (.ref q :: va_rf rx :: S) h Q := rx_acmp_ne (ry := some q) hd ht kt kf
theorem rx_acmp_eq_r {V : rx_V} {d kc ks : Nat} {M : rx_T} {pc : Nat} {L : rx_L} {S : List Value} {h : List va_E} {Q : rx_R → List va_E → Prop} {rx : Option Nat} {q : Nat} {off : Int} {tgt : Nat} (hd : decode M.2.1 pc = .ok (.if_acmp .eq off, 3)) (ht : (pc : Int) + off = (tgt : Int)) (kt : rx = some q → rx_W V d kc ks M tgt L S h Q) (kf : ¬ rx = some q → rx_W V d kc ks M (pc + 3) L S h Q) : rx_W V d kc ks M pc L (.ref q :: va_rf rx :: S) h Q := rx_acmp_eq (ry := some q) hd ht kt kf
theorem is_rp.inj {V : rx_V} {h : List va_E} {a n aA aE aG num : Nat} {fA fE fG : Nat → Option Nat} {ra : Nat → Nat} {R : Nat → Nat → Int32} (H : is_rp V h a n aA aE aG num fA fE fG ra R) {o : Option Nat} {r : Nat} (hr : r < n) (ho : ∀ x, o = some x → x < n) : o.map ra = some (ra r) ↔ o = some r := by
  cases o with
  | none => exact ⟨fun z => (nomatch z), fun z => (nomatch z)⟩
  | some x => exact ⟨fun z => by rw [H.2.2.2.2.2.2.1 x r (ho x rfl) hr (Option.some.inj z)], fun z => by rw [z]; rfl⟩
section GG
variable {V : rx_V} {d kc ks a n aA aE aG num q aP al at_ av : Nat} {h : List va_E} {fA fE fG : Nat → Option Nat} {ra : Nat → Nat} {R : Nat → Nat → Int32} {Le Te Va : Nat → Int32} {Q : rx_R → List va_E → Prop} {g : Nat → Option Nat}
theorem c_takeEnding (hD : aA ≠ aE ∧ aA ≠ aG ∧ aE ≠ aG) (hp : is_pg V h aP n al at_ av Le Te Va) (H : is_rp V h a n aA aE aG num fA fE (fun x => (g x).map ra) ra R) {r b : Nat} (hr : r < n) (hb9 : b ≤ n) (hF : isF g r (R r 3)) (hL : isL g r (R r 4)) (ha : ∀ y, g y = some r → y < b) : rx_C V (d + 2) kc ks m_Repeats_takeEnding [.ref a, .ref aP, .ref (ra r), .int (nI b)] h (fun r9 h' => r9 = .inl none ∧ ∃ R', is_rp V h' a n aA aE aG num fA fE (fun x => (gtk n Va r g b x).map ra) ra R' ∧ (∀ r', r' ≠ r → R' r' = R r') ∧ (∀ k, k ≠ 3 → k ≠ 4 → R' r k = R r k) ∧ isF (gtk n Va r g b) r (R' r 3) ∧ isL (gtk n Va r g b) r (R' r 4) ∧ rx_fr V h h' (fp_g a n aE aG ra)) := by
  have hn := H.n20
  by_cases hT : b < n ∧ hb Va 2 b = true
  · obtain ⟨hbn, hT⟩ := hT
    have hv : pgv n Va (nI b) 2 = Va (10 * b + 2) := pgv_k hn hbn (by omega) rfl
    have hv0 : ¬ Va (10 * b + 2) = 0 := hb_t.mp hT
    cases hg : g b with
    | some r1 =>
      rw [show gtk n Va r g b = g from if_neg (fun z => by rw [hg] at z; cases z.2.2)]
      refine rx_aload_nr d_Repeats_takeEnding_0 (by rfl) ?_
      refine rx_iload_n d_Repeats_takeEnding_1 (by rfl) ?_
      refine rx_iconst (v := 2) d_Repeats_takeEnding_2 (by decide) ?_
      refine rx_cV d_Repeats_takeEnding_3 (by rfl) ml_Repeats_36 im_Page_has se_Page_has (by exact c9_Page_has) hp.1 (by rfl) (by exact Nat.le_of_ble_eq_true rfl) (c_has hp (nI b) 2) ?_
      rw [hv, if_neg hv0]
      refine rx_if_eq (tgt := 42) d_Repeats_takeEnding_6 (by rfl) (fun z => absurd z (by decide)) (fun c6 => ?_)
      refine rx_aload_nr d_Repeats_takeEnding_9 (by rfl) ?_
      refine rx_getfield d_Repeats_takeEnding_10 fl_Repeats_20 H.1 (by rfl) ?_
      refine rx_iload_n d_Repeats_takeEnding_13 (by rfl) ?_
      refine rx_aaload d_Repeats_takeEnding_14 (by rfl) H.2.2.2.1 (vp_in_nI hbn (by omega)) ?_
      rw [i_cl (by omega), hg]
      refine rx_ifnonnull_r (tgt := 42) d_Repeats_takeEnding_15 (by rfl) ?_
      refine rx_vreturn d_Repeats_takeEnding_42 (by rfl) ?_
      exact ⟨rfl, R, H, fun _ _ => rfl, fun _ _ _ => rfl, hF, hL, rx_fr.rf⟩
    | none =>
      rw [show gtk n Va r g b = up g b (some r) from if_pos ⟨hbn, hT, hg⟩]
      refine rx_aload_nr d_Repeats_takeEnding_0 (by rfl) ?_
      refine rx_iload_n d_Repeats_takeEnding_1 (by rfl) ?_
      refine rx_iconst (v := 2) d_Repeats_takeEnding_2 (by decide) ?_
      refine rx_cV d_Repeats_takeEnding_3 (by rfl) ml_Repeats_36 im_Page_has se_Page_has (by exact c9_Page_has) hp.1 (by rfl) (by exact Nat.le_of_ble_eq_true rfl) (c_has hp (nI b) 2) ?_
      rw [hv, if_neg hv0]
      refine rx_if_eq (tgt := 42) d_Repeats_takeEnding_6 (by rfl) (fun z => absurd z (by decide)) (fun c6 => ?_)
      refine rx_aload_nr d_Repeats_takeEnding_9 (by rfl) ?_
      refine rx_getfield d_Repeats_takeEnding_10 fl_Repeats_20 H.1 (by rfl) ?_
      refine rx_iload_n d_Repeats_takeEnding_13 (by rfl) ?_
      refine rx_aaload d_Repeats_takeEnding_14 (by rfl) H.2.2.2.1 (vp_in_nI hbn (by omega)) ?_
      rw [i_cl (by omega), hg]
      refine rx_ifnonnull_N (tgt := 42) d_Repeats_takeEnding_15 (by rfl) ?_
      refine rx_aload_nr d_Repeats_takeEnding_18 (by rfl) ?_
      refine rx_getfield d_Repeats_takeEnding_19 fl_Repeats_20 H.1 (by rfl) ?_
      refine rx_iload_n d_Repeats_takeEnding_22 (by rfl) ?_
      refine rx_aload_nr d_Repeats_takeEnding_23 (by rfl) ?_
      refine rx_aastore (r := ("ScoreRoads$Repeat", F_Repeat, 7)) d_Repeats_takeEnding_24 (by rfl) H.2.2.2.1 (H.cell hr) (by rfl) (vp_in_nI hbn (by omega)) ?_
      rw [i_cl (by omega), up_va, show (some (ra r) : Option Nat) = (some r).map ra from rfl, up_map]
      have H2 := H.setG (f' := fun x => (up g b (some r) x).map ra) hD.2.1 hD.2.2
      have f2 : rx_fr V h _ (fp_g a n aE aG ra) := rx_fr.wr (e := .inl (V.2.2.2.1 3, n, .inr (.inr (.inr (.inr (fun x => (up g b (some r) x).map ra)))))) H.2.2.2.1 (Or.inr (Or.inr (Or.inl rfl)))
      refine rx_aload_nr d_Repeats_takeEnding_25 (by rfl) ?_
      refine rx_iload_n d_Repeats_takeEnding_26 (by rfl) ?_
      refine rx_putfield d_Repeats_takeEnding_27 (fw_Repeats_66 rfl) (H2.cell hr) (Nat.le_of_ble_eq_true rfl) (by rfl) (by rfl) ?_
      have H3 := H2.set1 (k := 4) (v := nI b) hr
      have f3 := f2.tr (rx_fr.wr (e := rcl (upd (R r) 4 (nI b))) (H2.cell hr) (fp_g_ra _ ⟨r, hr, rfl⟩))
      refine rx_aload_nr d_Repeats_takeEnding_30 (by rfl) ?_
      refine rx_cV d_Repeats_takeEnding_31 (by rfl) ml_Repeats_80 im_Repeat_hasEndings se_Repeat_hasEndings (by exact c9_Repeat_hasEndings) (H3.cell hr) (by rfl) (by exact Nat.le_of_ble_eq_true rfl) (c_hasEndings (H3.cell hr)) ?_
      rw [rup_k (show 3 ≠ 4 by omega)]
      refine rx_if_ne (tgt := 42) d_Repeats_takeEnding_34 (by rfl) (fun c34 => ?_) (fun c34 => ?_)
      · have hm : R r 3 ≠ -1 := fun z => c34 (if_pos z)
        refine rx_vreturn d_Repeats_takeEnding_42 (by rfl) ?_
        first
        | exact ⟨rfl, _, H4, fun r' e => by rw [rup_o e, rup_o e], fun k e1 e2 => by rw [rup_k e1, rup_k e2], by rw [rup_s]; exact isF_1 hF hm (by omega), by rw [rup_k (by omega), rup_s]; exact isL_1 (by omega) ha, f4⟩
        | exact ⟨rfl, _, H3, fun r' e => by rw [rup_o e], fun k e1 e2 => by rw [rup_k e2], by rw [rup_k (by omega)]; exact isF_2 hF hm ha, by rw [rup_s]; exact isL_1 (by omega) ha, f3⟩
      · have hm : R r 3 = -1 := by by_cases z : R r 3 = -1; exact z; exact absurd ((if_neg z).symm.trans c34) (by decide)
        refine rx_aload_nr d_Repeats_takeEnding_37 (by rfl) ?_
        refine rx_iload_n d_Repeats_takeEnding_38 (by rfl) ?_
        refine rx_putfield d_Repeats_takeEnding_39 (fw_Repeats_63 rfl) (H3.cell hr) (Nat.le_of_ble_eq_true rfl) (by rfl) (by rfl) ?_
        have H4 := H3.set1 (k := 3) (v := nI b) hr
        have f4 := f3.tr (rx_fr.wr (e := rcl (upd (rup R r 4 (nI b) r) 3 (nI b))) (H3.cell hr) (fp_g_ra _ ⟨r, hr, rfl⟩))
        refine rx_vreturn d_Repeats_takeEnding_42 (by rfl) ?_
        first
        | exact ⟨rfl, _, H4, fun r' e => by rw [rup_o e, rup_o e], fun k e1 e2 => by rw [rup_k e1, rup_k e2], by rw [rup_s]; exact isF_1 hF hm (by omega), by rw [rup_k (by omega), rup_s]; exact isL_1 (by omega) ha, f4⟩
        | exact ⟨rfl, _, H3, fun r' e => by rw [rup_o e], fun k e1 e2 => by rw [rup_k e2], by rw [rup_k (by omega)]; exact isF_2 hF hm ha, by rw [rup_s]; exact isL_1 (by omega) ha, f3⟩
  · have hv : pgv n Va (nI b) 2 = 0 := by
      by_cases hbn : b < n
      · rw [pgv_k (k := 2) (kk := 2) hn hbn (by omega) rfl]
        exact Decidable.not_not.mp (fun z => hT ⟨hbn, hb_t.mpr z⟩)
      · exact pgv_b1 hn (nI_le (by omega) (by omega))
    rw [show gtk n Va r g b = g from if_neg (fun z => hT ⟨z.1, z.2.1⟩)]
    refine rx_aload_nr d_Repeats_takeEnding_0 (by rfl) ?_
    refine rx_iload_n d_Repeats_takeEnding_1 (by rfl) ?_
    refine rx_iconst (v := 2) d_Repeats_takeEnding_2 (by decide) ?_
    refine rx_cV d_Repeats_takeEnding_3 (by rfl) ml_Repeats_36 im_Page_has se_Page_has (by exact c9_Page_has) hp.1 (by rfl) (by exact Nat.le_of_ble_eq_true rfl) (c_has hp (nI b) 2) ?_
    rw [hv, if_pos rfl]
    refine rx_if_eq (tgt := 42) d_Repeats_takeEnding_6 (by rfl) (fun c6 => ?_) (fun z => absurd rfl z)
    refine rx_vreturn d_Repeats_takeEnding_42 (by rfl) ?_
    exact ⟨rfl, R, H, fun _ _ => rfl, fun _ _ _ => rfl, hF, hL, rx_fr.rf⟩
/-- the endings of r among its first bars below i -/
def gA (n : Nat) (Va : Nat → Int32) (s : gT) (g : Nat → Option Nat) (r i : Nat) : Nat → Option Nat := fun x => if g x = none ∧ hb Va 2 x = true ∧ x < n ∧ gF s r ≤ x ∧ x < i then some r else g x
def gB (n : Nat) (Va : Nat → Int32) (s : gT) (g : Nat → Option Nat) (r i : Nat) : Nat → Option Nat := fun x => if g x = none ∧ hb Va 2 x = true ∧ x < n ∧ 1 ≤ x ∧ gE s r < x ∧ x ≤ i ∧ gO s (x - 1) = some r then some r else g x
theorem gtk_A {s : gT} {r i : Nat} (h1 : gF s r ≤ i) : gtk n Va r (gA n Va s g r i) i = gA n Va s g r (i + 1) := by
  have hi : gA n Va s g r i i = g i := if_neg (fun z => by omega)
  unfold gtk
  rw [hi]
  by_cases h : i < n ∧ hb Va 2 i = true ∧ g i = none
  · rw [if_pos h]
    funext x
    by_cases e : x = i
    · subst e
      rw [up_s]
      exact (if_pos ⟨h.2.2, h.2.1, h.1, h1, by omega⟩).symm
    · rw [up_o e]
      unfold gA
      by_cases c : g x = none ∧ hb Va 2 x = true ∧ x < n ∧ gF s r ≤ x ∧ x < i
      · rw [if_pos c, if_pos ⟨c.1, c.2.1, c.2.2.1, c.2.2.2.1, by omega⟩]
      · rw [if_neg c, if_neg (fun z => c ⟨z.1, z.2.1, z.2.2.1, z.2.2.2.1, by omega⟩)]
  · rw [if_neg h]
    funext x
    unfold gA
    by_cases c : g x = none ∧ hb Va 2 x = true ∧ x < n ∧ gF s r ≤ x ∧ x < i
    · rw [if_pos c, if_pos ⟨c.1, c.2.1, c.2.2.1, c.2.2.2.1, by omega⟩]
    · rw [if_neg c, if_neg (fun z => ?_)]
      by_cases e : x = i
      · subst e; exact h ⟨z.2.2.1, z.2.1, z.1⟩
      · exact c ⟨z.1, z.2.1, z.2.2.1, z.2.2.2.1, by omega⟩
theorem gB_y {s : gT} {r i : Nat} (h1 : gE s r ≤ i) (h2 : gO s i = some r) : gtk n Va r (gB n Va s g r i) (i + 1) = gB n Va s g r (i + 1) := by
  have hi : gB n Va s g r i (i + 1) = g (i + 1) := if_neg (fun z => by omega)
  unfold gtk
  rw [hi]
  by_cases h : i + 1 < n ∧ hb Va 2 (i + 1) = true ∧ g (i + 1) = none
  · rw [if_pos h]
    funext x
    by_cases e : x = i + 1
    · subst e
      rw [up_s]
      exact (if_pos ⟨h.2.2, h.2.1, h.1, by omega, by omega, by omega, h2⟩).symm
    · rw [up_o e]
      unfold gB
      by_cases c : g x = none ∧ hb Va 2 x = true ∧ x < n ∧ 1 ≤ x ∧ gE s r < x ∧ x ≤ i ∧ gO s (x - 1) = some r
      · rw [if_pos c, if_pos ⟨c.1, c.2.1, c.2.2.1, c.2.2.2.1, c.2.2.2.2.1, by omega, c.2.2.2.2.2.2⟩]
      · rw [if_neg c, if_neg (fun z => c ⟨z.1, z.2.1, z.2.2.1, z.2.2.2.1, z.2.2.2.2.1, by omega, z.2.2.2.2.2.2⟩)]
  · rw [if_neg h]
    funext x
    unfold gB
    by_cases c : g x = none ∧ hb Va 2 x = true ∧ x < n ∧ 1 ≤ x ∧ gE s r < x ∧ x ≤ i ∧ gO s (x - 1) = some r
    · rw [if_pos c, if_pos ⟨c.1, c.2.1, c.2.2.1, c.2.2.2.1, c.2.2.2.2.1, by omega, c.2.2.2.2.2.2⟩]
    · rw [if_neg c, if_neg (fun z => ?_)]
      by_cases e : x = i + 1
      · subst e; exact h ⟨z.2.2.1, z.2.1, z.1⟩
      · exact c ⟨z.1, z.2.1, z.2.2.1, z.2.2.2.1, z.2.2.2.2.1, by omega, z.2.2.2.2.2.2⟩
theorem gB_n {s : gT} {r i : Nat} (h2 : gO s i ≠ some r) : gB n Va s g r (i + 1) = gB n Va s g r i := by
  funext x
  unfold gB
  by_cases c : g x = none ∧ hb Va 2 x = true ∧ x < n ∧ 1 ≤ x ∧ gE s r < x ∧ x ≤ i ∧ gO s (x - 1) = some r
  · rw [if_pos c, if_pos ⟨c.1, c.2.1, c.2.2.1, c.2.2.2.1, c.2.2.2.2.1, by omega, c.2.2.2.2.2.2⟩]
  · rw [if_neg c, if_neg (fun z => ?_)]
    by_cases e : x = i + 1
    · subst e; exact h2 z.2.2.2.2.2.2
    · exact c ⟨z.1, z.2.1, z.2.2.1, z.2.2.2.1, z.2.2.2.2.1, by omega, z.2.2.2.2.2.2⟩
/-- whether r has an ending among its first bars -/
def gAny (n : Nat) (Va : Nat → Int32) (s : gT) (g : Nat → Option Nat) (r : Nat) : Bool := (fix (fun x => decide (g x = none ∧ hb Va 2 x = true ∧ x < n)) (gF s r) (gE s r + 1 - gF s r)).isSome
def gEs (n : Nat) (Va : Nat → Int32) (s : gT) (g : Nat → Option Nat) (r : Nat) : Nat → Option Nat := if gAny n Va s g r = true then gB n Va s (gA n Va s g r (gE s r + 1)) r (gL s r + 1) else g
theorem gAny_iff {s : gT} {r : Nat} (h : gF s r ≤ gE s r) : gAny n Va s g r = true ↔ ∃ x, g x = none ∧ hb Va 2 x = true ∧ x < n ∧ gF s r ≤ x ∧ x ≤ gE s r := by
  unfold gAny
  rw [fix_iff]
  constructor
  · rintro ⟨x, h1, h2, h3⟩
    have h4 := of_decide_eq_true h3
    exact ⟨x, h4.1, h4.2.1, h4.2.2, h1, by omega⟩
  · rintro ⟨x, h1, h2, h3, h4, h5⟩
    exact ⟨x, h4, by omega, decide_eq_true ⟨h1, h2, h3⟩⟩
theorem l_geB (hD : aA ≠ aE ∧ aA ≠ aG ∧ aE ≠ aG) (hp : is_pg V h aP n al at_ av Le Te Va) {s : gT} {num0 r : Nat} {fE0 fG0 : Nat → Option Nat} {R0 : Nat → Nat → Int32} (H0 : is_rp V h a n aA aE aG num0 fA fE0 fG0 ra R0) (hr : r < n) (q0 : R0 r 0 = nI (gF s r)) (q1 : R0 r 1 = nI (gE s r)) (q2 : R0 r 2 = nI (gL s r)) (hle : gF s r ≤ gE s r ∧ gE s r ≤ gL s r ∧ gL s r < n) (hgO : ∀ x r, gO s x = some r → r < n) : ∀ (m i : Nat) (h1 : List va_E) (R1 : Nat → Nat → Int32), i + m = gL s r + 1 → gE s r ≤ i → is_rp V h1 a n aA aE aG num0 fA (fun x => (gO s x).map ra) (fun x => (gB n Va s g r i x).map ra) ra R1 → (∀ r', r' ≠ r → R1 r' = R0 r') → (∀ k, k ≠ 3 → k ≠ 4 → R1 r k = R0 r k) → isF (gB n Va s g r i) r (R1 r 3) → isL (gB n Va s g r i) r (R1 r 4) → (∀ y, gB n Va s g r i y = some r → y < i + 1) → rx_fr V h h1 (fp_g a n aE aG ra) →
    rx_W V (d + 3) kc ks m_Repeats_gatherEndings 39 [some (.ref a), some (.ref aP), some (.ref (ra r)), some (.int (nI i))] [] h1 (fun r9 h' => r9 = .inl none ∧ ∃ R', is_rp V h' a n aA aE aG num0 fA (fun x => (gO s x).map ra) (fun x => (gB n Va s g r (gL s r + 1) x).map ra) ra R' ∧ (∀ r', r' ≠ r → R' r' = R0 r') ∧ (∀ k, k ≠ 3 → k ≠ 4 → R' r k = R0 r k) ∧ isF (gB n Va s g r (gL s r + 1)) r (R' r 3) ∧ isL (gB n Va s g r (gL s r + 1)) r (R' r 4) ∧ rx_fr V h h' (fp_g a n aE aG ra)) := by
  intro m
  induction m with
  | zero =>
    intro i h1 R1 hi hE H hO hK hF hL hA hf
    have hn := H.n20
    have hi9 : i = gL s r + 1 := by omega
    have e2 : R1 r 2 = nI (gL s r) := by rw [hK 2 (by omega) (by omega), q2]
    refine rx_iload_n d_Repeats_gatherEndings_39 (by rfl) ?_
    refine rx_aload_nr d_Repeats_gatherEndings_40 (by rfl) ?_
    refine rx_getfield d_Repeats_gatherEndings_41 fl_Repeats_46 (H.cell hr) (by rfl) ?_
    rw [e2]
    refine rx_icmp_gt (tgt := 71) d_Repeats_gatherEndings_44 (by rfl) (fun c44 => ?_) (fun z => absurd (nI_lt (by omega) (by omega)) z)
    refine rx_vreturn d_Repeats_gatherEndings_71 (by rfl) ?_
    rw [← hi9]
    exact ⟨rfl, R1, H, hO, hK, hF, hL, hf⟩
  | succ m ih =>
    intro i h1 R1 hi hE H hO hK hF hL hA hf
    have hn := H.n20
    have hp1 := hp.frg H0 hf
    have hin : i < n := by omega
    have e2 : R1 r 2 = nI (gL s r) := by rw [hK 2 (by omega) (by omega), q2]
    by_cases hg : gO s i = some r
    · show rx_W V (d + 3) kc ks m_Repeats_gatherEndings 39 _ [] h1 _
      refine rx_iload_n d_Repeats_gatherEndings_39 (by rfl) ?_
      refine rx_aload_nr d_Repeats_gatherEndings_40 (by rfl) ?_
      refine rx_getfield d_Repeats_gatherEndings_41 fl_Repeats_46 (H.cell hr) (by rfl) ?_
      rw [e2]
      refine rx_icmp_gt (tgt := 71) d_Repeats_gatherEndings_44 (by rfl) (fun z => absurd z (nI_nlt (by omega) (by omega))) (fun c44 => ?_)
      refine rx_aload_nr d_Repeats_gatherEndings_47 (by rfl) ?_
      refine rx_iload_n d_Repeats_gatherEndings_48 (by rfl) ?_
      refine rx_cV d_Repeats_gatherEndings_49 (by rfl) ml_Repeats_84 im_Repeats_ofEnd se_Repeats_ofEnd (by exact c9_Repeats_ofEnd) H.1 (by rfl) (by exact Nat.le_of_ble_eq_true rfl) (c_ofEnd H (nI i)) ?_
      rw [ogt_nn (by omega) hin, hg]
      refine rx_aload_nr d_Repeats_gatherEndings_52 (by rfl) ?_
      refine rx_acmp_ne_r (tgt := 65) d_Repeats_gatherEndings_53 (by rfl) (fun z => absurd rfl z) (fun c53 => ?_)
      refine rx_aload_nr d_Repeats_gatherEndings_56 (by rfl) ?_
      refine rx_aload_nr d_Repeats_gatherEndings_57 (by rfl) ?_
      refine rx_aload_nr d_Repeats_gatherEndings_58 (by rfl) ?_
      refine rx_iload_n d_Repeats_gatherEndings_59 (by rfl) ?_
      refine rx_iconst (v := 1) d_Repeats_gatherEndings_60 (by decide) ?_
      refine rx_iadd d_Repeats_gatherEndings_61 ?_
      rw [nI_1]
      refine rx_pV d_Repeats_gatherEndings_62 (by rfl) ml_Repeats_76 im_Repeats_takeEnding se_Repeats_takeEnding (by exact c9_Repeats_takeEnding) H.1 (by rfl) (by exact Nat.le_of_ble_eq_true rfl) (c_takeEnding hD hp1 H hr (by omega) hF hL hA) ?_
      intro h2 z9
      obtain ⟨R2, H2, o2, k2, F2, L2, f2⟩ := z9
      refine rx_iinc (v := nI (i + 1)) d_Repeats_gatherEndings_65 (by rfl) (i_inc i) ?_
      refine rx_goto (tgt := 39) d_Repeats_gatherEndings_68 (by rfl) ?_
      rw [gB_y hE hg] at H2 F2 L2
      refine ih (i + 1) h2 R2 (by omega) (by omega) H2 (fun r' e => (o2 r' e).trans (hO r' e)) (fun k e1 e3 => (k2 k e1 e3).trans (hK k e1 e3)) F2 L2 (fun y hy => ?_) (hf.tr f2)
      unfold gB at hy
      by_cases c : g y = none ∧ hb Va 2 y = true ∧ y < n ∧ 1 ≤ y ∧ gE s r < y ∧ y ≤ i + 1 ∧ gO s (y - 1) = some r
      · omega
      · rw [if_neg c] at hy
        exact Nat.lt_succ_of_lt (hA y ((if_neg (fun z => c ⟨z.1, z.2.1, z.2.2.1, z.2.2.2.1, z.2.2.2.2.1, by omega, z.2.2.2.2.2.2⟩)).trans hy))
    · have hne : ¬ (gO s i).map ra = some (ra r) := fun z => hg ((H.inj hr (hgO i)).mp z)
      refine rx_iload_n d_Repeats_gatherEndings_39 (by rfl) ?_
      refine rx_aload_nr d_Repeats_gatherEndings_40 (by rfl) ?_
      refine rx_getfield d_Repeats_gatherEndings_41 fl_Repeats_46 (H.cell hr) (by rfl) ?_
      rw [e2]
      refine rx_icmp_gt (tgt := 71) d_Repeats_gatherEndings_44 (by rfl) (fun z => absurd z (nI_nlt (by omega) (by omega))) (fun c44 => ?_)
      refine rx_aload_nr d_Repeats_gatherEndings_47 (by rfl) ?_
      refine rx_iload_n d_Repeats_gatherEndings_48 (by rfl) ?_
      refine rx_cV d_Repeats_gatherEndings_49 (by rfl) ml_Repeats_84 im_Repeats_ofEnd se_Repeats_ofEnd (by exact c9_Repeats_ofEnd) H.1 (by rfl) (by exact Nat.le_of_ble_eq_true rfl) (c_ofEnd H (nI i)) ?_
      rw [ogt_nn (by omega) hin]
      refine rx_aload_nr d_Repeats_gatherEndings_52 (by rfl) ?_
      refine rx_acmp_ne_r (tgt := 65) d_Repeats_gatherEndings_53 (by rfl) (fun c53 => ?_) (fun z => absurd z hne)
      refine rx_iinc (v := nI (i + 1)) d_Repeats_gatherEndings_65 (by rfl) (i_inc i) ?_
      refine rx_goto (tgt := 39) d_Repeats_gatherEndings_68 (by rfl) ?_
      rw [← gB_n hg] at H hF hL
      refine ih (i + 1) h1 R1 (by omega) (by omega) H hO hK hF hL (fun y hy => ?_) hf
      rw [gB_n hg] at hy
      exact Nat.lt_succ_of_lt (hA y hy)
theorem l_geA (hD : aA ≠ aE ∧ aA ≠ aG ∧ aE ≠ aG) (hp : is_pg V h aP n al at_ av Le Te Va) {s : gT} {num0 r : Nat} {fE0 fG0 : Nat → Option Nat} {R0 : Nat → Nat → Int32} (H0 : is_rp V h a n aA aE aG num0 fA fE0 fG0 ra R0) (hr : r < n) (q0 : R0 r 0 = nI (gF s r)) (q1 : R0 r 1 = nI (gE s r)) (q2 : R0 r 2 = nI (gL s r)) (hle : gF s r ≤ gE s r ∧ gE s r ≤ gL s r ∧ gL s r < n) (hgO : ∀ x r, gO s x = some r → r < n) (hg0 : ∀ x, g x ≠ some r) : ∀ (m i : Nat) (h1 : List va_E) (R1 : Nat → Nat → Int32), i + m = gE s r + 1 → gF s r ≤ i → is_rp V h1 a n aA aE aG num0 fA (fun x => (gO s x).map ra) (fun x => (gA n Va s g r i x).map ra) ra R1 → (∀ r', r' ≠ r → R1 r' = R0 r') → (∀ k, k ≠ 3 → k ≠ 4 → R1 r k = R0 r k) → isF (gA n Va s g r i) r (R1 r 3) → isL (gA n Va s g r i) r (R1 r 4) → (∀ y, gA n Va s g r i y = some r → y < i) → rx_fr V h h1 (fp_g a n aE aG ra) →
    rx_W V (d + 3) kc ks m_Repeats_gatherEndings 5 [some (.ref a), some (.ref aP), some (.ref (ra r)), some (.int (nI i))] [] h1 (fun r9 h' => r9 = .inl none ∧ ∃ R', is_rp V h' a n aA aE aG num0 fA (fun x => (gO s x).map ra) (fun x => (gEs n Va s g r x).map ra) ra R' ∧ (∀ r', r' ≠ r → R' r' = R0 r') ∧ (∀ k, k ≠ 3 → k ≠ 4 → R' r k = R0 r k) ∧ isF (gEs n Va s g r) r (R' r 3) ∧ isL (gEs n Va s g r) r (R' r 4) ∧ rx_fr V h h' (fp_g a n aE aG ra)) := by
  intro m
  induction m with
  | zero =>
    intro i h1 R1 hi hE H hO hK hF hL hA hf
    have hn := H.n20
    have hi9 : i = gE s r + 1 := by omega
    subst hi9
    have e1 : R1 r 1 = nI (gE s r) := by rw [hK 1 (by omega) (by omega), q1]
    have an : gAny n Va s g r = true ↔ R1 r 3 ≠ -1 := by
      rw [gAny_iff hle.1]
      constructor
      · rintro ⟨x, x1, x2, x3, x4, x5⟩
        obtain ⟨-, z⟩ | ⟨y, y1, y2, -, -⟩ := hF
        · exact absurd (if_pos ⟨x1, x2, x3, x4, by omega⟩) (z x)
        · rw [y1]; exact nI_m1 (by omega)
      · intro z
        obtain ⟨z1, -⟩ | ⟨y, y1, y2, y3, -⟩ := hF
        · exact absurd z1 z
        · unfold gA at y3
          by_cases c : g y = none ∧ hb Va 2 y = true ∧ y < n ∧ gF s r ≤ y ∧ y < gE s r + 1
          · exact ⟨y, c.1, c.2.1, c.2.2.1, c.2.2.2.1, by omega⟩
          · rw [if_neg c] at y3; exact absurd y3 (hg0 y)
    refine rx_iload_n d_Repeats_gatherEndings_5 (by rfl) ?_
    refine rx_aload_nr d_Repeats_gatherEndings_6 (by rfl) ?_
    refine rx_getfield d_Repeats_gatherEndings_7 fl_Repeats_60 (H.cell hr) (by rfl) ?_
    rw [e1]
    refine rx_icmp_gt (tgt := 26) d_Repeats_gatherEndings_10 (by rfl) (fun c10 => ?_) (fun z => absurd (nI_lt (by omega) (by omega)) z)
    refine rx_aload_nr d_Repeats_gatherEndings_26 (by rfl) ?_
    refine rx_cV d_Repeats_gatherEndings_27 (by rfl) ml_Repeats_80 im_Repeat_hasEndings se_Repeat_hasEndings (by exact c9_Repeat_hasEndings) (H.cell hr) (by rfl) (by exact Nat.le_of_ble_eq_true rfl) (c_hasEndings (H.cell hr)) ?_
    refine rx_if_ne (tgt := 34) d_Repeats_gatherEndings_30 (by rfl) (fun c30 => ?_) (fun c30 => ?_)
    · have hm : R1 r 3 ≠ -1 := fun z => c30 (if_pos z)
      refine rx_aload_nr d_Repeats_gatherEndings_34 (by rfl) ?_
      refine rx_getfield d_Repeats_gatherEndings_35 fl_Repeats_60 (H.cell hr) (by rfl) ?_
      rw [e1]
      refine rx_istore_n d_Repeats_gatherEndings_38 (Nat.le_of_ble_eq_true rfl) ?_
      rw [show gEs n Va s g r = gB n Va s (gA n Va s g r (gE s r + 1)) r (gL s r + 1) from if_pos (an.mpr hm)]
      have e : gB n Va s (gA n Va s g r (gE s r + 1)) r (gE s r) = gA n Va s g r (gE s r + 1) := by
        funext x
        exact if_neg (fun z => by omega)
      exact l_geB hD hp H0 hr q0 q1 q2 hle hgO (gL s r + 1 - gE s r) (gE s r) h1 R1 (by omega) (Nat.le_refl _) (by rw [e]; exact H) hO hK (by rw [e]; exact hF) (by rw [e]; exact hL) (by rw [e]; exact hA) hf
    · have hm : R1 r 3 = -1 := by by_cases z : R1 r 3 = -1; exact z; exact absurd ((if_neg z).symm.trans c30) (by decide)
      refine rx_vreturn d_Repeats_gatherEndings_33 (by rfl) ?_
      have hne : ¬ gAny n Va s g r = true := fun z => an.mp z hm
      have e : gA n Va s g r (gE s r + 1) = g := by
        funext x
        refine if_neg (fun z => hne ((gAny_iff hle.1).mpr ⟨x, z.1, z.2.1, z.2.2.1, z.2.2.2.1, by omega⟩))
      rw [show gEs n Va s g r = g from if_neg hne]
      rw [e] at H hF hL
      exact ⟨rfl, R1, H, hO, hK, hF, hL, hf⟩
  | succ m ih =>
    intro i h1 R1 hi hE H hO hK hF hL hA hf
    have hn := H.n20
    have hp1 := hp.frg H0 hf
    have hin : i < n := by omega
    have e1 : R1 r 1 = nI (gE s r) := by rw [hK 1 (by omega) (by omega), q1]
    refine rx_iload_n d_Repeats_gatherEndings_5 (by rfl) ?_
    refine rx_aload_nr d_Repeats_gatherEndings_6 (by rfl) ?_
    refine rx_getfield d_Repeats_gatherEndings_7 fl_Repeats_60 (H.cell hr) (by rfl) ?_
    rw [e1]
    refine rx_icmp_gt (tgt := 26) d_Repeats_gatherEndings_10 (by rfl) (fun z => absurd z (nI_nlt (by omega) (by omega))) (fun c10 => ?_)
    refine rx_aload_nr d_Repeats_gatherEndings_13 (by rfl) ?_
    refine rx_aload_nr d_Repeats_gatherEndings_14 (by rfl) ?_
    refine rx_aload_nr d_Repeats_gatherEndings_15 (by rfl) ?_
    refine rx_iload_n d_Repeats_gatherEndings_16 (by rfl) ?_
    refine rx_pV d_Repeats_gatherEndings_17 (by rfl) ml_Repeats_76 im_Repeats_takeEnding se_Repeats_takeEnding (by exact c9_Repeats_takeEnding) H.1 (by rfl) (by exact Nat.le_of_ble_eq_true rfl) (c_takeEnding hD hp1 H hr (by omega) hF hL hA) ?_
    intro h2 z9
    obtain ⟨R2, H2, o2, k2, F2, L2, f2⟩ := z9
    refine rx_iinc (v := nI (i + 1)) d_Repeats_gatherEndings_20 (by rfl) (i_inc i) ?_
    refine rx_goto (tgt := 5) d_Repeats_gatherEndings_23 (by rfl) ?_
    rw [gtk_A hE] at H2 F2 L2
    refine ih (i + 1) h2 R2 (by omega) (by omega) H2 (fun r' e => (o2 r' e).trans (hO r' e)) (fun k e1 e3 => (k2 k e1 e3).trans (hK k e1 e3)) F2 L2 (fun y hy => ?_) (hf.tr f2)
    unfold gA at hy
    by_cases c : g y = none ∧ hb Va 2 y = true ∧ y < n ∧ gF s r ≤ y ∧ y < i + 1
    · omega
    · rw [if_neg c] at hy; exact absurd hy (hg0 y)
theorem c_gatherEndings (hD : aA ≠ aE ∧ aA ≠ aG ∧ aE ≠ aG) (hp : is_pg V h aP n al at_ av Le Te Va) {s : gT} {r : Nat} (H : is_rp V h a n aA aE aG num fA (fun x => (gO s x).map ra) (fun x => (g x).map ra) ra R) (hr : r < n) (h0 : R r 0 = nI (gF s r)) (h1 : R r 1 = nI (gE s r)) (h2 : R r 2 = nI (gL s r)) (h3 : R r 3 = -1) (h4 : R r 4 = -1) (hle : gF s r ≤ gE s r ∧ gE s r ≤ gL s r ∧ gL s r < n) (hgO : ∀ x r, gO s x = some r → r < n) (hg0 : ∀ x, g x ≠ some r) : rx_C V (d + 3) kc ks m_Repeats_gatherEndings [.ref a, .ref aP, .ref (ra r)] h (fun r9 h' => r9 = .inl none ∧ ∃ R', is_rp V h' a n aA aE aG num fA (fun x => (gO s x).map ra) (fun x => (gEs n Va s g r x).map ra) ra R' ∧ (∀ r', r' ≠ r → R' r' = R r') ∧ (∀ k, k ≠ 3 → k ≠ 4 → R' r k = R r k) ∧ isF (gEs n Va s g r) r (R' r 3) ∧ isL (gEs n Va s g r) r (R' r 4) ∧ rx_fr V h h' (fp_g a n aE aG ra)) := by
  have e : gA n Va s g r (gF s r) = g := by
    funext x
    exact if_neg (fun z => by omega)
  refine rx_aload_nr d_Repeats_gatherEndings_0 (by rfl) ?_
  refine rx_getfield d_Repeats_gatherEndings_1 fl_Repeats_57 (H.cell hr) (by rfl) ?_
  rw [h0]
  refine rx_istore_n d_Repeats_gatherEndings_4 (Nat.le_of_ble_eq_true rfl) ?_
  exact l_geA hD hp H hr h0 h1 h2 hle hgO hg0 (gE s r + 1 - gF s r) (gF s r) h R (by omega) (Nat.le_refl _) (by rw [e]; exact H) (fun _ _ => rfl) (fun _ _ _ => rfl) (by rw [e]; exact Or.inl ⟨h3, hg0⟩) (by rw [e]; exact Or.inl ⟨h4, hg0⟩) (by rw [e]; exact fun y hy => absurd hy (hg0 y)) rx_fr.rf
end GG
end
section
/-! Repeats.gather -/
def gG (n : Nat) (Va : Nat → Int32) (s : gT) : Nat → Nat → Option Nat
  | 0 => fun _ => none
  | r + 1 => gEs n Va s (gG n Va s r) r
theorem gEs_o {n : Nat} {Va : Nat → Int32} {s : gT} {g : Nat → Option Nat} {r r' x : Nat} (e : r' ≠ r) : gEs n Va s g r x = some r' ↔ g x = some r' := by
  unfold gEs
  by_cases c : gAny n Va s g r = true
  · rw [if_pos c]
    have key : ∀ (g : Nat → Option Nat) (i : Nat), gB n Va s g r i x = some r' ↔ g x = some r' := by
      intro g i
      unfold gB
      by_cases c : g x = none ∧ hb Va 2 x = true ∧ x < n ∧ 1 ≤ x ∧ gE s r < x ∧ x ≤ i ∧ gO s (x - 1) = some r
      · rw [if_pos c, c.1]
        exact ⟨fun z => absurd (Option.some.inj z).symm e, fun z => nomatch z⟩
      · rw [if_neg c]
    rw [key]
    unfold gA
    by_cases c : g x = none ∧ hb Va 2 x = true ∧ x < n ∧ gF s r ≤ x ∧ x < gE s r + 1
    · rw [if_pos c, c.1]
      exact ⟨fun z => absurd (Option.some.inj z).symm e, fun z => nomatch z⟩
    · rw [if_neg c]
  · rw [if_neg c]
theorem gG_lt {n : Nat} {Va : Nat → Int32} {s : gT} : ∀ {r x q : Nat}, gG n Va s r x = some q → q < r := by
  intro r
  induction r with
  | zero => intro x q h; cases h
  | succ r ih =>
    intro x q h
    by_cases e : q = r
    · omega
    · exact Nat.lt_succ_of_lt (ih ((gEs_o e).mp h))
theorem isF_c {g g' : Nat → Option Nat} {r : Nat} {v : Int32} (h : isF g r v) (hc : ∀ x, g' x = some r ↔ g x = some r) : isF g' r v := by
  obtain ⟨h1, h2⟩ | ⟨x, h1, h2, h3, h4⟩ := h
  · exact Or.inl ⟨h1, fun x z => h2 x ((hc x).mp z)⟩
  · exact Or.inr ⟨x, h1, h2, (hc x).mpr h3, fun y z => h4 y ((hc y).mp z)⟩
theorem isL_c {g g' : Nat → Option Nat} {r : Nat} {v : Int32} (h : isL g r v) (hc : ∀ x, g' x = some r ↔ g x = some r) : isL g' r v := by
  obtain ⟨h1, h2⟩ | ⟨x, h1, h2, h3, h4⟩ := h
  · exact Or.inl ⟨h1, fun x z => h2 x ((hc x).mp z)⟩
  · exact Or.inr ⟨x, h1, h2, (hc x).mpr h3, fun y z => h4 y ((hc y).mp z)⟩
/-- what the Repeat objects hold, endings below i gathered -/
def roI (s : gT) (g : Nat → Option Nat) (i : Nat) (R : Nat → Nat → Int32) : Prop := ∀ r, r < s.1 → R r 0 = nI (gF s r) ∧ R r 1 = nI (gE s r) ∧ R r 2 = nI (gL s r) ∧ R r 5 = gC s r ∧ (r < i → isF g r (R r 3) ∧ isL g r (R r 4)) ∧ (i ≤ r → R r 3 = -1 ∧ R r 4 = -1)
def roG (s : gT) (g : Nat → Option Nat) (R : Nat → Nat → Int32) : Prop := ∀ r, r < s.1 → R r 0 = nI (gF s r) ∧ R r 1 = nI (gE s r) ∧ R r 2 = nI (gL s r) ∧ R r 5 = gC s r ∧ isF g r (R r 3) ∧ isL g r (R r 4)
section GH
variable {V : rx_V} {d kc ks a n aA aE aG num q aP al at_ av : Nat} {h : List va_E} {fA fE fG : Nat → Option Nat} {ra : Nat → Nat} {R : Nat → Nat → Int32} {Le Te Va : Nat → Int32} {Q : rx_R → List va_E → Prop} {g : Nat → Option Nat}
theorem l_gather2 (hD : aA ≠ aE ∧ aA ≠ aG ∧ aE ≠ aG) (hp : is_pg V h aP n al at_ av Le Te Va) {num0 : Nat} {fE0 fG0 : Nat → Option Nat} {R0 : Nat → Nat → Int32} (H0 : is_rp V h a n aA aE aG num0 fA fE0 fG0 ra R0) : ∀ (m i : Nat) (h1 : List va_E) (R1 : Nat → Nat → Int32), i + m = (gst Va n).1 → is_rp V h1 a n aA aE aG (gst Va n).1 fA (fun x => (gO (gst Va n) x).map ra) (fun x => (gG n Va (gst Va n) i x).map ra) ra R1 → roI (gst Va n) (gG n Va (gst Va n) i) i R1 → rx_fr V h h1 (fp_g a n aE aG ra) →
    rx_W V (d + 4) kc ks m_Repeats_gather 43 [some (.ref a), some (.ref aP), some (.int (nI i))] [] h1 (fun r9 h' => r9 = .inl none ∧ ∃ R', is_rp V h' a n aA aE aG (gst Va n).1 fA (fun x => (gO (gst Va n) x).map ra) (fun x => (gG n Va (gst Va n) (gst Va n).1 x).map ra) ra R' ∧ roG (gst Va n) (gG n Va (gst Va n) (gst Va n).1) R' ∧ rx_fr V h h' (fp_g a n aE aG ra)) := by
  intro m
  induction m with
  | zero =>
    intro i h1 R1 hi H hr hf
    have hi9 : i = (gst Va n).1 := by omega
    subst hi9
    refine rx_iload_n d_Repeats_gather_43 (by rfl) ?_
    refine rx_aload_nr d_Repeats_gather_44 (by rfl) ?_
    refine rx_getfield d_Repeats_gather_45 fl_Repeats_24 H.1 (by rfl) ?_
    refine rx_icmp_ge (tgt := 68) d_Repeats_gather_48 (by rfl) (fun c48 => ?_) (fun z => absurd (Int32.le_refl _) z)
    refine rx_vreturn d_Repeats_gather_68 (by rfl) ?_
    exact ⟨rfl, R1, H, fun r hlt => ⟨(hr r hlt).1, (hr r hlt).2.1, (hr r hlt).2.2.1, (hr r hlt).2.2.2.1, (hr r hlt).2.2.2.2.1 hlt⟩, hf⟩
  | succ m ih =>
    intro i h1 R1 hi H hr hf
    have hn := H.n20
    have I := gI_b Va n
    have hlt : i < (gst Va n).1 := by omega
    have hin : i < n := Nat.lt_of_lt_of_le hlt I.1
    have hp1 := hp.frg H0 hf
    obtain ⟨q0, q1, q2, q5, -, q34⟩ := hr i hlt
    obtain ⟨q3, q4⟩ := q34 (Nat.le_refl _)
    have hle := I.2.2.2.2.1 i hlt
    refine rx_iload_n d_Repeats_gather_43 (by rfl) ?_
    refine rx_aload_nr d_Repeats_gather_44 (by rfl) ?_
    refine rx_getfield d_Repeats_gather_45 fl_Repeats_24 H.1 (by rfl) ?_
    refine rx_icmp_ge (tgt := 68) d_Repeats_gather_48 (by rfl) (fun z => absurd z (nI_ge hlt (by have := I.1; omega))) (fun c48 => ?_)
    refine rx_aload_nr d_Repeats_gather_51 (by rfl) ?_
    refine rx_aload_nr d_Repeats_gather_52 (by rfl) ?_
    refine rx_aload_nr d_Repeats_gather_53 (by rfl) ?_
    refine rx_getfield d_Repeats_gather_54 fl_Repeats_11 H.1 (by rfl) ?_
    refine rx_iload_n d_Repeats_gather_57 (by rfl) ?_
    refine rx_aaload d_Repeats_gather_58 (by rfl) H.2.1 (vp_in_nI hin (by omega)) ?_
    rw [i_cl (by omega), H.2.2.2.2.1 i hin]
    refine rx_pV d_Repeats_gather_59 (by rfl) ml_Repeats_32 im_Repeats_gatherEndings se_Repeats_gatherEndings (by exact c9_Repeats_gatherEndings) H.1 (by rfl) (by exact Nat.le_of_ble_eq_true rfl) (c_gatherEndings hD hp1 H hin q0 q1 q2 q3 q4 ⟨hle.1, hle.2.1, Nat.lt_of_lt_of_le hle.2.2.1 I.2.1⟩ (fun x r z => Nat.lt_of_lt_of_le (I.2.2.2.2.2.2.1 x r z).1 I.1) (fun x z => Nat.lt_irrefl _ (gG_lt z))) ?_
    intro h2 z9
    obtain ⟨R2, H2, o2, k2, F2, L2, f2⟩ := z9
    refine rx_iinc (v := nI (i + 1)) d_Repeats_gather_62 (by rfl) (i_inc i) ?_
    refine rx_goto (tgt := 43) d_Repeats_gather_65 (by rfl) ?_
    refine ih (i + 1) h2 R2 (by omega) H2 (fun r hl => ?_) (hf.tr f2)
    obtain ⟨p0, p1, p2, p5, pa, pb⟩ := hr r hl
    by_cases e : r = i
    · subst e
      exact ⟨(k2 0 (by omega) (by omega)).trans p0, (k2 1 (by omega) (by omega)).trans p1, (k2 2 (by omega) (by omega)).trans p2, (k2 5 (by omega) (by omega)).trans p5, fun _ => ⟨F2, L2⟩, fun z => by omega⟩
    · rw [o2 r e]
      refine ⟨p0, p1, p2, p5, fun z => ?_, fun z => pb (by omega)⟩
      have w := pa (by omega)
      exact ⟨isF_c w.1 (fun x => gEs_o e), isL_c w.2 (fun x => gEs_o e)⟩
theorem l_gather1 (hD : aA ≠ aE ∧ aA ≠ aG ∧ aE ≠ aG) (hp : is_pg V h aP n al at_ av Le Te Va) {num0 : Nat} {fE0 fG0 : Nat → Option Nat} {R0 : Nat → Nat → Int32} (H0 : is_rp V h a n aA aE aG num0 fA fE0 fG0 ra R0) (hE0 : ∀ x, n ≤ x → fE0 x = none) (hG0 : ∀ x, n ≤ x → fG0 x = none) : ∀ (m i : Nat) (h1 : List va_E) (fE1 fG1 : Nat → Option Nat), i + m = n → is_rp V h1 a n aA aE aG 0 fA fE1 fG1 ra R0 → (∀ x, fE1 x = if x < i then none else fE0 x) → (∀ x, fG1 x = if x < i then none else fG0 x) → rx_fr V h h1 (fp_g a n aE aG ra) →
    rx_W V (d + 4) kc ks m_Repeats_gather 7 [some (.ref a), some (.ref aP), some (.int (nI i))] [] h1 (fun r9 h' => r9 = .inl none ∧ ∃ R', is_rp V h' a n aA aE aG (gst Va n).1 fA (fun x => (gO (gst Va n) x).map ra) (fun x => (gG n Va (gst Va n) (gst Va n).1 x).map ra) ra R' ∧ roG (gst Va n) (gG n Va (gst Va n) (gst Va n).1) R' ∧ rx_fr V h h' (fp_g a n aE aG ra)) := by
  intro m
  induction m with
  | zero =>
    intro i h1 fE1 fG1 hi H hE hG hf
    have hi9 : i = n := by omega
    subst hi9
    have eE : fE1 = fun _ => none := by
      funext x
      rw [hE x]
      by_cases c : x < i
      · rw [if_pos c]
      · rw [if_neg c]; exact hE0 x (by omega)
    have eG : fG1 = fun _ => none := by
      funext x
      rw [hG x]
      by_cases c : x < i
      · rw [if_pos c]
      · rw [if_neg c]; exact hG0 x (by omega)
    subst eE eG
    have hp1 := hp.frg H0 hf
    refine rx_iload_n d_Repeats_gather_7 (by rfl) ?_
    refine rx_aload_nr d_Repeats_gather_8 (by rfl) ?_
    refine rx_getfield d_Repeats_gather_9 fl_Repeats_17 H.1 (by rfl) ?_
    refine rx_alen d_Repeats_gather_12 (by rfl) H.2.2.1 ?_
    refine rx_icmp_ge (tgt := 36) d_Repeats_gather_13 (by rfl) (fun c13 => ?_) (fun z => absurd (Int32.le_refl _) z)
    refine rx_aload_nr d_Repeats_gather_36 (by rfl) ?_
    refine rx_aload_nr d_Repeats_gather_37 (by rfl) ?_
    refine rx_pV d_Repeats_gather_38 (by rfl) ml_Repeats_28 im_Repeats_gatherEnds se_Repeats_gatherEnds (by exact c9_Repeats_gatherEnds) H.1 (by rfl) (by exact Nat.le_of_ble_eq_true rfl) (c_gatherEnds hD hp1 H) ?_
    intro h2 z9
    obtain ⟨R2, H2, o2, f2⟩ := z9
    refine rx_iconst (v := 0) d_Repeats_gather_41 (by decide) ?_
    refine rx_istore_n d_Repeats_gather_42 (Nat.le_of_ble_eq_true rfl) ?_
    exact l_gather2 hD hp H0 (gst Va i).1 0 h2 R2 (by omega) H2 (fun r hl => ⟨(o2 r hl).1, (o2 r hl).2.1, (o2 r hl).2.2.1, (o2 r hl).2.2.2.2.2, fun z => absurd z (Nat.not_lt_zero _), fun _ => ⟨(o2 r hl).2.2.2.1, (o2 r hl).2.2.2.2.1⟩⟩) (hf.tr f2)
  | succ m ih =>
    intro i h1 fE1 fG1 hi H hE hG hf
    have hn := H.n20
    have hin : i < n := by omega
    refine rx_iload_n d_Repeats_gather_7 (by rfl) ?_
    refine rx_aload_nr d_Repeats_gather_8 (by rfl) ?_
    refine rx_getfield d_Repeats_gather_9 fl_Repeats_17 H.1 (by rfl) ?_
    refine rx_alen d_Repeats_gather_12 (by rfl) H.2.2.1 ?_
    refine rx_icmp_ge (tgt := 36) d_Repeats_gather_13 (by rfl) (fun z => absurd z (nI_ge hin (by omega))) (fun c13 => ?_)
    refine rx_aload_nr d_Repeats_gather_16 (by rfl) ?_
    refine rx_getfield d_Repeats_gather_17 fl_Repeats_17 H.1 (by rfl) ?_
    refine rx_iload_n d_Repeats_gather_20 (by rfl) ?_
    refine rx_null d_Repeats_gather_21 ?_
    refine rx_aastoreN d_Repeats_gather_22 (by rfl) H.2.2.1 (vp_in_nI hin (by omega)) ?_
    rw [i_cl (by omega)]
    have H2 := H.setE (f' := va_up fE1 i none) hD.1 (Ne.symm hD.2.2)
    refine rx_aload_nr d_Repeats_gather_23 (by rfl) ?_
    refine rx_getfield d_Repeats_gather_24 fl_Repeats_20 H2.1 (by rfl) ?_
    refine rx_iload_n d_Repeats_gather_27 (by rfl) ?_
    refine rx_null d_Repeats_gather_28 ?_
    refine rx_aastoreN d_Repeats_gather_29 (by rfl) H2.2.2.2.1 (vp_in_nI hin (by omega)) ?_
    rw [i_cl (by omega)]
    refine rx_iinc (v := nI (i + 1)) d_Repeats_gather_30 (by rfl) (i_inc i) ?_
    refine rx_goto (tgt := 7) d_Repeats_gather_33 (by rfl) ?_
    refine ih (i + 1) _ _ _ (by omega) (H2.setG hD.2.1 hD.2.2) (fun x => ?_) (fun x => ?_) (hf.tr ((rx_fr.wr H.2.2.1 (Or.inr (Or.inl rfl))).tr (rx_fr.wr H2.2.2.2.1 (Or.inr (Or.inr (Or.inl rfl))))))
    · rw [up_va]
      by_cases e : x = i
      · subst e; rw [up_s, if_pos (by omega)]
      · rw [up_o e, hE x]
        by_cases c : x < i
        · rw [if_pos c, if_pos (by omega)]
        · rw [if_neg c, if_neg (by omega)]
    · rw [up_va]
      by_cases e : x = i
      · subst e; rw [up_s, if_pos (by omega)]
      · rw [up_o e, hG x]
        by_cases c : x < i
        · rw [if_pos c, if_pos (by omega)]
        · rw [if_neg c, if_neg (by omega)]
theorem c_gather (hD : aA ≠ aE ∧ aA ≠ aG ∧ aE ≠ aG) (hp : is_pg V h aP n al at_ av Le Te Va) (H : is_rp V h a n aA aE aG num fA fE fG ra R) (hE0 : ∀ x, n ≤ x → fE x = none) (hG0 : ∀ x, n ≤ x → fG x = none) : rx_C V (d + 4) kc ks m_Repeats_gather [.ref a, .ref aP] h (fun r9 h' => r9 = .inl none ∧ ∃ R', is_rp V h' a n aA aE aG (gst Va n).1 fA (fun x => (gO (gst Va n) x).map ra) (fun x => (gG n Va (gst Va n) (gst Va n).1 x).map ra) ra R' ∧ roG (gst Va n) (gG n Va (gst Va n) (gst Va n).1) R' ∧ rx_fr V h h' (fp_g a n aE aG ra)) := by
  refine rx_aload_nr d_Repeats_gather_0 (by rfl) ?_
  refine rx_iconst (v := 0) d_Repeats_gather_1 (by decide) ?_
  refine rx_putfield d_Repeats_gather_2 (fw_Repeats_24 rfl) H.1 (Nat.le_of_ble_eq_true rfl) (by rfl) (by rfl) ?_
  refine rx_iconst (v := 0) d_Repeats_gather_5 (by decide) ?_
  refine rx_istore_n d_Repeats_gather_6 (Nat.le_of_ble_eq_true rfl) ?_
  have H2 := H.num (num' := 0) (Nat.zero_le _)
  exact l_gather1 hD hp H hE0 hG0 n 0 _ fE fG (by omega) H2 (fun x => (if_neg (Nat.not_lt_zero x)).symm) (fun x => (if_neg (Nat.not_lt_zero x)).symm) (rx_fr.wr H.1 (Or.inl rfl))
end GH
end
section
/-! Faults -/
noncomputable def bP (p : Prop) : Int32 := @ite _ p (Classical.propDecidable p) 1 0
noncomputable def pB (p : Prop) : Bool := @decide p (Classical.propDecidable p)
theorem bP_t {p : Prop} (h : p) : bP p = 1 := if_pos h
theorem bP_f {p : Prop} (h : ¬ p) : bP p = 0 := if_neg h
theorem bP_0 {p : Prop} : bP p = 0 ↔ ¬ p := ⟨fun z w => absurd ((bP_t w).symm.trans z) (by decide), bP_f⟩
theorem bP_1 {p : Prop} : ¬ bP p = 0 ↔ p := by rw [bP_0]; exact Classical.not_not
theorem bP_z {p : Prop} : narrow .boolean (.int (bP p)) = .int (bP p) := by
  by_cases h : p
  · rw [bP_t h]; rfl
  · rw [bP_f h]; rfl
theorem bP_c {p q : Prop} (h : p ↔ q) : bP p = bP q := by rw [propext h]
theorem pB_t {p : Prop} : pB p = true ↔ p := by exact @decide_eq_true_iff p (Classical.propDecidable p)
theorem pB_f {p : Prop} : pB p = false ↔ ¬ p := by exact @decide_eq_false_iff_not p (Classical.propDecidable p)
/-- a START at b0 is never ended -/
def nvr (Va : Nat → Int32) (b0 : Nat) : Nat → Nat → Bool
  | _, 0 => true
  | i, m + 1 => if b0 < i ∧ hb Va 0 i = true then true else if hb Va 1 i = true then false else nvr Va b0 (i + 1) m
def jsg (v : Int32) : Prop := (v - 1) - (v - 1) / 2 * 2 = 1
def jwy (v : Int32) : Int32 := (v - 1) / 2 - (v - 1) / 2 / 3 * 3
def jta (n : Nat) (Va : Nat → Int32) (b : Nat) : Int32 := if (Va (10 * b + 7) - 1) - (Va (10 * b + 7) - 1) / 2 * 2 = 1 then lwi n Va 3 0 (nI b) else 0
/-- the passes that r's endings among the places have, or a clash -/
def pwf (Va : Nat → Int32) (g : Nat → Option Nat) (r : Nat) : Int32 → Nat → Nat → Option Int32
  | x, _, 0 => some x
  | x, i, m + 1 => if g i = some r then (if x &&& Va (10 * i + 2) = 0 then pwf Va g r (x ||| Va (10 * i + 2)) (i + 1) m else none) else pwf Va g r x (i + 1) m
/-- whether the passes of r's endings, whose last is l, are wrong -/
def pww (Va : Nat → Int32) (s : gT) (g : Nat → Option Nat) (r l : Nat) : Prop := ∀ x, pwf Va g r 0 (gF s r) (l + 1 - gF s r) = some x → x ≠ (1 <<< (gC s r &&& 31)) - 1 ∨ Va (10 * l + 2) &&& (1 <<< ((gC s r - 1) &&& 31)) = 0
def FT (n : Nat) (Va : Nat → Int32) (s : gT) (g : Nat → Option Nat) (k b : Nat) : Prop := match k with
  | 1 => hb Va 0 b = true ∧ nvr Va b b (n - b) = true
  | 2 => hb Va 2 b = true ∧ ∀ r, g b = some r → b ≤ gE s r ∧ ∃ y, y < b ∧ g y = some r
  | 3 => hb Va 1 b = true ∧ ∃ r, gO s b = some r ∧ (∃ x, g x = some r) ∧ (Va (10 * b + 1) ≠ gC s r ∨ g (b + 1) ≠ some r)
  | 4 => ∃ r l, r < s.1 ∧ gF s r = b ∧ g l = some r ∧ (∀ y, g y = some r → y ≤ l) ∧ pww Va s g r l
  | 5 => ∃ k, (k = 3 ∨ k = 4 ∨ k = 7) ∧ hb Va k b = true ∧ ∃ y, y < b ∧ hb Va k y = true
  | 6 => hb Va 7 b = true ∧ jta n Va b = -1
  | _ => hb Va 7 b = true ∧ ((jwy (Va (10 * b + 7)) = 1 ∧ lwi n Va 5 (jta n Va b) (nI b) = -1) ∨ (jwy (Va (10 * b + 7)) = 2 ∧ (lwi n Va 6 (jta n Va b) (nI b) = -1 ∨ lwi n Va 4 (nI (b + 1)) (nI n - 1) = -1)))
theorem lwf_m1 {Pr : Nat → Bool} {lo : Int} {m : Nat} : lwf Pr lo m = -1 ↔ ∀ j : Nat, lo ≤ j → j < m → Pr j = false := by
  induction m with
  | zero => exact ⟨fun _ j _ h => absurd h (Nat.not_lt_zero _), fun _ => rfl⟩
  | succ m ih =>
    by_cases h1 : (m : Int) < lo
    · rw [lwf_out h1]
      exact ⟨fun _ j h2 h3 => by omega, fun _ => rfl⟩
    · cases h2 : Pr m with
      | true =>
        rw [lwf_yes h1 h2]
        exact ⟨fun z => by omega, fun z => absurd ((z m (by omega) (by omega)).symm.trans h2) (by decide)⟩
      | false =>
        rw [lwf_no h1 h2, ih]
        constructor
        · intro z j h3 h4
          by_cases e : j = m
          · rw [e]; exact h2
          · exact z j h3 (by omega)
        · exact fun z j h3 h4 => z j h3 (by omega)
section FA
variable {V : rx_V} {d kc ks a n aA aE aG num q aP al at_ av b : Nat} {h : List va_E} {fA : Nat → Option Nat} {ra : Nat → Nat} {R : Nat → Nat → Int32} {Le Te Va : Nat → Int32} {s : gT} {g : Nat → Option Nat}
theorem c_target (hp : is_pg V h aP n al at_ av Le Te Va) (hbn : b < n) : rx_C V (d + 2) kc ks m_Jump_target [.ref aP, .int (nI b)] h (rx_X (.inl (some (.int (jta n Va b)))) h) := by
  have hn : n ≤ 20 := hp.2.2.2.2
  have hv : pgv n Va (nI b) 7 = Va (10 * b + 7) := pgv_k hn hbn (by omega) rfl
  refine rx_aload_nr d_Jump_target_0 (by rfl) ?_
  refine rx_iload_n d_Jump_target_1 (by rfl) ?_
  refine rx_bipush (v := 7) d_Jump_target_2 (by decide) ?_
  refine rx_cV d_Jump_target_4 (by rfl) ml_Jump_9 im_Page_value se_Page_value (by exact c9_Page_value) hp.1 (by rfl) (by exact Nat.le_of_ble_eq_true rfl) (c_value hp (nI b) 7) ?_
  rw [hv]
  refine rx_cS d_Jump_target_7 ml_Jump_15 st_Jump_isToSegno (by exact c9_Jump_isToSegno) (by rfl) (by exact Nat.le_of_ble_eq_true rfl) (c_isToSegno _) ?_
  refine rx_if_eq (tgt := 23) d_Jump_target_10 (by rfl) (fun c10 => ?_) (fun c10 => ?_)
  · have z := ite10.mp c10
    refine rx_iconst (v := 0) d_Jump_target_23 (by decide) ?_
    refine rx_ireturn d_Jump_target_24 (by rfl) ?_
    exact ⟨by unfold jta; first | (rw [if_pos z]; done) | (rw [if_neg z]; done), rfl⟩
  · have z := ite11.mp c10
    refine rx_aload_nr d_Jump_target_13 (by rfl) ?_
    refine rx_iconst (v := 3) d_Jump_target_14 (by decide) ?_
    refine rx_iconst (v := 0) d_Jump_target_15 (by decide) ?_
    refine rx_iload_n d_Jump_target_16 (by rfl) ?_
    refine rx_cV d_Jump_target_17 (by rfl) ml_Jump_21 im_Page_lastWith se_Page_lastWith (by exact c9_Page_lastWith) hp.1 (by rfl) (by exact Nat.le_of_ble_eq_true rfl) (c_lw hp (k := 3) (by omega) 0 (nI b)) ?_
    refine rx_goto (tgt := 24) d_Jump_target_20 (by rfl) ?_
    refine rx_ireturn d_Jump_target_24 (by rfl) ?_
    exact ⟨by unfold jta; first | (rw [if_pos z]; done) | (rw [if_neg z]; done), rfl⟩
theorem nvr_1 {b0 i m : Nat} (h1 : b0 < i) (h2 : hb Va 0 i = true) : nvr Va b0 i (m + 1) = true := if_pos ⟨h1, h2⟩
theorem nvr_2 {b0 i m : Nat} (h1 : ¬ (b0 < i ∧ hb Va 0 i = true)) (h2 : hb Va 1 i = true) : nvr Va b0 i (m + 1) = false := (if_neg h1).trans (if_pos h2)
theorem nvr_3 {b0 i m : Nat} (h1 : ¬ (b0 < i ∧ hb Va 0 i = true)) (h2 : hb Va 1 i = false) : nvr Va b0 i (m + 1) = nvr Va b0 (i + 1) m := (if_neg h1).trans (if_neg (by rw [h2]; decide))
theorem l_isNeverEnded (hp : is_pg V h aP n al at_ av Le Te Va) (hbn : b < n) : ∀ (m i : Nat), i + m = n → rx_W V (d + 2) kc ks m_Faults_isNeverEnded 2 [some (.ref aP), some (.int (nI b)), some (.int (nI i))] [] h (rx_X (.inl (some (.int (if nvr Va b i m = true then 1 else 0)))) h) := by
  have hn : n ≤ 20 := hp.2.2.2.2
  intro m
  induction m with
  | zero =>
    intro i hi
    have hi9 : i = n := by omega
    subst hi9
    refine rx_iload_n d_Faults_isNeverEnded_2 (by rfl) ?_
    refine rx_aload_nr d_Faults_isNeverEnded_3 (by rfl) ?_
    refine rx_getfield d_Faults_isNeverEnded_4 fl_Faults_11 hp.1 (by rfl) ?_
    refine rx_icmp_ge (tgt := 43) d_Faults_isNeverEnded_7 (by rfl) (fun c7 => ?_) (fun z => absurd (Int32.le_refl _) z)
    refine rx_iconst (v := 1) d_Faults_isNeverEnded_43 (by decide) ?_
    refine rx_zreturn d_Faults_isNeverEnded_44 (by rfl) (by rfl) ?_
    exact ⟨rfl, rfl⟩
  | succ m ih =>
    intro i hi
    have hin : i < n := by omega
    have v0 : pgv n Va (nI i) 0 = Va (10 * i + 0) := pgv_k hn hin (by omega) rfl
    have v1 : pgv n Va (nI i) 1 = Va (10 * i + 1) := pgv_k hn hin (by omega) rfl
    refine rx_iload_n d_Faults_isNeverEnded_2 (by rfl) ?_
    refine rx_aload_nr d_Faults_isNeverEnded_3 (by rfl) ?_
    refine rx_getfield d_Faults_isNeverEnded_4 fl_Faults_11 hp.1 (by rfl) ?_
    refine rx_icmp_ge (tgt := 43) d_Faults_isNeverEnded_7 (by rfl) (fun z => absurd z (nI_ge hin (by omega))) (fun c7 => ?_)
    refine rx_iload_n d_Faults_isNeverEnded_10 (by rfl) ?_
    refine rx_iload_n d_Faults_isNeverEnded_11 (by rfl) ?_
    refine rx_icmp_le (tgt := 26) d_Faults_isNeverEnded_12 (by rfl) (fun c12 => ?_) (fun c12 => ?_)
    · have w : ¬ (b < i ∧ hb Va 0 i = true) := fun z => nI_ge z.1 (by omega) c12
      refine rx_aload_nr d_Faults_isNeverEnded_26 (by rfl) ?_
      refine rx_iload_n d_Faults_isNeverEnded_27 (by rfl) ?_
      refine rx_iconst (v := 1) d_Faults_isNeverEnded_28 (by decide) ?_
      refine rx_cV d_Faults_isNeverEnded_29 (by rfl) ml_Faults_21 im_Page_has se_Page_has (by exact c9_Page_has) hp.1 (by rfl) (by exact Nat.le_of_ble_eq_true rfl) (c_has hp (nI i) 1) ?_
      rw [v1]
      refine rx_if_eq (tgt := 37) d_Faults_isNeverEnded_32 (by rfl) (fun c32 => ?_) (fun c32 => ?_)
      · refine rx_iinc (v := nI (i + 1)) d_Faults_isNeverEnded_37 (by rfl) (i_inc i) ?_
        refine rx_goto (tgt := 2) d_Faults_isNeverEnded_40 (by rfl) ?_
        rw [nvr_3 w (hb_f.mpr (ite01.mp c32))]
        exact ih (i + 1) (by omega)
      · refine rx_iconst (v := 0) d_Faults_isNeverEnded_35 (by decide) ?_
        refine rx_zreturn d_Faults_isNeverEnded_36 (by rfl) (by rfl) ?_
        exact ⟨by rw [nvr_2 w (hb_t.mpr (fun z => c32 (ite01.mpr z)))]; rfl, rfl⟩
    · have w0 : b < i := by rw [nI_leI (by omega) (by omega)] at c12; omega
      refine rx_aload_nr d_Faults_isNeverEnded_15 (by rfl) ?_
      refine rx_iload_n d_Faults_isNeverEnded_16 (by rfl) ?_
      refine rx_iconst (v := 0) d_Faults_isNeverEnded_17 (by decide) ?_
      refine rx_cV d_Faults_isNeverEnded_18 (by rfl) ml_Faults_21 im_Page_has se_Page_has (by exact c9_Page_has) hp.1 (by rfl) (by exact Nat.le_of_ble_eq_true rfl) (c_has hp (nI i) 0) ?_
      rw [v0]
      refine rx_if_eq (tgt := 26) d_Faults_isNeverEnded_21 (by rfl) (fun c21 => ?_) (fun c21 => ?_)
      · have w : ¬ (b < i ∧ hb Va 0 i = true) := fun z => hb_t.mp z.2 (ite01.mp c21)
        refine rx_aload_nr d_Faults_isNeverEnded_26 (by rfl) ?_
        refine rx_iload_n d_Faults_isNeverEnded_27 (by rfl) ?_
        refine rx_iconst (v := 1) d_Faults_isNeverEnded_28 (by decide) ?_
        refine rx_cV d_Faults_isNeverEnded_29 (by rfl) ml_Faults_21 im_Page_has se_Page_has (by exact c9_Page_has) hp.1 (by rfl) (by exact Nat.le_of_ble_eq_true rfl) (c_has hp (nI i) 1) ?_
        rw [v1]
        refine rx_if_eq (tgt := 37) d_Faults_isNeverEnded_32 (by rfl) (fun c32 => ?_) (fun c32 => ?_)
        · refine rx_iinc (v := nI (i + 1)) d_Faults_isNeverEnded_37 (by rfl) (i_inc i) ?_
          refine rx_goto (tgt := 2) d_Faults_isNeverEnded_40 (by rfl) ?_
          rw [nvr_3 w (hb_f.mpr (ite01.mp c32))]
          exact ih (i + 1) (by omega)
        · refine rx_iconst (v := 0) d_Faults_isNeverEnded_35 (by decide) ?_
          refine rx_zreturn d_Faults_isNeverEnded_36 (by rfl) (by rfl) ?_
          exact ⟨by rw [nvr_2 w (hb_t.mpr (fun z => c32 (ite01.mpr z)))]; rfl, rfl⟩
      · refine rx_iconst (v := 1) d_Faults_isNeverEnded_24 (by decide) ?_
        refine rx_zreturn d_Faults_isNeverEnded_25 (by rfl) (by rfl) ?_
        exact ⟨by rw [nvr_1 w0 (hb_t.mpr (fun z => c21 (ite01.mpr z)))]; rfl, rfl⟩
theorem c_isNeverEnded (hp : is_pg V h aP n al at_ av Le Te Va) (hbn : b < n) : rx_C V (d + 2) kc ks m_Faults_isNeverEnded [.ref aP, .int (nI b)] h (rx_X (.inl (some (.int (if nvr Va b b (n - b) = true then 1 else 0)))) h) := by
  refine rx_iload_n d_Faults_isNeverEnded_0 (by rfl) ?_
  refine rx_istore_n d_Faults_isNeverEnded_1 (Nat.le_of_ble_eq_true rfl) ?_
  exact l_isNeverEnded hp hbn (n - b) b (by omega)
theorem c_isStrayEnding (H : is_rp V h a n aA aE aG s.1 fA (fun x => (gO s x).map ra) (fun x => (g x).map ra) ra R) (hr : roG s g R) (I : gI Va n s) (hg : ∀ x r, g x = some r → r < s.1 ∧ x < n ∧ gF s r ≤ x) (hbn : b < n) : rx_C V (d + 1) kc ks m_Faults_isStrayEnding [.ref a, .int (nI b)] h (rx_X (.inl (some (.int (bP (∀ r, g b = some r → b ≤ gE s r ∧ ∃ y, y < b ∧ g y = some r))))) h) := by
  have hn := H.n20
  cases hgb : g b with
  | none =>
    have z : ∀ r, (none : Option Nat) = some r → b ≤ gE s r ∧ ∃ y, y < b ∧ g y = some r := fun r w => (nomatch w)
    refine rx_aload_nr d_Faults_isStrayEnding_0 (by rfl) ?_
    refine rx_iload_n d_Faults_isStrayEnding_1 (by rfl) ?_
    refine rx_cV d_Faults_isStrayEnding_2 (by rfl) ml_Faults_53 im_Repeats_ofEnding se_Repeats_ofEnding (by exact c9_Repeats_ofEnding) H.1 (by rfl) (by exact Nat.le_of_ble_eq_true rfl) (c_ofEnding H (nI b)) ?_
    rw [ogt_nn (by omega) hbn, hgb]
    refine rx_astore_nN d_Faults_isStrayEnding_5 (Nat.le_of_ble_eq_true rfl) ?_
    refine rx_aload_nN d_Faults_isStrayEnding_6 (by rfl) ?_
    refine rx_ifnull_N (tgt := 26) d_Faults_isStrayEnding_7 (by rfl) ?_
    refine rx_iconst (v := 1) d_Faults_isStrayEnding_26 (by decide) ?_
    refine rx_goto (tgt := 31) d_Faults_isStrayEnding_27 (by rfl) ?_
    refine rx_zreturn d_Faults_isStrayEnding_31 (by rfl) (by rfl) ?_
    exact ⟨by first | (rw [bP_t z]; done) | (rw [bP_f z]; done), rfl⟩
  | some r =>
    have hrn : r < s.1 := (hg b r hgb).1
    have hrN : r < n := Nat.lt_of_lt_of_le hrn I.1
    have hEn : gE s r < n := by have := I.2.2.2.2.1 r hrn; have := I.2.1; omega
    obtain ⟨f9, F1, F2, F3, F4⟩ : ∃ f9, R r 3 = nI f9 ∧ f9 < 20 ∧ g f9 = some r ∧ ∀ y, g y = some r → f9 ≤ y := by
      obtain ⟨-, w⟩ | w := (hr r hrn).2.2.2.2.1
      · exact absurd hgb (w b)
      · exact w
    refine rx_aload_nr d_Faults_isStrayEnding_0 (by rfl) ?_
    refine rx_iload_n d_Faults_isStrayEnding_1 (by rfl) ?_
    refine rx_cV d_Faults_isStrayEnding_2 (by rfl) ml_Faults_53 im_Repeats_ofEnding se_Repeats_ofEnding (by exact c9_Repeats_ofEnding) H.1 (by rfl) (by exact Nat.le_of_ble_eq_true rfl) (c_ofEnding H (nI b)) ?_
    rw [ogt_nn (by omega) hbn, hgb]
    show rx_W V (d + 1) kc ks m_Faults_isStrayEnding 5 _ [.ref (ra r)] h _
    refine rx_astore_nr d_Faults_isStrayEnding_5 (Nat.le_of_ble_eq_true rfl) ?_
    refine rx_aload_nr d_Faults_isStrayEnding_6 (by rfl) ?_
    refine rx_ifnull_r (tgt := 26) d_Faults_isStrayEnding_7 (by rfl) ?_
    refine rx_iload_n d_Faults_isStrayEnding_10 (by rfl) ?_
    refine rx_aload_nr d_Faults_isStrayEnding_11 (by rfl) ?_
    refine rx_getfield d_Faults_isStrayEnding_12 fl_Faults_59 (H.cell hrN) (by rfl) ?_
    rw [(hr r hrn).2.1]
    refine rx_icmp_gt (tgt := 30) d_Faults_isStrayEnding_15 (by rfl) (fun c15 => ?_) (fun c15 => ?_)
    · have z : ¬ (∀ r', (some r : Option Nat) = some r' → b ≤ gE s r' ∧ ∃ y, y < b ∧ g y = some r') := fun w => by have := (w r rfl).1; exact nI_nlt this (by omega) c15
      refine rx_iconst (v := 0) d_Faults_isStrayEnding_30 (by decide) ?_
      refine rx_zreturn d_Faults_isStrayEnding_31 (by rfl) (by rfl) ?_
      exact ⟨by first | (rw [bP_t z]; done) | (rw [bP_f z]; done), rfl⟩
    · have z1 : b ≤ gE s r := by rw [nI_ltI (by omega) (by omega)] at c15; omega
      refine rx_iload_n d_Faults_isStrayEnding_18 (by rfl) ?_
      refine rx_aload_nr d_Faults_isStrayEnding_19 (by rfl) ?_
      refine rx_getfield d_Faults_isStrayEnding_20 fl_Faults_64 (H.cell hrN) (by rfl) ?_
      rw [F1]
      refine rx_icmp_eq (tgt := 30) d_Faults_isStrayEnding_23 (by rfl) (fun c23 => ?_) (fun c23 => ?_)
      · have z2 : b = f9 := (nI_eq (by omega) (by omega)).mp c23
        have z : ¬ (∀ r', (some r : Option Nat) = some r' → b ≤ gE s r' ∧ ∃ y, y < b ∧ g y = some r') := fun w => by obtain ⟨y, y1, y2⟩ := (w r rfl).2; have := F4 y y2; omega
        refine rx_iconst (v := 0) d_Faults_isStrayEnding_30 (by decide) ?_
        refine rx_zreturn d_Faults_isStrayEnding_31 (by rfl) (by rfl) ?_
        exact ⟨by first | (rw [bP_t z]; done) | (rw [bP_f z]; done), rfl⟩
      · have z2 : b ≠ f9 := fun w => c23 (by rw [w])
        have z : (∀ r', (some r : Option Nat) = some r' → b ≤ gE s r' ∧ ∃ y, y < b ∧ g y = some r') := fun r9 e => by cases e; exact ⟨z1, f9, by have := F4 b hgb; omega, F3⟩
        refine rx_iconst (v := 1) d_Faults_isStrayEnding_26 (by decide) ?_
        refine rx_goto (tgt := 31) d_Faults_isStrayEnding_27 (by rfl) ?_
        refine rx_zreturn d_Faults_isStrayEnding_31 (by rfl) (by rfl) ?_
        exact ⟨by first | (rw [bP_t z]; done) | (rw [bP_f z]; done), rfl⟩
theorem ogt_g (H : is_rp V h a n aA aE aG s.1 fA (fun x => (gO s x).map ra) (fun x => (g x).map ra) ra R) (hr : roG s g R) (I : gI Va n s) (hg : ∀ x r, g x = some r → r < s.1 ∧ x < n ∧ gF s r ≤ x) (x : Nat) (hx : x ≤ 1000) : ogt n (fun x => (g x).map ra) (nI x) = (g x).map ra := by
  have hn := H.n20
  by_cases c : x < n
  · rw [ogt_nn (by omega) c]
  · rw [ogt_n (by omega) (nI_le (by omega) (by omega))]
    cases z : g x with
    | none => rfl
    | some r => exact absurd (hg x r z).2.1 c
theorem c_isUnlike (hp : is_pg V h aP n al at_ av Le Te Va) (H : is_rp V h a n aA aE aG s.1 fA (fun x => (gO s x).map ra) (fun x => (g x).map ra) ra R) (hr : roG s g R) (I : gI Va n s) (hg : ∀ x r, g x = some r → r < s.1 ∧ x < n ∧ gF s r ≤ x) (hbn : b < n) : rx_C V (d + 1) kc ks m_Faults_isUnlikeItsRepeat [.ref aP, .ref a, .int (nI b)] h (rx_X (.inl (some (.int (bP (∃ r, gO s b = some r ∧ (∃ x, g x = some r) ∧ (Va (10 * b + 1) ≠ gC s r ∨ g (b + 1) ≠ some r)))))) h) := by
  have hn := H.n20
  have hv : pgv n Va (nI b) 1 = Va (10 * b + 1) := pgv_k hn hbn (by omega) rfl
  cases hgb : gO s b with
  | none =>
    have z : ¬ (∃ r, (none : Option Nat) = some r ∧ (∃ x, g x = some r) ∧ (Va (10 * b + 1) ≠ gC s r ∨ g (b + 1) ≠ some r)) := fun ⟨r, w, _⟩ => by cases w
    refine rx_aload_nr d_Faults_isUnlikeItsRepeat_0 (by rfl) ?_
    refine rx_iload_n d_Faults_isUnlikeItsRepeat_1 (by rfl) ?_
    refine rx_cV d_Faults_isUnlikeItsRepeat_2 (by rfl) ml_Faults_67 im_Repeats_ofEnd se_Repeats_ofEnd (by exact c9_Repeats_ofEnd) H.1 (by rfl) (by exact Nat.le_of_ble_eq_true rfl) (c_ofEnd H (nI b)) ?_
    rw [ogt_nn (by omega) hbn, hgb]
    refine rx_astore_nN d_Faults_isUnlikeItsRepeat_5 (Nat.le_of_ble_eq_true rfl) ?_
    refine rx_aload_nN d_Faults_isUnlikeItsRepeat_6 (by rfl) ?_
    refine rx_ifnull_N (tgt := 17) d_Faults_isUnlikeItsRepeat_7 (by rfl) ?_
    refine rx_iconst (v := 0) d_Faults_isUnlikeItsRepeat_17 (by decide) ?_
    refine rx_zreturn d_Faults_isUnlikeItsRepeat_18 (by rfl) (by rfl) ?_
    exact ⟨by first | (rw [bP_t z]; done) | (rw [bP_f z]; done), rfl⟩
  | some r =>
    have hrn : r < s.1 := (I.2.2.2.2.2.2.1 b r hgb).1
    have hrN : r < n := Nat.lt_of_lt_of_le hrn I.1
    refine rx_aload_nr d_Faults_isUnlikeItsRepeat_0 (by rfl) ?_
    refine rx_iload_n d_Faults_isUnlikeItsRepeat_1 (by rfl) ?_
    refine rx_cV d_Faults_isUnlikeItsRepeat_2 (by rfl) ml_Faults_67 im_Repeats_ofEnd se_Repeats_ofEnd (by exact c9_Repeats_ofEnd) H.1 (by rfl) (by exact Nat.le_of_ble_eq_true rfl) (c_ofEnd H (nI b)) ?_
    rw [ogt_nn (by omega) hbn, hgb]
    show rx_W V (d + 1) kc ks m_Faults_isUnlikeItsRepeat 5 _ [.ref (ra r)] h _
    refine rx_astore_nr d_Faults_isUnlikeItsRepeat_5 (Nat.le_of_ble_eq_true rfl) ?_
    refine rx_aload_nr d_Faults_isUnlikeItsRepeat_6 (by rfl) ?_
    refine rx_ifnull_r (tgt := 17) d_Faults_isUnlikeItsRepeat_7 (by rfl) ?_
    refine rx_aload_nr d_Faults_isUnlikeItsRepeat_10 (by rfl) ?_
    refine rx_cV d_Faults_isUnlikeItsRepeat_11 (by rfl) ml_Faults_70 im_Repeat_hasEndings se_Repeat_hasEndings (by exact c9_Repeat_hasEndings) (H.cell hrN) (by rfl) (by exact Nat.le_of_ble_eq_true rfl) (c_hasEndings (H.cell hrN)) ?_
    refine rx_if_ne (tgt := 19) d_Faults_isUnlikeItsRepeat_14 (by rfl) (fun c14 => ?_) (fun c14 => ?_)
    · have hx : ∃ x, g x = some r := by
        obtain ⟨w, -⟩ | ⟨x, -, -, w, -⟩ := (hr r hrn).2.2.2.2.1
        · exact absurd w (fun y => c14 (if_pos y))
        · exact ⟨x, w⟩
      refine rx_aload_nr d_Faults_isUnlikeItsRepeat_19 (by rfl) ?_
      refine rx_iload_n d_Faults_isUnlikeItsRepeat_20 (by rfl) ?_
      refine rx_iconst (v := 1) d_Faults_isUnlikeItsRepeat_21 (by decide) ?_
      refine rx_cV d_Faults_isUnlikeItsRepeat_22 (by rfl) ml_Faults_74 im_Page_value se_Page_value (by exact c9_Page_value) hp.1 (by rfl) (by exact Nat.le_of_ble_eq_true rfl) (c_value hp (nI b) 1) ?_
      rw [hv]
      refine rx_aload_nr d_Faults_isUnlikeItsRepeat_25 (by rfl) ?_
      refine rx_getfield d_Faults_isUnlikeItsRepeat_26 fl_Faults_78 (H.cell hrN) (by rfl) ?_
      rw [(hr r hrn).2.2.2.1]
      refine rx_icmp_ne (tgt := 43) d_Faults_isUnlikeItsRepeat_29 (by rfl) (fun c29 => ?_) (fun c29 => ?_)
      · have z : (∃ r9, (some r : Option Nat) = some r9 ∧ (∃ x, g x = some r9) ∧ (Va (10 * b + 1) ≠ gC s r9 ∨ g (b + 1) ≠ some r9)) := ⟨r, rfl, hx, Or.inl c29⟩
        refine rx_iconst (v := 1) d_Faults_isUnlikeItsRepeat_43 (by decide) ?_
        refine rx_goto (tgt := 48) d_Faults_isUnlikeItsRepeat_44 (by rfl) ?_
        refine rx_zreturn d_Faults_isUnlikeItsRepeat_48 (by rfl) (by rfl) ?_
        exact ⟨by first | (rw [bP_t z]; done) | (rw [bP_f z]; done), rfl⟩
      · refine rx_aload_nr d_Faults_isUnlikeItsRepeat_32 (by rfl) ?_
        refine rx_iload_n d_Faults_isUnlikeItsRepeat_33 (by rfl) ?_
        refine rx_iconst (v := 1) d_Faults_isUnlikeItsRepeat_34 (by decide) ?_
        refine rx_iadd d_Faults_isUnlikeItsRepeat_35 ?_
        rw [nI_1]
        refine rx_cV d_Faults_isUnlikeItsRepeat_36 (by rfl) ml_Faults_53 im_Repeats_ofEnding se_Repeats_ofEnding (by exact c9_Repeats_ofEnding) H.1 (by rfl) (by exact Nat.le_of_ble_eq_true rfl) (c_ofEnding H (nI (b + 1))) ?_
        rw [ogt_g H hr I hg (b + 1) (by omega)]
        refine rx_aload_nr d_Faults_isUnlikeItsRepeat_39 (by rfl) ?_
        refine rx_acmp_eq_r (tgt := 47) d_Faults_isUnlikeItsRepeat_40 (by rfl) (fun c40 => ?_) (fun c40 => ?_)
        · have w := (H.inj hrN (fun x e => Nat.lt_of_lt_of_le (hg _ x e).1 I.1)).mp c40
          have z : ¬ (∃ r9, (some r : Option Nat) = some r9 ∧ (∃ x, g x = some r9) ∧ (Va (10 * b + 1) ≠ gC s r9 ∨ g (b + 1) ≠ some r9)) := fun ⟨r9, e, _, w2⟩ => by cases e; exact w2.elim (fun y => y c29) (fun y => y w)
          refine rx_iconst (v := 0) d_Faults_isUnlikeItsRepeat_47 (by decide) ?_
          refine rx_zreturn d_Faults_isUnlikeItsRepeat_48 (by rfl) (by rfl) ?_
          exact ⟨by first | (rw [bP_t z]; done) | (rw [bP_f z]; done), rfl⟩
        · have z : (∃ r9, (some r : Option Nat) = some r9 ∧ (∃ x, g x = some r9) ∧ (Va (10 * b + 1) ≠ gC s r9 ∨ g (b + 1) ≠ some r9)) := ⟨r, rfl, hx, Or.inr (fun w => c40 ((H.inj hrN (fun x e => Nat.lt_of_lt_of_le (hg _ x e).1 I.1)).mpr w))⟩
          refine rx_iconst (v := 1) d_Faults_isUnlikeItsRepeat_43 (by decide) ?_
          refine rx_goto (tgt := 48) d_Faults_isUnlikeItsRepeat_44 (by rfl) ?_
          refine rx_zreturn d_Faults_isUnlikeItsRepeat_48 (by rfl) (by rfl) ?_
          exact ⟨by first | (rw [bP_t z]; done) | (rw [bP_f z]; done), rfl⟩
    · have z : ¬ (∃ r9, (some r : Option Nat) = some r9 ∧ (∃ x, g x = some r9) ∧ (Va (10 * b + 1) ≠ gC s r9 ∨ g (b + 1) ≠ some r9)) := by
        rintro ⟨r9, e, ⟨x, hx⟩, -⟩
        cases e
        obtain ⟨-, w⟩ | ⟨y, w, y2, -, -⟩ := (hr r hrn).2.2.2.2.1
        · exact w x hx
        · rw [if_neg (by rw [w]; exact nI_m1 (by omega))] at c14
          exact absurd c14 (by decide)
      refine rx_iconst (v := 0) d_Faults_isUnlikeItsRepeat_17 (by decide) ?_
      refine rx_zreturn d_Faults_isUnlikeItsRepeat_18 (by rfl) (by rfl) ?_
      exact ⟨by first | (rw [bP_t z]; done) | (rw [bP_f z]; done), rfl⟩
theorem lwi_sec (hn : n ≤ 20) {k : Nat} (hbn : b < n) : lwi n Va k 0 (nI b - 1) = -1 ↔ ¬ ∃ y, y < b ∧ hb Va k y = true := by
  have key : (∀ j : Nat, (0 : Int) ≤ j → j < b → hb Va k j = false) ↔ ¬ ∃ y, y < b ∧ hb Va k y = true := by
    constructor
    · rintro w ⟨y, y1, y2⟩
      rw [w y (by omega) y1] at y2; cases y2
    · intro w j h1 h2
      cases e : hb Va k j with
      | false => rfl
      | true => exact absurd ⟨j, h2, e⟩ w
  cases b with
  | zero => exact ⟨fun _ ⟨y, w, _⟩ => by omega, fun _ => by unfold lwi; rw [show (nI 0 - 1 : Int32).toInt = -1 from by decide, show ((min (-1) ((n : Int) - 1)) + 1).toNat = 0 from by omega]; rfl⟩
  | succ j =>
    rw [show nI (j + 1) - 1 = nI j from nI_pred j, show (0 : Int32) = nI 0 from rfl, lwi_m1 (f := 0) hn (by omega) (by omega), lwf_m1, ← key]
    exact Iff.rfl
theorem c_isSecond (hp : is_pg V h aP n al at_ av Le Te Va) {k : Nat} (hk : k < 10) (hbn : b < n) : rx_C V (d + 2) kc ks m_Faults_isSecond [.ref aP, .int (nI k), .int (nI b)] h (rx_X (.inl (some (.int (bP (hb Va k b = true ∧ ∃ y, y < b ∧ hb Va k y = true))))) h) := by
  have hn : n ≤ 20 := hp.2.2.2.2
  have hv : pgv n Va (nI b) (nI k) = Va (10 * b + k) := pgv_n hn hbn hk
  refine rx_aload_nr d_Faults_isSecond_0 (by rfl) ?_
  refine rx_iload_n d_Faults_isSecond_1 (by rfl) ?_
  refine rx_iload_n d_Faults_isSecond_2 (by rfl) ?_
  refine rx_cV d_Faults_isSecond_3 (by rfl) ml_Faults_21 im_Page_has se_Page_has (by exact c9_Page_has) hp.1 (by rfl) (by exact Nat.le_of_ble_eq_true rfl) (c_has hp (nI b) (nI k)) ?_
  rw [hv]
  refine rx_if_eq (tgt := 26) d_Faults_isSecond_6 (by rfl) (fun c6 => ?_) (fun c6 => ?_)
  · have z : ¬ (hb Va k b = true ∧ ∃ y, y < b ∧ hb Va k y = true) := fun w => hb_t.mp w.1 (ite01.mp c6)
    refine rx_iconst (v := 0) d_Faults_isSecond_26 (by decide) ?_
    refine rx_zreturn d_Faults_isSecond_27 (by rfl) (by rfl) ?_
    exact ⟨by first | (rw [bP_t z]; done) | (rw [bP_f z]; done), rfl⟩
  · refine rx_aload_nr d_Faults_isSecond_9 (by rfl) ?_
    refine rx_iload_n d_Faults_isSecond_10 (by rfl) ?_
    refine rx_iconst (v := 0) d_Faults_isSecond_11 (by decide) ?_
    refine rx_iload_n d_Faults_isSecond_12 (by rfl) ?_
    refine rx_iconst (v := 1) d_Faults_isSecond_13 (by decide) ?_
    refine rx_isub d_Faults_isSecond_14 ?_
    refine rx_cV d_Faults_isSecond_15 (by rfl) ml_Faults_93 im_Page_lastWith se_Page_lastWith (by exact c9_Page_lastWith) hp.1 (by rfl) (by exact Nat.le_of_ble_eq_true rfl) (c_lw hp (k := k) hk 0 (nI b - 1)) ?_
    refine rx_iconst (v := -1) d_Faults_isSecond_18 (by decide) ?_
    refine rx_icmp_eq (tgt := 26) d_Faults_isSecond_19 (by rfl) (fun c19 => ?_) (fun c19 => ?_)
    · have z : ¬ (hb Va k b = true ∧ ∃ y, y < b ∧ hb Va k y = true) := fun w => (lwi_sec hn hbn).mp c19 w.2
      refine rx_iconst (v := 0) d_Faults_isSecond_26 (by decide) ?_
      refine rx_zreturn d_Faults_isSecond_27 (by rfl) (by rfl) ?_
      exact ⟨by first | (rw [bP_t z]; done) | (rw [bP_f z]; done), rfl⟩
    · have z : hb Va k b = true ∧ ∃ y, y < b ∧ hb Va k y = true := ⟨hb_t.mpr (fun w => c6 (ite01.mpr w)), Classical.not_not.mp (fun w => c19 ((lwi_sec hn hbn).mpr w))⟩
      refine rx_iconst (v := 1) d_Faults_isSecond_22 (by decide) ?_
      refine rx_goto (tgt := 27) d_Faults_isSecond_23 (by rfl) ?_
      refine rx_zreturn d_Faults_isSecond_27 (by rfl) (by rfl) ?_
      exact ⟨by first | (rw [bP_t z]; done) | (rw [bP_f z]; done), rfl⟩
theorem c_lacksItsWay (hp : is_pg V h aP n al at_ av Le Te Va) (hbn : b < n) : rx_C V (d + 3) kc ks m_Faults_lacksItsWay [.ref aP, .int (nI b)] h (rx_X (.inl (some (.int (bP ((jwy (Va (10 * b + 7)) = 1 ∧ lwi n Va 5 (jta n Va b) (nI b) = -1) ∨ (jwy (Va (10 * b + 7)) = 2 ∧ (lwi n Va 6 (jta n Va b) (nI b) = -1 ∨ lwi n Va 4 (nI (b + 1)) (nI n - 1) = -1))))))) h) := by
  have hn : n ≤ 20 := hp.2.2.2.2
  have hv : pgv n Va (nI b) 7 = Va (10 * b + 7) := pgv_k hn hbn (by omega) rfl
  refine rx_aload_nr d_Faults_lacksItsWay_0 (by rfl) ?_
  refine rx_iload_n d_Faults_lacksItsWay_1 (by rfl) ?_
  refine rx_cS d_Faults_lacksItsWay_2 ml_Faults_44 st_Jump_target (by exact c9_Jump_target) (by rfl) (by exact Nat.le_of_ble_eq_true rfl) (c_target hp hbn) ?_
  refine rx_istore_n d_Faults_lacksItsWay_5 (Nat.le_of_ble_eq_true rfl) ?_
  refine rx_aload_nr d_Faults_lacksItsWay_6 (by rfl) ?_
  refine rx_iload_n d_Faults_lacksItsWay_7 (by rfl) ?_
  refine rx_bipush (v := 7) d_Faults_lacksItsWay_8 (by decide) ?_
  refine rx_cV d_Faults_lacksItsWay_10 (by rfl) ml_Faults_74 im_Page_value se_Page_value (by exact c9_Page_value) hp.1 (by rfl) (by exact Nat.le_of_ble_eq_true rfl) (c_value hp (nI b) 7) ?_
  rw [hv]
  refine rx_cS d_Faults_lacksItsWay_13 ml_Faults_97 st_Jump_way (by exact c9_Jump_way) (by rfl) (by exact Nat.le_of_ble_eq_true rfl) (c_way _) ?_
  rw [show (Va (10 * b + 7) - 1) / 2 - (Va (10 * b + 7) - 1) / 2 / 3 * 3 = jwy (Va (10 * b + 7)) from rfl]
  refine rx_istore_n d_Faults_lacksItsWay_16 (Nat.le_of_ble_eq_true rfl) ?_
  refine rx_iload_n d_Faults_lacksItsWay_17 (by rfl) ?_
  refine rx_iconst (v := 1) d_Faults_lacksItsWay_18 (by decide) ?_
  refine rx_icmp_ne (tgt := 39) d_Faults_lacksItsWay_19 (by rfl) (fun c19 => ?_) (fun c19 => ?_)
  · refine rx_iload_n d_Faults_lacksItsWay_39 (by rfl) ?_
    refine rx_iconst (v := 2) d_Faults_lacksItsWay_40 (by decide) ?_
    refine rx_icmp_ne (tgt := 80) d_Faults_lacksItsWay_41 (by rfl) (fun c41 => ?_) (fun c41 => ?_)
    · refine rx_iconst (v := 0) d_Faults_lacksItsWay_80 (by decide) ?_
      have z : ¬ ((jwy (Va (10 * b + 7)) = 1 ∧ lwi n Va 5 (jta n Va b) (nI b) = -1) ∨ (jwy (Va (10 * b + 7)) = 2 ∧ (lwi n Va 6 (jta n Va b) (nI b) = -1 ∨ lwi n Va 4 (nI (b + 1)) (nI n - 1) = -1))) := fun w => w.elim (fun y => c19 y.1) (fun y => c41 y.1)
      refine rx_zreturn d_Faults_lacksItsWay_81 (by rfl) (by rfl) ?_
      exact ⟨by first | (rw [bP_t z]; done) | (rw [bP_f z]; done), rfl⟩
    · refine rx_aload_nr d_Faults_lacksItsWay_44 (by rfl) ?_
      refine rx_bipush (v := 6) d_Faults_lacksItsWay_45 (by decide) ?_
      refine rx_iload_n d_Faults_lacksItsWay_47 (by rfl) ?_
      refine rx_iload_n d_Faults_lacksItsWay_48 (by rfl) ?_
      refine rx_cV d_Faults_lacksItsWay_49 (by rfl) ml_Faults_93 im_Page_lastWith se_Page_lastWith (by exact c9_Page_lastWith) hp.1 (by rfl) (by exact Nat.le_of_ble_eq_true rfl) (c_lw hp (k := 6) (by omega) (jta n Va b) (nI b)) ?_
      refine rx_iconst (v := -1) d_Faults_lacksItsWay_52 (by decide) ?_
      refine rx_icmp_eq (tgt := 74) d_Faults_lacksItsWay_53 (by rfl) (fun c53 => ?_) (fun c53 => ?_)
      · have z : ((jwy (Va (10 * b + 7)) = 1 ∧ lwi n Va 5 (jta n Va b) (nI b) = -1) ∨ (jwy (Va (10 * b + 7)) = 2 ∧ (lwi n Va 6 (jta n Va b) (nI b) = -1 ∨ lwi n Va 4 (nI (b + 1)) (nI n - 1) = -1))) := Or.inr ⟨c41, Or.inl c53⟩
        refine rx_iconst (v := 1) d_Faults_lacksItsWay_74 (by decide) ?_
        refine rx_goto (tgt := 79) d_Faults_lacksItsWay_75 (by rfl) ?_
        refine rx_zreturn d_Faults_lacksItsWay_79 (by rfl) (by rfl) ?_
        exact ⟨by first | (rw [bP_t z]; done) | (rw [bP_f z]; done), rfl⟩
      · refine rx_aload_nr d_Faults_lacksItsWay_56 (by rfl) ?_
        refine rx_iconst (v := 4) d_Faults_lacksItsWay_57 (by decide) ?_
        refine rx_iload_n d_Faults_lacksItsWay_58 (by rfl) ?_
        refine rx_iconst (v := 1) d_Faults_lacksItsWay_59 (by decide) ?_
        refine rx_iadd d_Faults_lacksItsWay_60 ?_
        rw [nI_1]
        refine rx_aload_nr d_Faults_lacksItsWay_61 (by rfl) ?_
        refine rx_getfield d_Faults_lacksItsWay_62 fl_Faults_11 hp.1 (by rfl) ?_
        refine rx_iconst (v := 1) d_Faults_lacksItsWay_65 (by decide) ?_
        refine rx_isub d_Faults_lacksItsWay_66 ?_
        refine rx_cV d_Faults_lacksItsWay_67 (by rfl) ml_Faults_93 im_Page_lastWith se_Page_lastWith (by exact c9_Page_lastWith) hp.1 (by rfl) (by exact Nat.le_of_ble_eq_true rfl) (c_lw hp (k := 4) (by omega) (nI (b + 1)) (nI n - 1)) ?_
        refine rx_iconst (v := -1) d_Faults_lacksItsWay_70 (by decide) ?_
        refine rx_icmp_ne (tgt := 78) d_Faults_lacksItsWay_71 (by rfl) (fun c71 => ?_) (fun c71 => ?_)
        · have z : ¬ ((jwy (Va (10 * b + 7)) = 1 ∧ lwi n Va 5 (jta n Va b) (nI b) = -1) ∨ (jwy (Va (10 * b + 7)) = 2 ∧ (lwi n Va 6 (jta n Va b) (nI b) = -1 ∨ lwi n Va 4 (nI (b + 1)) (nI n - 1) = -1))) := fun w => w.elim (fun y => c19 y.1) (fun y => y.2.elim c53 c71)
          refine rx_iconst (v := 0) d_Faults_lacksItsWay_78 (by decide) ?_
          refine rx_zreturn d_Faults_lacksItsWay_79 (by rfl) (by rfl) ?_
          exact ⟨by first | (rw [bP_t z]; done) | (rw [bP_f z]; done), rfl⟩
        · have z : ((jwy (Va (10 * b + 7)) = 1 ∧ lwi n Va 5 (jta n Va b) (nI b) = -1) ∨ (jwy (Va (10 * b + 7)) = 2 ∧ (lwi n Va 6 (jta n Va b) (nI b) = -1 ∨ lwi n Va 4 (nI (b + 1)) (nI n - 1) = -1))) := Or.inr ⟨c41, Or.inr c71⟩
          refine rx_iconst (v := 1) d_Faults_lacksItsWay_74 (by decide) ?_
          refine rx_goto (tgt := 79) d_Faults_lacksItsWay_75 (by rfl) ?_
          refine rx_zreturn d_Faults_lacksItsWay_79 (by rfl) (by rfl) ?_
          exact ⟨by first | (rw [bP_t z]; done) | (rw [bP_f z]; done), rfl⟩
  · refine rx_aload_nr d_Faults_lacksItsWay_22 (by rfl) ?_
    refine rx_iconst (v := 5) d_Faults_lacksItsWay_23 (by decide) ?_
    refine rx_iload_n d_Faults_lacksItsWay_24 (by rfl) ?_
    refine rx_iload_n d_Faults_lacksItsWay_25 (by rfl) ?_
    refine rx_cV d_Faults_lacksItsWay_26 (by rfl) ml_Faults_93 im_Page_lastWith se_Page_lastWith (by exact c9_Page_lastWith) hp.1 (by rfl) (by exact Nat.le_of_ble_eq_true rfl) (c_lw hp (k := 5) (by omega) (jta n Va b) (nI b)) ?_
    refine rx_iconst (v := -1) d_Faults_lacksItsWay_29 (by decide) ?_
    refine rx_icmp_ne (tgt := 37) d_Faults_lacksItsWay_30 (by rfl) (fun c30 => ?_) (fun c30 => ?_)
    · have z : ¬ ((jwy (Va (10 * b + 7)) = 1 ∧ lwi n Va 5 (jta n Va b) (nI b) = -1) ∨ (jwy (Va (10 * b + 7)) = 2 ∧ (lwi n Va 6 (jta n Va b) (nI b) = -1 ∨ lwi n Va 4 (nI (b + 1)) (nI n - 1) = -1))) := fun w => w.elim (fun y => c30 y.2) (fun y => absurd (c19.symm.trans y.1) (by decide))
      refine rx_iconst (v := 0) d_Faults_lacksItsWay_37 (by decide) ?_
      refine rx_zreturn d_Faults_lacksItsWay_38 (by rfl) (by rfl) ?_
      exact ⟨by first | (rw [bP_t z]; done) | (rw [bP_f z]; done), rfl⟩
    · have z : ((jwy (Va (10 * b + 7)) = 1 ∧ lwi n Va 5 (jta n Va b) (nI b) = -1) ∨ (jwy (Va (10 * b + 7)) = 2 ∧ (lwi n Va 6 (jta n Va b) (nI b) = -1 ∨ lwi n Va 4 (nI (b + 1)) (nI n - 1) = -1))) := Or.inl ⟨c19, c30⟩
      refine rx_iconst (v := 1) d_Faults_lacksItsWay_33 (by decide) ?_
      refine rx_goto (tgt := 38) d_Faults_lacksItsWay_34 (by rfl) ?_
      refine rx_zreturn d_Faults_lacksItsWay_38 (by rfl) (by rfl) ?_
      exact ⟨by first | (rw [bP_t z]; done) | (rw [bP_f z]; done), rfl⟩
theorem fix_n {Pr : Nat → Bool} : ∀ {m i : Nat}, fix Pr i m = none → ∀ x, i ≤ x → x < i + m → Pr x = false := by
  intro m i h x h1 h2
  cases e : Pr x with
  | false => rfl
  | true =>
    have w := (fix_iff (Pr := Pr) (m := m) (i := i)).mpr ⟨x, h1, h2, e⟩
    rw [h] at w; cases w
theorem fix_s {Pr : Nat → Bool} : ∀ {m i x : Nat}, fix Pr i m = some x → i ≤ x ∧ x < i + m ∧ Pr x = true ∧ ∀ y, i ≤ y → y < x → Pr y = false := by
  intro m
  induction m with
  | zero => intro i x h; cases h
  | succ m ih =>
    intro i x h
    cases e : Pr i with
    | true =>
      rw [fix_yes e] at h
      cases h
      exact ⟨Nat.le_refl _, by omega, e, fun y h1 h2 => by omega⟩
    | false =>
      rw [fix_no e] at h
      obtain ⟨j1, j2, j3, j4⟩ := ih h
      refine ⟨by omega, by omega, j3, fun y h1 h2 => ?_⟩
      by_cases c : y = i
      · rw [c]; exact e
      · exact j4 y (by omega) h2
theorem gI.dis (I : gI Va n s) {r r' x : Nat} (h1 : r < s.1) (h2 : r' < s.1) (a1 : gF s r ≤ x) (a2 : x ≤ gL s r) (b1 : gF s r' ≤ x) (b2 : x ≤ gL s r') : r = r' := by
  have i6 := I.2.2.2.2.2.1
  by_cases c : r < r'
  · have := i6 r r' c h2; omega
  · by_cases c2 : r' < r
    · have := i6 r' r c2 h1; omega
    · omega
theorem pwf_m {r : Nat} {x : Int32} {i m : Nat} (h1 : g i = some r) (h2 : x &&& Va (10 * i + 2) = 0) : pwf Va g r x i (m + 1) = pwf Va g r (x ||| Va (10 * i + 2)) (i + 1) m := (if_pos h1).trans (if_pos h2)
theorem pwf_c {r : Nat} {x : Int32} {i m : Nat} (h1 : g i = some r) (h2 : ¬ x &&& Va (10 * i + 2) = 0) : pwf Va g r x i (m + 1) = none := (if_pos h1).trans (if_neg h2)
theorem pwf_o {r : Nat} {x : Int32} {i m : Nat} (h1 : ¬ g i = some r) : pwf Va g r x i (m + 1) = pwf Va g r x (i + 1) m := if_neg h1
theorem l_wrongP (hp : is_pg V h aP n al at_ av Le Te Va) (H : is_rp V h a n aA aE aG s.1 fA (fun x => (gO s x).map ra) (fun x => (g x).map ra) ra R) (hr : roG s g R) (I : gI Va n s) (hg : ∀ x r, g x = some r → r < s.1 ∧ x < n ∧ gF s r ≤ x) (hbn : b < n) {r l : Nat} (hrn : r < s.1) (hl : R r 4 = nI l) (hln : l < n) : ∀ (m e : Nat) (x : Int32) (y : Option Value), e + m = l + 1 → rx_W V (d + 2) kc ks m_Faults_isFirstOfWrongPasses 33 [some (.ref aP), some (.ref a), some (.int (nI b)), some (.ref (ra r)), some (.int x), some (.int (nI e)), y] [] h (rx_X (.inl (some (.int (bP (∀ x2, pwf Va g r x e m = some x2 → x2 ≠ (1 <<< (gC s r &&& 31)) - 1 ∨ Va (10 * l + 2) &&& (1 <<< ((gC s r - 1) &&& 31)) = 0))))) h) := by
  have hn := H.n20
  have hrN : r < n := Nat.lt_of_lt_of_le hrn I.1
  have hv2 : pgv n Va (nI l) 2 = Va (10 * l + 2) := pgv_k hn hln (by omega) rfl
  intro m
  induction m with
  | zero =>
    intro e x y he9
    have he : e = l + 1 := by omega
    subst he
    refine rx_iload d_Faults_isFirstOfWrongPasses_33 (by rfl) ?_
    refine rx_aload_nr d_Faults_isFirstOfWrongPasses_35 (by rfl) ?_
    refine rx_getfield d_Faults_isFirstOfWrongPasses_36 fl_Faults_87 (H.cell hrN) (by rfl) ?_
    rw [hl]
    refine rx_icmp_gt (tgt := 84) d_Faults_isFirstOfWrongPasses_39 (by rfl) (fun c39 => ?_) (fun z => absurd (nI_lt (by omega) (by omega)) z)
    refine rx_iconst (v := 1) d_Faults_isFirstOfWrongPasses_84 (by decide) ?_
    refine rx_aload_nr d_Faults_isFirstOfWrongPasses_85 (by rfl) ?_
    refine rx_getfield d_Faults_isFirstOfWrongPasses_86 fl_Faults_78 (H.cell hrN) (by rfl) ?_
    rw [(hr r hrn).2.2.2.1]
    refine rx_ishl d_Faults_isFirstOfWrongPasses_89 ?_
    refine rx_iconst (v := 1) d_Faults_isFirstOfWrongPasses_90 (by decide) ?_
    refine rx_isub d_Faults_isFirstOfWrongPasses_91 ?_
    refine rx_istore d_Faults_isFirstOfWrongPasses_92 (Nat.le_of_ble_eq_true rfl) ?_
    refine rx_iload d_Faults_isFirstOfWrongPasses_94 (by rfl) ?_
    refine rx_iload d_Faults_isFirstOfWrongPasses_96 (by rfl) ?_
    refine rx_icmp_ne (tgt := 116) d_Faults_isFirstOfWrongPasses_98 (by rfl) (fun c98 => ?_) (fun c98 => ?_)
    · have z : (∀ x2, pwf Va g r x (l + 1) 0 = some x2 → x2 ≠ (1 <<< (gC s r &&& 31)) - 1 ∨ Va (10 * l + 2) &&& (1 <<< ((gC s r - 1) &&& 31)) = 0) := fun x2 w => Or.inl (by cases w; exact c98)
      refine rx_iconst (v := 1) d_Faults_isFirstOfWrongPasses_116 (by decide) ?_
      refine rx_goto (tgt := 121) d_Faults_isFirstOfWrongPasses_117 (by rfl) ?_
      refine rx_zreturn d_Faults_isFirstOfWrongPasses_121 (by rfl) (by rfl) ?_
      exact ⟨by first | (rw [bP_t z]; done) | (rw [bP_f z]; done), rfl⟩
    · refine rx_aload_nr d_Faults_isFirstOfWrongPasses_101 (by rfl) ?_
      refine rx_aload_nr d_Faults_isFirstOfWrongPasses_102 (by rfl) ?_
      refine rx_getfield d_Faults_isFirstOfWrongPasses_103 fl_Faults_87 (H.cell hrN) (by rfl) ?_
      rw [hl]
      refine rx_aload_nr d_Faults_isFirstOfWrongPasses_106 (by rfl) ?_
      refine rx_getfield d_Faults_isFirstOfWrongPasses_107 fl_Faults_78 (H.cell hrN) (by rfl) ?_
      rw [(hr r hrn).2.2.2.1]
      refine rx_cV d_Faults_isFirstOfWrongPasses_110 (by rfl) ml_Faults_90 im_Page_hasPass se_Page_hasPass (by exact c9_Page_hasPass) hp.1 (by rfl) (by exact Nat.le_of_ble_eq_true rfl) (c_hasPass hp (nI l) (gC s r)) ?_
      rw [hv2]
      refine rx_if_ne (tgt := 120) d_Faults_isFirstOfWrongPasses_113 (by rfl) (fun c113 => ?_) (fun c113 => ?_)
      · have z : ¬ (∀ x2, pwf Va g r x (l + 1) 0 = some x2 → x2 ≠ (1 <<< (gC s r &&& 31)) - 1 ∨ Va (10 * l + 2) &&& (1 <<< ((gC s r - 1) &&& 31)) = 0) := fun w => (w x rfl).elim (fun y => y c98) (fun y => c113 (if_pos y))
        refine rx_iconst (v := 0) d_Faults_isFirstOfWrongPasses_120 (by decide) ?_
        refine rx_zreturn d_Faults_isFirstOfWrongPasses_121 (by rfl) (by rfl) ?_
        exact ⟨by first | (rw [bP_t z]; done) | (rw [bP_f z]; done), rfl⟩
      · have z : (∀ x2, pwf Va g r x (l + 1) 0 = some x2 → x2 ≠ (1 <<< (gC s r &&& 31)) - 1 ∨ Va (10 * l + 2) &&& (1 <<< ((gC s r - 1) &&& 31)) = 0) := fun x2 w => Or.inr (ite01.mp c113)
        refine rx_iconst (v := 1) d_Faults_isFirstOfWrongPasses_116 (by decide) ?_
        refine rx_goto (tgt := 121) d_Faults_isFirstOfWrongPasses_117 (by rfl) ?_
        refine rx_zreturn d_Faults_isFirstOfWrongPasses_121 (by rfl) (by rfl) ?_
        exact ⟨by first | (rw [bP_t z]; done) | (rw [bP_f z]; done), rfl⟩
  | succ m ih =>
    intro e x y he9
    have hel : e ≤ l := by omega
    have hin : e < n := by omega
    have hv : pgv n Va (nI e) 2 = Va (10 * e + 2) := pgv_k hn hin (by omega) rfl
    refine rx_iload d_Faults_isFirstOfWrongPasses_33 (by rfl) ?_
    refine rx_aload_nr d_Faults_isFirstOfWrongPasses_35 (by rfl) ?_
    refine rx_getfield d_Faults_isFirstOfWrongPasses_36 fl_Faults_87 (H.cell hrN) (by rfl) ?_
    rw [hl]
    refine rx_icmp_gt (tgt := 84) d_Faults_isFirstOfWrongPasses_39 (by rfl) (fun z => absurd z (nI_nlt hel (by omega))) (fun c39 => ?_)
    refine rx_aload_nr d_Faults_isFirstOfWrongPasses_42 (by rfl) ?_
    refine rx_iload d_Faults_isFirstOfWrongPasses_43 (by rfl) ?_
    refine rx_cV d_Faults_isFirstOfWrongPasses_45 (by rfl) ml_Faults_53 im_Repeats_ofEnding se_Repeats_ofEnding (by exact c9_Repeats_ofEnding) H.1 (by rfl) (by exact Nat.le_of_ble_eq_true rfl) (c_ofEnding H (nI e)) ?_
    rw [ogt_nn (by omega) hin]
    refine rx_aload_nr d_Faults_isFirstOfWrongPasses_48 (by rfl) ?_
    refine rx_acmp_ne_r (tgt := 78) d_Faults_isFirstOfWrongPasses_49 (by rfl) (fun c49 => ?_) (fun c49 => ?_)
    · have w : ¬ g e = some r := fun z => c49 ((H.inj hrN (fun x e => Nat.lt_of_lt_of_le (hg _ x e).1 I.1)).mpr z)
      rw [pwf_o w]
      refine rx_iinc (v := nI (e + 1)) d_Faults_isFirstOfWrongPasses_78 (by rfl) (i_inc e) ?_
      refine rx_goto (tgt := 33) d_Faults_isFirstOfWrongPasses_81 (by rfl) ?_
      exact ih (e + 1) _ _ (by omega)
    · have w := (H.inj hrN (fun x e => Nat.lt_of_lt_of_le (hg _ x e).1 I.1)).mp c49
      refine rx_aload_nr d_Faults_isFirstOfWrongPasses_52 (by rfl) ?_
      refine rx_iload d_Faults_isFirstOfWrongPasses_53 (by rfl) ?_
      refine rx_iconst (v := 2) d_Faults_isFirstOfWrongPasses_55 (by decide) ?_
      refine rx_cV d_Faults_isFirstOfWrongPasses_56 (by rfl) ml_Faults_74 im_Page_value se_Page_value (by exact c9_Page_value) hp.1 (by rfl) (by exact Nat.le_of_ble_eq_true rfl) (c_value hp (nI e) 2) ?_
      rw [hv]
      refine rx_istore d_Faults_isFirstOfWrongPasses_59 (Nat.le_of_ble_eq_true rfl) ?_
      refine rx_iload d_Faults_isFirstOfWrongPasses_61 (by rfl) ?_
      refine rx_iload d_Faults_isFirstOfWrongPasses_63 (by rfl) ?_
      refine rx_iand d_Faults_isFirstOfWrongPasses_65 ?_
      refine rx_if_eq (tgt := 71) d_Faults_isFirstOfWrongPasses_66 (by rfl) (fun c66 => ?_) (fun c66 => ?_)
      · rw [pwf_m w c66]
        refine rx_iload d_Faults_isFirstOfWrongPasses_71 (by rfl) ?_
        refine rx_iload d_Faults_isFirstOfWrongPasses_73 (by rfl) ?_
        refine rx_ior d_Faults_isFirstOfWrongPasses_75 ?_
        refine rx_istore d_Faults_isFirstOfWrongPasses_76 (Nat.le_of_ble_eq_true rfl) ?_
        refine rx_iinc (v := nI (e + 1)) d_Faults_isFirstOfWrongPasses_78 (by rfl) (i_inc e) ?_
        refine rx_goto (tgt := 33) d_Faults_isFirstOfWrongPasses_81 (by rfl) ?_
        exact ih (e + 1) _ _ (by omega)
      · rw [pwf_c w c66]
        refine rx_iconst (v := 1) d_Faults_isFirstOfWrongPasses_69 (by decide) ?_
        refine rx_zreturn d_Faults_isFirstOfWrongPasses_70 (by rfl) (by rfl) ?_
        exact ⟨by rw [bP_t (fun x2 w => (nomatch w))], rfl⟩
theorem c_isFirst (hp : is_pg V h aP n al at_ av Le Te Va) (H : is_rp V h a n aA aE aG s.1 fA (fun x => (gO s x).map ra) (fun x => (g x).map ra) ra R) (hr : roG s g R) (I : gI Va n s) (hg : ∀ x r, g x = some r → r < s.1 ∧ x < n ∧ gF s r ≤ x) (hbn : b < n) : rx_C V (d + 2) kc ks m_Faults_isFirstOfWrongPasses [.ref aP, .ref a, .int (nI b)] h (rx_X (.inl (some (.int (bP (∃ r l, r < s.1 ∧ gF s r = b ∧ g l = some r ∧ (∀ y, g y = some r → y ≤ l) ∧ pww Va s g r l))))) h) := by
  have hn := H.n20
  have lo : ∀ r, r < s.1 → gL s r < n := fun r w => Nat.lt_of_lt_of_le (I.2.2.2.2.1 r w).2.2.1 I.2.1
  cases hfx : fix (fun r => decide (¬ (nI b < R r 0 ∨ R r 2 < nI b))) 0 s.1 with
  | none =>
    have z : ¬ (∃ r l, r < s.1 ∧ gF s r = b ∧ g l = some r ∧ (∀ y, g y = some r → y ≤ l) ∧ pww Va s g r l) := by
      rintro ⟨r, l, h1, h2, -⟩
      have w := of_decide_eq_false (fix_n hfx r (Nat.zero_le _) (by omega))
      have j := I.2.2.2.2.1 r h1
      have := lo r h1
      rw [(hr r h1).1, (hr r h1).2.2.1, nI_ltI (by omega) (by omega), nI_ltI (by omega) (by omega)] at w
      omega
    refine rx_aload_nr d_Faults_isFirstOfWrongPasses_0 (by rfl) ?_
    refine rx_iload_n d_Faults_isFirstOfWrongPasses_1 (by rfl) ?_
    refine rx_cV d_Faults_isFirstOfWrongPasses_2 (by rfl) ml_Faults_81 im_Repeats_around se_Repeats_around (by exact c9_Repeats_around) H.1 (by rfl) (by exact Nat.le_of_ble_eq_true rfl) (c_around H (nI b)) ?_
    rw [hfx]
    refine rx_astore_nN d_Faults_isFirstOfWrongPasses_5 (Nat.le_of_ble_eq_true rfl) ?_
    refine rx_aload_nN d_Faults_isFirstOfWrongPasses_6 (by rfl) ?_
    refine rx_ifnull_N (tgt := 25) d_Faults_isFirstOfWrongPasses_7 (by rfl) ?_
    refine rx_iconst (v := 0) d_Faults_isFirstOfWrongPasses_25 (by decide) ?_
    refine rx_zreturn d_Faults_isFirstOfWrongPasses_26 (by rfl) (by rfl) ?_
    exact ⟨by first | (rw [bP_t z]; done) | (rw [bP_f z]; done), rfl⟩
  | some r =>
    obtain ⟨-, hrn, w, -⟩ := fix_s hfx
    rw [Nat.zero_add] at hrn
    have w := of_decide_eq_true w
    have hrN : r < n := Nat.lt_of_lt_of_le hrn I.1
    have j := I.2.2.2.2.1 r hrn
    have hlo := lo r hrn
    rw [(hr r hrn).1, (hr r hrn).2.2.1, nI_ltI (by omega) (by omega), nI_ltI (by omega) (by omega)] at w
    have only : ∀ r', r' < s.1 → gF s r' = b → r' = r := fun r' h1 h2 => by
      have := I.2.2.2.2.1 r' h1
      exact I.dis (x := b) h1 hrn (by omega) (by omega) (by omega) (by omega)
    refine rx_aload_nr d_Faults_isFirstOfWrongPasses_0 (by rfl) ?_
    refine rx_iload_n d_Faults_isFirstOfWrongPasses_1 (by rfl) ?_
    refine rx_cV d_Faults_isFirstOfWrongPasses_2 (by rfl) ml_Faults_81 im_Repeats_around se_Repeats_around (by exact c9_Repeats_around) H.1 (by rfl) (by exact Nat.le_of_ble_eq_true rfl) (c_around H (nI b)) ?_
    rw [hfx]
    show rx_W V (d + 2) kc ks m_Faults_isFirstOfWrongPasses 5 _ [.ref (ra r)] h _
    refine rx_astore_nr d_Faults_isFirstOfWrongPasses_5 (Nat.le_of_ble_eq_true rfl) ?_
    refine rx_aload_nr d_Faults_isFirstOfWrongPasses_6 (by rfl) ?_
    refine rx_ifnull_r (tgt := 25) d_Faults_isFirstOfWrongPasses_7 (by rfl) ?_
    refine rx_aload_nr d_Faults_isFirstOfWrongPasses_10 (by rfl) ?_
    refine rx_getfield d_Faults_isFirstOfWrongPasses_11 fl_Faults_84 (H.cell hrN) (by rfl) ?_
    rw [(hr r hrn).1]
    refine rx_iload_n d_Faults_isFirstOfWrongPasses_14 (by rfl) ?_
    refine rx_icmp_ne (tgt := 25) d_Faults_isFirstOfWrongPasses_15 (by rfl) (fun c15 => ?_) (fun c15 => ?_)
    · have z : ¬ (∃ r l, r < s.1 ∧ gF s r = b ∧ g l = some r ∧ (∀ y, g y = some r → y ≤ l) ∧ pww Va s g r l) := by
        rintro ⟨r1, l, h1, h2, -⟩
        rw [only r1 h1 h2] at h2
        exact c15 (by rw [h2])
      refine rx_iconst (v := 0) d_Faults_isFirstOfWrongPasses_25 (by decide) ?_
      refine rx_zreturn d_Faults_isFirstOfWrongPasses_26 (by rfl) (by rfl) ?_
      exact ⟨by first | (rw [bP_t z]; done) | (rw [bP_f z]; done), rfl⟩
    · have e1 : gF s r = b := (nI_eq (by omega) (by omega)).mp c15
      refine rx_aload_nr d_Faults_isFirstOfWrongPasses_18 (by rfl) ?_
      refine rx_cV d_Faults_isFirstOfWrongPasses_19 (by rfl) ml_Faults_70 im_Repeat_hasEndings se_Repeat_hasEndings (by exact c9_Repeat_hasEndings) (H.cell hrN) (by rfl) (by exact Nat.le_of_ble_eq_true rfl) (c_hasEndings (H.cell hrN)) ?_
      refine rx_if_ne (tgt := 27) d_Faults_isFirstOfWrongPasses_22 (by rfl) (fun c22 => ?_) (fun c22 => ?_)
      · obtain ⟨l, l1, l2, l3, l4⟩ : ∃ l, R r 4 = nI l ∧ l < 20 ∧ g l = some r ∧ ∀ y, g y = some r → y ≤ l := by
          obtain ⟨-, w⟩ | w := (hr r hrn).2.2.2.2.2
          · obtain ⟨w3, -⟩ | ⟨x, -, -, w2, -⟩ := (hr r hrn).2.2.2.2.1
            · exact absurd w3 (fun y => c22 (if_pos y))
            · exact absurd w2 (w x)
          · exact w
        refine rx_iconst (v := 0) d_Faults_isFirstOfWrongPasses_27 (by decide) ?_
        refine rx_istore d_Faults_isFirstOfWrongPasses_28 (Nat.le_of_ble_eq_true rfl) ?_
        refine rx_iload_n d_Faults_isFirstOfWrongPasses_30 (by rfl) ?_
        refine rx_istore d_Faults_isFirstOfWrongPasses_31 (Nat.le_of_ble_eq_true rfl) ?_
        have bl : b ≤ l := by have := (hg l r l3).2.2; omega
        refine rx_cons (l_wrongP hp H hr I hg hbn hrn l1 (hg l r l3).2.1 (l + 1 - b) b 0 _ (by omega)) (fun r9 h9 w => ⟨w.1.trans ?_, w.2⟩)
        rw [bP_c]
        constructor
        · intro z
          exact ⟨r, l, hrn, e1, l3, l4, by unfold pww; rw [e1]; exact z⟩
        · rintro ⟨r1, l9, h1, h2, h3, h4, h5⟩
          have e2 := only r1 h1 h2
          subst e2
          have e3 : l9 = l := Nat.le_antisymm (l4 l9 h3) (h4 l l3)
          subst e3
          unfold pww at h5
          rw [e1] at h5
          exact h5
      · have z : ¬ (∃ r l, r < s.1 ∧ gF s r = b ∧ g l = some r ∧ (∀ y, g y = some r → y ≤ l) ∧ pww Va s g r l) := by
          rintro ⟨r1, l, h1, h2, h3, -⟩
          rw [only r1 h1 h2] at h3
          obtain ⟨-, w⟩ | ⟨y, w, y2, -, -⟩ := (hr r hrn).2.2.2.2.1
          · exact w l h3
          · rw [if_neg (by rw [w]; exact nI_m1 (by omega))] at c22
            exact absurd c22 (by decide)
        refine rx_iconst (v := 0) d_Faults_isFirstOfWrongPasses_25 (by decide) ?_
        refine rx_zreturn d_Faults_isFirstOfWrongPasses_26 (by rfl) (by rfl) ?_
        exact ⟨by first | (rw [bP_t z]; done) | (rw [bP_f z]; done), rfl⟩
theorem c_isThere1 (hp : is_pg V h aP n al at_ av Le Te Va) (H : is_rp V h a n aA aE aG s.1 fA (fun x => (gO s x).map ra) (fun x => (g x).map ra) ra R) (hr : roG s g R) (I : gI Va n s) (hg : ∀ x r, g x = some r → r < s.1 ∧ x < n ∧ gF s r ≤ x) (hbn : b < n) : rx_C V (d + 4) kc ks m_Faults_isThere [.int (nI 1), .ref aP, .ref a, .int (nI b)] h (rx_X (.inl (some (.int (bP (FT n Va s g 1 b))))) h) := by
  have hn := H.n20
  have v0 : pgv n Va (nI b) 0 = Va (10 * b + 0) := pgv_k hn hbn (by omega) rfl
  have v1 : pgv n Va (nI b) 1 = Va (10 * b + 1) := pgv_k hn hbn (by omega) rfl
  have v2 : pgv n Va (nI b) 2 = Va (10 * b + 2) := pgv_k hn hbn (by omega) rfl
  have v7 : pgv n Va (nI b) 7 = Va (10 * b + 7) := pgv_k hn hbn (by omega) rfl
  refine rx_iload_n d_Faults_isThere_0 (by rfl) ?_
  refine rx_tableIn (x := nI 1) (off := 39) (tgt := 40) d_Faults_isThere_1 (by decide) (by decide) (by decide) (by decide) ?_
  refine rx_aload_nr d_Faults_isThere_40 (by rfl) ?_
  refine rx_iload_n d_Faults_isThere_41 (by rfl) ?_
  refine rx_iconst (v := 0) d_Faults_isThere_42 (by decide) ?_
  refine rx_cV d_Faults_isThere_43 (by rfl) ml_Faults_21 im_Page_has se_Page_has (by exact c9_Page_has) hp.1 (by rfl) (by exact Nat.le_of_ble_eq_true rfl) (c_has hp (nI b) 0) ?_
  rw [v0]
  refine rx_if_eq (tgt := 61) d_Faults_isThere_46 (by rfl) (fun c46 => ?_) (fun c46 => ?_)
  · have z : ¬ FT n Va s g 1 b := fun w => hb_t.mp w.1 (ite01.mp c46)
    refine rx_iconst (v := 0) d_Faults_isThere_61 (by decide) ?_
    refine rx_zreturn d_Faults_isThere_62 (by rfl) (by rfl) ?_
    exact ⟨by first | (rw [bP_t z]; done) | (rw [bP_f z]; done), rfl⟩
  · refine rx_aload_nr d_Faults_isThere_49 (by rfl) ?_
    refine rx_iload_n d_Faults_isThere_50 (by rfl) ?_
    refine rx_cS d_Faults_isThere_51 ml_Faults_25 st_Faults_isNeverEnded (by exact c9_Faults_isNeverEnded) (by rfl) (by exact Nat.le_of_ble_eq_true rfl) (c_isNeverEnded hp hbn) ?_
    refine rx_if_eq (tgt := 61) d_Faults_isThere_54 (by rfl) (fun c54 => ?_) (fun c54 => ?_)
    · have z : ¬ FT n Va s g 1 b := fun w => ite10.mp c54 w.2
      refine rx_iconst (v := 0) d_Faults_isThere_61 (by decide) ?_
      refine rx_zreturn d_Faults_isThere_62 (by rfl) (by rfl) ?_
      exact ⟨by first | (rw [bP_t z]; done) | (rw [bP_f z]; done), rfl⟩
    · have z : FT n Va s g 1 b := ⟨hb_t.mpr (fun w => c46 (ite01.mpr w)), ite11.mp c54⟩
      refine rx_iconst (v := 1) d_Faults_isThere_57 (by decide) ?_
      refine rx_goto (tgt := 62) d_Faults_isThere_58 (by rfl) ?_
      refine rx_zreturn d_Faults_isThere_62 (by rfl) (by rfl) ?_
      exact ⟨by first | (rw [bP_t z]; done) | (rw [bP_f z]; done), rfl⟩
theorem c_isThere2 (hp : is_pg V h aP n al at_ av Le Te Va) (H : is_rp V h a n aA aE aG s.1 fA (fun x => (gO s x).map ra) (fun x => (g x).map ra) ra R) (hr : roG s g R) (I : gI Va n s) (hg : ∀ x r, g x = some r → r < s.1 ∧ x < n ∧ gF s r ≤ x) (hbn : b < n) : rx_C V (d + 4) kc ks m_Faults_isThere [.int (nI 2), .ref aP, .ref a, .int (nI b)] h (rx_X (.inl (some (.int (bP (FT n Va s g 2 b))))) h) := by
  have hn := H.n20
  have v0 : pgv n Va (nI b) 0 = Va (10 * b + 0) := pgv_k hn hbn (by omega) rfl
  have v1 : pgv n Va (nI b) 1 = Va (10 * b + 1) := pgv_k hn hbn (by omega) rfl
  have v2 : pgv n Va (nI b) 2 = Va (10 * b + 2) := pgv_k hn hbn (by omega) rfl
  have v7 : pgv n Va (nI b) 7 = Va (10 * b + 7) := pgv_k hn hbn (by omega) rfl
  refine rx_iload_n d_Faults_isThere_0 (by rfl) ?_
  refine rx_tableIn (x := nI 2) (off := 62) (tgt := 63) d_Faults_isThere_1 (by decide) (by decide) (by decide) (by decide) ?_
  refine rx_aload_nr d_Faults_isThere_63 (by rfl) ?_
  refine rx_iload_n d_Faults_isThere_64 (by rfl) ?_
  refine rx_iconst (v := 2) d_Faults_isThere_65 (by decide) ?_
  refine rx_cV d_Faults_isThere_66 (by rfl) ml_Faults_21 im_Page_has se_Page_has (by exact c9_Page_has) hp.1 (by rfl) (by exact Nat.le_of_ble_eq_true rfl) (c_has hp (nI b) 2) ?_
  rw [v2]
  refine rx_if_eq (tgt := 84) d_Faults_isThere_69 (by rfl) (fun c69 => ?_) (fun c69 => ?_)
  · have z : ¬ FT n Va s g 2 b := fun w => hb_t.mp w.1 (ite01.mp c69)
    refine rx_iconst (v := 0) d_Faults_isThere_84 (by decide) ?_
    refine rx_zreturn d_Faults_isThere_85 (by rfl) (by rfl) ?_
    exact ⟨by first | (rw [bP_t z]; done) | (rw [bP_f z]; done), rfl⟩
  · refine rx_aload_nr d_Faults_isThere_72 (by rfl) ?_
    refine rx_iload_n d_Faults_isThere_73 (by rfl) ?_
    refine rx_cS d_Faults_isThere_74 ml_Faults_29 st_Faults_isStrayEnding (by exact c9_Faults_isStrayEnding) (by rfl) (by exact Nat.le_of_ble_eq_true rfl) (c_isStrayEnding H hr I hg hbn) ?_
    refine rx_if_eq (tgt := 84) d_Faults_isThere_77 (by rfl) (fun c77 => ?_) (fun c77 => ?_)
    · have z : ¬ FT n Va s g 2 b := fun w => bP_0.mp c77 w.2
      refine rx_iconst (v := 0) d_Faults_isThere_84 (by decide) ?_
      refine rx_zreturn d_Faults_isThere_85 (by rfl) (by rfl) ?_
      exact ⟨by first | (rw [bP_t z]; done) | (rw [bP_f z]; done), rfl⟩
    · have z : FT n Va s g 2 b := ⟨hb_t.mpr (fun w => c69 (ite01.mpr w)), bP_1.mp c77⟩
      refine rx_iconst (v := 1) d_Faults_isThere_80 (by decide) ?_
      refine rx_goto (tgt := 85) d_Faults_isThere_81 (by rfl) ?_
      refine rx_zreturn d_Faults_isThere_85 (by rfl) (by rfl) ?_
      exact ⟨by first | (rw [bP_t z]; done) | (rw [bP_f z]; done), rfl⟩
theorem c_isThere3 (hp : is_pg V h aP n al at_ av Le Te Va) (H : is_rp V h a n aA aE aG s.1 fA (fun x => (gO s x).map ra) (fun x => (g x).map ra) ra R) (hr : roG s g R) (I : gI Va n s) (hg : ∀ x r, g x = some r → r < s.1 ∧ x < n ∧ gF s r ≤ x) (hbn : b < n) : rx_C V (d + 4) kc ks m_Faults_isThere [.int (nI 3), .ref aP, .ref a, .int (nI b)] h (rx_X (.inl (some (.int (bP (FT n Va s g 3 b))))) h) := by
  have hn := H.n20
  have v0 : pgv n Va (nI b) 0 = Va (10 * b + 0) := pgv_k hn hbn (by omega) rfl
  have v1 : pgv n Va (nI b) 1 = Va (10 * b + 1) := pgv_k hn hbn (by omega) rfl
  have v2 : pgv n Va (nI b) 2 = Va (10 * b + 2) := pgv_k hn hbn (by omega) rfl
  have v7 : pgv n Va (nI b) 7 = Va (10 * b + 7) := pgv_k hn hbn (by omega) rfl
  refine rx_iload_n d_Faults_isThere_0 (by rfl) ?_
  refine rx_tableIn (x := nI 3) (off := 85) (tgt := 86) d_Faults_isThere_1 (by decide) (by decide) (by decide) (by decide) ?_
  refine rx_aload_nr d_Faults_isThere_86 (by rfl) ?_
  refine rx_iload_n d_Faults_isThere_87 (by rfl) ?_
  refine rx_iconst (v := 1) d_Faults_isThere_88 (by decide) ?_
  refine rx_cV d_Faults_isThere_89 (by rfl) ml_Faults_21 im_Page_has se_Page_has (by exact c9_Page_has) hp.1 (by rfl) (by exact Nat.le_of_ble_eq_true rfl) (c_has hp (nI b) 1) ?_
  rw [v1]
  refine rx_if_eq (tgt := 108) d_Faults_isThere_92 (by rfl) (fun c92 => ?_) (fun c92 => ?_)
  · have z : ¬ FT n Va s g 3 b := fun w => hb_t.mp w.1 (ite01.mp c92)
    refine rx_iconst (v := 0) d_Faults_isThere_108 (by decide) ?_
    refine rx_zreturn d_Faults_isThere_109 (by rfl) (by rfl) ?_
    exact ⟨by first | (rw [bP_t z]; done) | (rw [bP_f z]; done), rfl⟩
  · refine rx_aload_nr d_Faults_isThere_95 (by rfl) ?_
    refine rx_aload_nr d_Faults_isThere_96 (by rfl) ?_
    refine rx_iload_n d_Faults_isThere_97 (by rfl) ?_
    refine rx_cS d_Faults_isThere_98 ml_Faults_33 st_Faults_isUnlikeItsRepeat (by exact c9_Faults_isUnlikeItsRepeat) (by rfl) (by exact Nat.le_of_ble_eq_true rfl) (c_isUnlike hp H hr I hg hbn) ?_
    refine rx_if_eq (tgt := 108) d_Faults_isThere_101 (by rfl) (fun c101 => ?_) (fun c101 => ?_)
    · have z : ¬ FT n Va s g 3 b := fun w => bP_0.mp c101 w.2
      refine rx_iconst (v := 0) d_Faults_isThere_108 (by decide) ?_
      refine rx_zreturn d_Faults_isThere_109 (by rfl) (by rfl) ?_
      exact ⟨by first | (rw [bP_t z]; done) | (rw [bP_f z]; done), rfl⟩
    · have z : FT n Va s g 3 b := ⟨hb_t.mpr (fun w => c92 (ite01.mpr w)), bP_1.mp c101⟩
      refine rx_iconst (v := 1) d_Faults_isThere_104 (by decide) ?_
      refine rx_goto (tgt := 109) d_Faults_isThere_105 (by rfl) ?_
      refine rx_zreturn d_Faults_isThere_109 (by rfl) (by rfl) ?_
      exact ⟨by first | (rw [bP_t z]; done) | (rw [bP_f z]; done), rfl⟩
theorem c_isThere4 (hp : is_pg V h aP n al at_ av Le Te Va) (H : is_rp V h a n aA aE aG s.1 fA (fun x => (gO s x).map ra) (fun x => (g x).map ra) ra R) (hr : roG s g R) (I : gI Va n s) (hg : ∀ x r, g x = some r → r < s.1 ∧ x < n ∧ gF s r ≤ x) (hbn : b < n) : rx_C V (d + 4) kc ks m_Faults_isThere [.int (nI 4), .ref aP, .ref a, .int (nI b)] h (rx_X (.inl (some (.int (bP (FT n Va s g 4 b))))) h) := by
  have hn := H.n20
  have v0 : pgv n Va (nI b) 0 = Va (10 * b + 0) := pgv_k hn hbn (by omega) rfl
  have v1 : pgv n Va (nI b) 1 = Va (10 * b + 1) := pgv_k hn hbn (by omega) rfl
  have v2 : pgv n Va (nI b) 2 = Va (10 * b + 2) := pgv_k hn hbn (by omega) rfl
  have v7 : pgv n Va (nI b) 7 = Va (10 * b + 7) := pgv_k hn hbn (by omega) rfl
  refine rx_iload_n d_Faults_isThere_0 (by rfl) ?_
  refine rx_tableIn (x := nI 4) (off := 109) (tgt := 110) d_Faults_isThere_1 (by decide) (by decide) (by decide) (by decide) ?_
  refine rx_aload_nr d_Faults_isThere_110 (by rfl) ?_
  refine rx_aload_nr d_Faults_isThere_111 (by rfl) ?_
  refine rx_iload_n d_Faults_isThere_112 (by rfl) ?_
  refine rx_cS d_Faults_isThere_113 ml_Faults_37 st_Faults_isFirstOfWrongPasses (by exact c9_Faults_isFirstOfWrongPasses) (by rfl) (by exact Nat.le_of_ble_eq_true rfl) (c_isFirst hp H hr I hg hbn) ?_
  refine rx_zreturn d_Faults_isThere_116 (by rfl) bP_z ?_
  exact ⟨rfl, rfl⟩
theorem c_isThere5 (hp : is_pg V h aP n al at_ av Le Te Va) (H : is_rp V h a n aA aE aG s.1 fA (fun x => (gO s x).map ra) (fun x => (g x).map ra) ra R) (hr : roG s g R) (I : gI Va n s) (hg : ∀ x r, g x = some r → r < s.1 ∧ x < n ∧ gF s r ≤ x) (hbn : b < n) : rx_C V (d + 4) kc ks m_Faults_isThere [.int (nI 5), .ref aP, .ref a, .int (nI b)] h (rx_X (.inl (some (.int (bP (FT n Va s g 5 b))))) h) := by
  have hn := H.n20
  have v0 : pgv n Va (nI b) 0 = Va (10 * b + 0) := pgv_k hn hbn (by omega) rfl
  have v1 : pgv n Va (nI b) 1 = Va (10 * b + 1) := pgv_k hn hbn (by omega) rfl
  have v2 : pgv n Va (nI b) 2 = Va (10 * b + 2) := pgv_k hn hbn (by omega) rfl
  have v7 : pgv n Va (nI b) 7 = Va (10 * b + 7) := pgv_k hn hbn (by omega) rfl
  refine rx_iload_n d_Faults_isThere_0 (by rfl) ?_
  refine rx_tableIn (x := nI 5) (off := 116) (tgt := 117) d_Faults_isThere_1 (by decide) (by decide) (by decide) (by decide) ?_
  refine rx_aload_nr d_Faults_isThere_117 (by rfl) ?_
  refine rx_iconst (v := 3) d_Faults_isThere_118 (by decide) ?_
  refine rx_iload_n d_Faults_isThere_119 (by rfl) ?_
  refine rx_cS d_Faults_isThere_120 ml_Faults_40 st_Faults_isSecond (by exact c9_Faults_isSecond) (by rfl) (by exact Nat.le_of_ble_eq_true rfl) (c_isSecond hp (k := 3) (by omega) hbn) ?_
  refine rx_if_ne (tgt := 145) d_Faults_isThere_123 (by rfl) (fun c123 => ?_) (fun c123 => ?_)
  · have z : FT n Va s g 5 b := ⟨3, by omega, bP_1.mp c123⟩
    refine rx_iconst (v := 1) d_Faults_isThere_145 (by decide) ?_
    refine rx_goto (tgt := 150) d_Faults_isThere_146 (by rfl) ?_
    refine rx_zreturn d_Faults_isThere_150 (by rfl) (by rfl) ?_
    exact ⟨by first | (rw [bP_t z]; done) | (rw [bP_f z]; done), rfl⟩
  · refine rx_aload_nr d_Faults_isThere_126 (by rfl) ?_
    refine rx_iconst (v := 4) d_Faults_isThere_127 (by decide) ?_
    refine rx_iload_n d_Faults_isThere_128 (by rfl) ?_
    refine rx_cS d_Faults_isThere_129 ml_Faults_40 st_Faults_isSecond (by exact c9_Faults_isSecond) (by rfl) (by exact Nat.le_of_ble_eq_true rfl) (c_isSecond hp (k := 4) (by omega) hbn) ?_
    refine rx_if_ne (tgt := 145) d_Faults_isThere_132 (by rfl) (fun c132 => ?_) (fun c132 => ?_)
    · have z : FT n Va s g 5 b := ⟨4, by omega, bP_1.mp c132⟩
      refine rx_iconst (v := 1) d_Faults_isThere_145 (by decide) ?_
      refine rx_goto (tgt := 150) d_Faults_isThere_146 (by rfl) ?_
      refine rx_zreturn d_Faults_isThere_150 (by rfl) (by rfl) ?_
      exact ⟨by first | (rw [bP_t z]; done) | (rw [bP_f z]; done), rfl⟩
    · refine rx_aload_nr d_Faults_isThere_135 (by rfl) ?_
      refine rx_bipush (v := 7) d_Faults_isThere_136 (by decide) ?_
      refine rx_iload_n d_Faults_isThere_138 (by rfl) ?_
      refine rx_cS d_Faults_isThere_139 ml_Faults_40 st_Faults_isSecond (by exact c9_Faults_isSecond) (by rfl) (by exact Nat.le_of_ble_eq_true rfl) (c_isSecond hp (k := 7) (by omega) hbn) ?_
      refine rx_if_eq (tgt := 149) d_Faults_isThere_142 (by rfl) (fun c142 => ?_) (fun c142 => ?_)
      · have z : ¬ FT n Va s g 5 b := by
          rintro ⟨k, e | e | e, w⟩
          · subst e; exact bP_0.mp c123 w
          · subst e; exact bP_0.mp c132 w
          · subst e; exact bP_0.mp c142 w
        refine rx_iconst (v := 0) d_Faults_isThere_149 (by decide) ?_
        refine rx_zreturn d_Faults_isThere_150 (by rfl) (by rfl) ?_
        exact ⟨by first | (rw [bP_t z]; done) | (rw [bP_f z]; done), rfl⟩
      · have z : FT n Va s g 5 b := ⟨7, by omega, bP_1.mp c142⟩
        refine rx_iconst (v := 1) d_Faults_isThere_145 (by decide) ?_
        refine rx_goto (tgt := 150) d_Faults_isThere_146 (by rfl) ?_
        refine rx_zreturn d_Faults_isThere_150 (by rfl) (by rfl) ?_
        exact ⟨by first | (rw [bP_t z]; done) | (rw [bP_f z]; done), rfl⟩
theorem c_isThere6 (hp : is_pg V h aP n al at_ av Le Te Va) (H : is_rp V h a n aA aE aG s.1 fA (fun x => (gO s x).map ra) (fun x => (g x).map ra) ra R) (hr : roG s g R) (I : gI Va n s) (hg : ∀ x r, g x = some r → r < s.1 ∧ x < n ∧ gF s r ≤ x) (hbn : b < n) : rx_C V (d + 4) kc ks m_Faults_isThere [.int (nI 6), .ref aP, .ref a, .int (nI b)] h (rx_X (.inl (some (.int (bP (FT n Va s g 6 b))))) h) := by
  have hn := H.n20
  have v0 : pgv n Va (nI b) 0 = Va (10 * b + 0) := pgv_k hn hbn (by omega) rfl
  have v1 : pgv n Va (nI b) 1 = Va (10 * b + 1) := pgv_k hn hbn (by omega) rfl
  have v2 : pgv n Va (nI b) 2 = Va (10 * b + 2) := pgv_k hn hbn (by omega) rfl
  have v7 : pgv n Va (nI b) 7 = Va (10 * b + 7) := pgv_k hn hbn (by omega) rfl
  refine rx_iload_n d_Faults_isThere_0 (by rfl) ?_
  refine rx_tableIn (x := nI 6) (off := 150) (tgt := 151) d_Faults_isThere_1 (by decide) (by decide) (by decide) (by decide) ?_
  refine rx_aload_nr d_Faults_isThere_151 (by rfl) ?_
  refine rx_iload_n d_Faults_isThere_152 (by rfl) ?_
  refine rx_bipush (v := 7) d_Faults_isThere_153 (by decide) ?_
  refine rx_cV d_Faults_isThere_155 (by rfl) ml_Faults_21 im_Page_has se_Page_has (by exact c9_Page_has) hp.1 (by rfl) (by exact Nat.le_of_ble_eq_true rfl) (c_has hp (nI b) 7) ?_
  rw [v7]
  refine rx_if_eq (tgt := 174) d_Faults_isThere_158 (by rfl) (fun c158 => ?_) (fun c158 => ?_)
  · have z : ¬ FT n Va s g 6 b := fun w => hb_t.mp w.1 (ite01.mp c158)
    refine rx_iconst (v := 0) d_Faults_isThere_174 (by decide) ?_
    refine rx_zreturn d_Faults_isThere_175 (by rfl) (by rfl) ?_
    exact ⟨by first | (rw [bP_t z]; done) | (rw [bP_f z]; done), rfl⟩
  · refine rx_aload_nr d_Faults_isThere_161 (by rfl) ?_
    refine rx_iload_n d_Faults_isThere_162 (by rfl) ?_
    refine rx_cS d_Faults_isThere_163 ml_Faults_44 st_Jump_target (by exact c9_Jump_target) (by rfl) (by exact Nat.le_of_ble_eq_true rfl) (c_target hp hbn) ?_
    refine rx_iconst (v := -1) d_Faults_isThere_166 (by decide) ?_
    refine rx_icmp_ne (tgt := 174) d_Faults_isThere_167 (by rfl) (fun c167 => ?_) (fun c167 => ?_)
    · have z : ¬ FT n Va s g 6 b := fun w => c167 w.2
      refine rx_iconst (v := 0) d_Faults_isThere_174 (by decide) ?_
      refine rx_zreturn d_Faults_isThere_175 (by rfl) (by rfl) ?_
      exact ⟨by first | (rw [bP_t z]; done) | (rw [bP_f z]; done), rfl⟩
    · have z : FT n Va s g 6 b := ⟨hb_t.mpr (fun w => c158 (ite01.mpr w)), c167⟩
      refine rx_iconst (v := 1) d_Faults_isThere_170 (by decide) ?_
      refine rx_goto (tgt := 175) d_Faults_isThere_171 (by rfl) ?_
      refine rx_zreturn d_Faults_isThere_175 (by rfl) (by rfl) ?_
      exact ⟨by first | (rw [bP_t z]; done) | (rw [bP_f z]; done), rfl⟩
theorem c_isThere7 (hp : is_pg V h aP n al at_ av Le Te Va) (H : is_rp V h a n aA aE aG s.1 fA (fun x => (gO s x).map ra) (fun x => (g x).map ra) ra R) (hr : roG s g R) (I : gI Va n s) (hg : ∀ x r, g x = some r → r < s.1 ∧ x < n ∧ gF s r ≤ x) (hbn : b < n) : rx_C V (d + 4) kc ks m_Faults_isThere [.int (nI 7), .ref aP, .ref a, .int (nI b)] h (rx_X (.inl (some (.int (bP (FT n Va s g 7 b))))) h) := by
  have hn := H.n20
  have v0 : pgv n Va (nI b) 0 = Va (10 * b + 0) := pgv_k hn hbn (by omega) rfl
  have v1 : pgv n Va (nI b) 1 = Va (10 * b + 1) := pgv_k hn hbn (by omega) rfl
  have v2 : pgv n Va (nI b) 2 = Va (10 * b + 2) := pgv_k hn hbn (by omega) rfl
  have v7 : pgv n Va (nI b) 7 = Va (10 * b + 7) := pgv_k hn hbn (by omega) rfl
  refine rx_iload_n d_Faults_isThere_0 (by rfl) ?_
  refine rx_tableOut (x := nI 7) (tgt := 176) d_Faults_isThere_1 (by decide) (by decide) ?_
  refine rx_aload_nr d_Faults_isThere_176 (by rfl) ?_
  refine rx_iload_n d_Faults_isThere_177 (by rfl) ?_
  refine rx_bipush (v := 7) d_Faults_isThere_178 (by decide) ?_
  refine rx_cV d_Faults_isThere_180 (by rfl) ml_Faults_21 im_Page_has se_Page_has (by exact c9_Page_has) hp.1 (by rfl) (by exact Nat.le_of_ble_eq_true rfl) (c_has hp (nI b) 7) ?_
  rw [v7]
  refine rx_if_eq (tgt := 198) d_Faults_isThere_183 (by rfl) (fun c183 => ?_) (fun c183 => ?_)
  · have z : ¬ FT n Va s g 7 b := fun w => hb_t.mp w.1 (ite01.mp c183)
    refine rx_iconst (v := 0) d_Faults_isThere_198 (by decide) ?_
    refine rx_zreturn d_Faults_isThere_199 (by rfl) (by rfl) ?_
    exact ⟨by first | (rw [bP_t z]; done) | (rw [bP_f z]; done), rfl⟩
  · refine rx_aload_nr d_Faults_isThere_186 (by rfl) ?_
    refine rx_iload_n d_Faults_isThere_187 (by rfl) ?_
    refine rx_cS d_Faults_isThere_188 ml_Faults_50 st_Faults_lacksItsWay (by exact c9_Faults_lacksItsWay) (by rfl) (by exact Nat.le_of_ble_eq_true rfl) (c_lacksItsWay hp hbn) ?_
    refine rx_if_eq (tgt := 198) d_Faults_isThere_191 (by rfl) (fun c191 => ?_) (fun c191 => ?_)
    · have z : ¬ FT n Va s g 7 b := fun w => bP_0.mp c191 w.2
      refine rx_iconst (v := 0) d_Faults_isThere_198 (by decide) ?_
      refine rx_zreturn d_Faults_isThere_199 (by rfl) (by rfl) ?_
      exact ⟨by first | (rw [bP_t z]; done) | (rw [bP_f z]; done), rfl⟩
    · have z : FT n Va s g 7 b := ⟨hb_t.mpr (fun w => c183 (ite01.mpr w)), bP_1.mp c191⟩
      refine rx_iconst (v := 1) d_Faults_isThere_194 (by decide) ?_
      refine rx_goto (tgt := 199) d_Faults_isThere_195 (by rfl) ?_
      refine rx_zreturn d_Faults_isThere_199 (by rfl) (by rfl) ?_
      exact ⟨by first | (rw [bP_t z]; done) | (rw [bP_f z]; done), rfl⟩
theorem c_isThere (hp : is_pg V h aP n al at_ av Le Te Va) (H : is_rp V h a n aA aE aG s.1 fA (fun x => (gO s x).map ra) (fun x => (g x).map ra) ra R) (hr : roG s g R) (I : gI Va n s) (hg : ∀ x r, g x = some r → r < s.1 ∧ x < n ∧ gF s r ≤ x) (hbn : b < n) {k : Nat} (h1 : 1 ≤ k) (h7 : k ≤ 7) : rx_C V (d + 4) kc ks m_Faults_isThere [.int (nI k), .ref aP, .ref a, .int (nI b)] h (rx_X (.inl (some (.int (bP (FT n Va s g k b))))) h) := by
  match k, h1, h7 with
  | 1, _, _ => exact c_isThere1 hp H hr I hg hbn
  | 2, _, _ => exact c_isThere2 hp H hr I hg hbn
  | 3, _, _ => exact c_isThere3 hp H hr I hg hbn
  | 4, _, _ => exact c_isThere4 hp H hr I hg hbn
  | 5, _, _ => exact c_isThere5 hp H hr I hg hbn
  | 6, _, _ => exact c_isThere6 hp H hr I hg hbn
  | 7, _, _ => exact c_isThere7 hp H hr I hg hbn
  | k + 8, _, w => exact absurd w (by omega)
noncomputable def ftB (n : Nat) (F : Nat → Nat → Prop) (c : Nat) : Bool := pB (1 ≤ c / 100 ∧ c / 100 ≤ 7 ∧ c % 100 < n ∧ F (c / 100) (c % 100))
/-- the least fault's number -/
noncomputable def lst (n : Nat) (F : Nat → Nat → Prop) : Int32 := match fix (ftB n F) 0 800 with
  | none => 0
  | some c => nI c
theorem fix_at {Pr : Nat → Bool} {m x : Nat} (h1 : ∀ y, y < x → Pr y = false) (h2 : Pr x = true) (h3 : x < m) : fix Pr 0 m = some x := by
  cases e : fix Pr 0 m with
  | none => exact absurd ((fix_n e x (Nat.zero_le _) (by omega)).symm.trans h2) (by decide)
  | some y =>
    obtain ⟨-, -, j3, j4⟩ := fix_s e
    by_cases c : y < x
    · rw [h1 y c] at j3; cases j3
    · by_cases c2 : x < y
      · rw [j4 x (Nat.zero_le _) c2] at h2; cases h2
      · rw [show y = x from by omega]
theorem fix_0 {Pr : Nat → Bool} {m : Nat} (h1 : ∀ y, y < m → Pr y = false) : fix Pr 0 m = none := by
  cases e : fix Pr 0 m with
  | none => rfl
  | some y =>
    obtain ⟨-, j2, j3, -⟩ := fix_s e
    rw [h1 y (by omega)] at j3; cases j3
theorem l_least1 (hp : is_pg V h aP n al at_ av Le Te Va) (H : is_rp V h a n aA aE aG s.1 fA (fun x => (gO s x).map ra) (fun x => (g x).map ra) ra R) (hr : roG s g R) (I : gI Va n s) (hg : ∀ x r, g x = some r → r < s.1 ∧ x < n ∧ gF s r ≤ x) {k : Nat} (h1 : 1 ≤ k) (h7 : k ≤ 7) (K : (∀ c, c < 100 * (k + 1) → ftB n (FT n Va s g) c = false) → ∀ y, rx_W V (d + 5) kc ks m_Faults_least 2 [some (.ref aP), some (.ref a), some (.int (nI (k + 1))), y] [] h (rx_X (.inl (some (.int (lst n (FT n Va s g))))) h)) :
    ∀ (m b : Nat), b + m = n → (∀ c, c < 100 * k + b → ftB n (FT n Va s g) c = false) → rx_W V (d + 5) kc ks m_Faults_least 10 [some (.ref aP), some (.ref a), some (.int (nI k)), some (.int (nI b))] [] h (rx_X (.inl (some (.int (lst n (FT n Va s g))))) h) := by
  have hn := H.n20
  intro m
  induction m with
  | zero =>
    intro b hi hc
    have hi9 : b = n := by omega
    subst hi9
    refine rx_iload_n d_Faults_least_10 (by rfl) ?_
    refine rx_aload_nr d_Faults_least_11 (by rfl) ?_
    refine rx_getfield d_Faults_least_12 fl_Faults_11 hp.1 (by rfl) ?_
    refine rx_icmp_ge (tgt := 41) d_Faults_least_15 (by rfl) (fun c15 => ?_) (fun z => absurd (Int32.le_refl _) z)
    refine rx_iinc (v := nI (k + 1)) d_Faults_least_41 (by rfl) (i_inc k) ?_
    refine rx_goto (tgt := 2) d_Faults_least_44 (by rfl) ?_
    refine K (fun c hlt => ?_) _
    by_cases w : c < 100 * k + b
    · exact hc c w
    · exact pB_f.mpr (fun z => by omega)
  | succ m ih =>
    intro b hi hc
    have hbn : b < n := by omega
    have e1 : (100 * k + b) / 100 = k := by omega
    have e2 : (100 * k + b) % 100 = b := by omega
    refine rx_iload_n d_Faults_least_10 (by rfl) ?_
    refine rx_aload_nr d_Faults_least_11 (by rfl) ?_
    refine rx_getfield d_Faults_least_12 fl_Faults_11 hp.1 (by rfl) ?_
    refine rx_icmp_ge (tgt := 41) d_Faults_least_15 (by rfl) (fun z => absurd z (nI_ge hbn (by omega))) (fun c15 => ?_)
    refine rx_iload_n d_Faults_least_18 (by rfl) ?_
    refine rx_aload_nr d_Faults_least_19 (by rfl) ?_
    refine rx_aload_nr d_Faults_least_20 (by rfl) ?_
    refine rx_iload_n d_Faults_least_21 (by rfl) ?_
    refine rx_cS d_Faults_least_22 ml_Faults_17 st_Faults_isThere (by exact c9_Faults_isThere) (by rfl) (by exact Nat.le_of_ble_eq_true rfl) (c_isThere hp H hr I hg hbn h1 h7) ?_
    refine rx_if_eq (tgt := 35) d_Faults_least_25 (by rfl) (fun c25 => ?_) (fun c25 => ?_)
    · refine rx_iinc (v := nI (b + 1)) d_Faults_least_35 (by rfl) (i_inc b) ?_
      refine rx_goto (tgt := 10) d_Faults_least_38 (by rfl) ?_
      refine ih (b + 1) (by omega) (fun c hlt => ?_)
      by_cases w : c < 100 * k + b
      · exact hc c w
      · have e : c = 100 * k + b := by omega
        rw [e]
        exact pB_f.mpr (by rw [e1, e2]; exact fun z => bP_0.mp c25 z.2.2.2)
    · refine rx_bipush (v := 100) d_Faults_least_28 (by decide) ?_
      refine rx_iload_n d_Faults_least_30 (by rfl) ?_
      refine rx_imul d_Faults_least_31 ?_
      refine rx_iload_n d_Faults_least_32 (by rfl) ?_
      refine rx_iadd d_Faults_least_33 ?_
      refine rx_ireturn d_Faults_least_34 (by rfl) ?_
      have e3 : lst n (FT n Va s g) = nI (100 * k + b) := by
        unfold lst
        rw [fix_at hc (pB_t.mpr (by rw [e1, e2]; exact ⟨h1, h7, hbn, bP_1.mp c25⟩)) (by omega)]
      exact ⟨by rw [e3, show (100 : Int32) = nI 100 from rfl, pk_mul, nI_add], rfl⟩
theorem l_least2 (hp : is_pg V h aP n al at_ av Le Te Va) (H : is_rp V h a n aA aE aG s.1 fA (fun x => (gO s x).map ra) (fun x => (g x).map ra) ra R) (hr : roG s g R) (I : gI Va n s) (hg : ∀ x r, g x = some r → r < s.1 ∧ x < n ∧ gF s r ≤ x) : ∀ (m k : Nat) (y : Option Value), k + m = 8 → 1 ≤ k → (∀ c, c < 100 * k → ftB n (FT n Va s g) c = false) → rx_W V (d + 5) kc ks m_Faults_least 2 [some (.ref aP), some (.ref a), some (.int (nI k)), y] [] h (rx_X (.inl (some (.int (lst n (FT n Va s g))))) h) := by
  have hn := H.n20
  intro m
  induction m with
  | zero =>
    intro k y hi h1 hc
    have hi9 : k = 8 := by omega
    subst hi9
    refine rx_iload_n d_Faults_least_2 (by rfl) ?_
    refine rx_bipush (v := 7) d_Faults_least_3 (by decide) ?_
    refine rx_icmp_gt (tgt := 47) d_Faults_least_5 (by rfl) (fun c5 => ?_) (fun z => absurd (by decide) z)
    refine rx_iconst (v := 0) d_Faults_least_47 (by decide) ?_
    refine rx_ireturn d_Faults_least_48 (by rfl) ?_
    exact ⟨by unfold lst; rw [fix_0 hc], rfl⟩
  | succ m ih =>
    intro k y hi h1 hc
    refine rx_iload_n d_Faults_least_2 (by rfl) ?_
    refine rx_bipush (v := 7) d_Faults_least_3 (by decide) ?_
    refine rx_icmp_gt (tgt := 47) d_Faults_least_5 (by rfl) (fun z => absurd z (show ¬ nI 7 < nI k from nI_nlt (by omega) (by omega))) (fun c5 => ?_)
    refine rx_iconst (v := 0) d_Faults_least_8 (by decide) ?_
    refine rx_istore_n d_Faults_least_9 (Nat.le_of_ble_eq_true rfl) ?_
    exact l_least1 hp H hr I hg h1 (by omega) (fun w y => ih (k + 1) y (by omega) (by omega) w) n 0 (by omega) hc
theorem c_least (hp : is_pg V h aP n al at_ av Le Te Va) (H : is_rp V h a n aA aE aG s.1 fA (fun x => (gO s x).map ra) (fun x => (g x).map ra) ra R) (hr : roG s g R) (I : gI Va n s) (hg : ∀ x r, g x = some r → r < s.1 ∧ x < n ∧ gF s r ≤ x) : rx_C V (d + 5) kc ks m_Faults_least [.ref aP, .ref a] h (rx_X (.inl (some (.int (lst n (FT n Va s g))))) h) := by
  refine rx_iconst (v := 1) d_Faults_least_0 (by decide) ?_
  refine rx_istore_n d_Faults_least_1 (Nat.le_of_ble_eq_true rfl) ?_
  exact l_least2 hp H hr I hg 7 1 _ (by omega) (by omega) (fun c hc => pB_f.mpr (fun z => by omega))
end FA
end
section
/-! Road: reads -/
def is_rd (V : rx_V) (h : List va_E) (a aO n N : Nat) (jm wo wy tk : Int32) (f : Nat → Int32) : Prop :=
  rx_rd V h a = some (.inr (5, [.ref aO, .int (nI N), .int jm, .int wo, .int wy, .int tk])) ∧ rx_rd V h aO = some (.inl (V.2.2.2.1 0, n * 12, .inl f)) ∧ N ≤ n * 12 ∧ n ≤ 20
/-- the bar played at a place, else -1 -/
def brf (N : Nat) (f : Nat → Int32) (i : Int32) : Int32 := if 0 ≤ i.toInt ∧ i.toInt < N then f i.toInt.toNat else -1
def ctf (f : Nat → Int32) (v : Int32) (c : Int32) (j : Nat) : Int32 := if f j = v then c + 1 else c
def ixf (f : Nat → Int32) (b k : Int32) : Int32 → Nat → Nat → Int32
  | _, _, 0 => -1
  | t, i, m + 1 => if f i = b then (if t + 1 = k then nI i else ixf f b k (t + 1) (i + 1) m) else ixf f b k t (i + 1) m
/-- a bar's ticks -/
def tkf (n : Nat) (Le Te : Nat → Int32) (b : Int32) : Int64 := (pgl n Le b).toInt64 * (pgl n Te b).toInt64
def tks (n : Nat) (Le Te f : Nat → Int32) (x : Int64) (j : Nat) : Int64 := x + tkf n Le Te (f j)
def iaf (n : Nat) (Le Te f : Nat → Int32) (t : Int64) : Int64 → Nat → Nat → Int32
  | _, _, 0 => -1
  | e, i, m + 1 => if t < e + tkf n Le Te (f i) then nI i else iaf n Le Te f t (e + tkf n Le Te (f i)) (i + 1) m
theorem lg_ge0 (x y : Int64) : 0 ≤ lg_cmp x y ↔ ¬ x < y := by
  rw [← lg_lt0, Int32.le_iff_toInt_le, Int32.lt_iff_toInt_lt]
  omega
theorem brf_0 {N : Nat} {f : Nat → Int32} {i : Int32} (hN : N ≤ 1000) (h : iwn i 0 (nI N - 1) = 0) : brf N f i = -1 := by
  refine if_neg (fun z => ?_)
  have e : (nI N - 1).toInt = (N : Int) - 1 := by
    cases N with
    | zero => omega
    | succ j => rw [show nI (j + 1) - 1 = nI j from nI_pred j, i_n (by omega)]; omega
  have w : iwn i 0 (nI N - 1) = 1 := if_pos ⟨by rw [i_le, i_0]; exact z.1, by rw [i_le, e]; omega⟩
  rw [w] at h; exact absurd h (by decide)
theorem brf_1 {N : Nat} {f : Nat → Int32} {i : Int32} (hN : N ≤ 1000) (h : ¬ iwn i 0 (nI N - 1) = 0) : ∃ j, j < N ∧ i = nI j ∧ brf N f i = f j := by
  have e : (nI N - 1).toInt = (N : Int) - 1 := by
    cases N with
    | zero => decide
    | succ j => rw [show nI (j + 1) - 1 = nI j from nI_pred j, i_n (by omega)]; omega
  unfold iwn at h
  by_cases z : (0 : Int32) ≤ i ∧ i ≤ nI N - 1
  · rw [i_le, i_0, i_le, e] at z
    refine ⟨i.toInt.toNat, by omega, i_of (by omega) (by omega), if_pos (by omega)⟩
  · rw [if_neg z] at h; exact absurd rfl h
theorem brf_n {N j : Nat} {f : Nat → Int32} (hN : N ≤ 1000) (h : j < N) : brf N f (nI j) = f j := by
  unfold brf
  rw [i_n (by omega), if_pos (by omega)]
  rfl
section RD
variable {V : rx_V} {d kc ks a aO n N aP al at_ av : Nat} {h : List va_E} {Le Te Va f : Nat → Int32} {jm wo wy tk : Int32}
theorem c_barOf (D : is_rd V h a aO n N jm wo wy tk f) (i : Int32) : rx_C V (d + 1) kc ks m_Road_barOf [.ref a, .int i] h (rx_X (.inl (some (.int (brf N f i)))) h) := by
  obtain ⟨D1, D2, D3, D4⟩ := id D
  refine rx_iload_n d_Road_barOf_0 (by rfl) ?_
  refine rx_iconst (v := 0) d_Road_barOf_1 (by decide) ?_
  refine rx_aload_nr d_Road_barOf_2 (by rfl) ?_
  refine rx_getfield d_Road_barOf_3 fl_Road_15 D1 (by rfl) ?_
  refine rx_iconst (v := 1) d_Road_barOf_6 (by decide) ?_
  refine rx_isub d_Road_barOf_7 ?_
  refine rx_cSN d_Road_barOf_8 ml_Road_116 st_SR_isWithin (by exact c9_SR_isWithin) (by rfl) (by exact Nat.le_of_ble_eq_true rfl) (c_isWithin i 0 (nI N - 1)) ?_
  refine rx_if_eq (tgt := 23) d_Road_barOf_11 (by rfl) (fun c11 => ?_) (fun c11 => ?_)
  · rw [brf_0 (by omega) c11]
    refine rx_iconst (v := -1) d_Road_barOf_23 (by decide) ?_
    refine rx_ireturn d_Road_barOf_24 (by rfl) ?_
    exact ⟨rfl, rfl⟩
  · obtain ⟨j, j1, j2, j3⟩ := brf_1 (f := f) (by omega) c11
    subst j2
    rw [j3]
    refine rx_aload_nr d_Road_barOf_14 (by rfl) ?_
    refine rx_getfield d_Road_barOf_15 fl_Road_9 D1 (by rfl) ?_
    refine rx_iload_n d_Road_barOf_18 (by rfl) ?_
    refine rx_iaload d_Road_barOf_19 (by rfl) D2 (vp_in_nI (by omega) (by omega)) ?_
    rw [i_cl (by omega)]
    refine rx_goto (tgt := 24) d_Road_barOf_20 (by rfl) ?_
    refine rx_ireturn d_Road_barOf_24 (by rfl) ?_
    exact ⟨rfl, rfl⟩
theorem l_timesUpTo (D : is_rd V h a aO n N jm wo wy tk f) {i : Nat} (hi : i < N) : ∀ (m j : Nat) (c : Int32), j + m = i + 1 → rx_W V (d + 2) kc ks m_Road_timesUpTo 4 [some (.ref a), some (.int (nI i)), some (.int c), some (.int (nI j))] [] h (rx_X (.inl (some (.int (ffo (ctf f (f i)) c j m)))) h) := by
  obtain ⟨D1, D2, D3, D4⟩ := id D
  intro m
  induction m with
  | zero =>
    intro j c hj
    have e : j = i + 1 := by omega
    subst e
    refine rx_iload_n d_Road_timesUpTo_4 (by rfl) ?_
    refine rx_iload_n d_Road_timesUpTo_5 (by rfl) ?_
    refine rx_icmp_gt (tgt := 40) d_Road_timesUpTo_6 (by rfl) (fun c6 => ?_) (fun z => absurd (nI_lt (by omega) (by omega)) z)
    refine rx_iload_n d_Road_timesUpTo_40 (by rfl) ?_
    refine rx_ireturn d_Road_timesUpTo_41 (by rfl) ?_
    exact ⟨rfl, rfl⟩
  | succ m ih =>
    intro j c hj
    refine rx_iload_n d_Road_timesUpTo_4 (by rfl) ?_
    refine rx_iload_n d_Road_timesUpTo_5 (by rfl) ?_
    refine rx_icmp_gt (tgt := 40) d_Road_timesUpTo_6 (by rfl) (fun z => absurd z (nI_nlt (by omega) (by omega))) (fun c6 => ?_)
    refine rx_iload_n d_Road_timesUpTo_9 (by rfl) ?_
    refine rx_aload_nr d_Road_timesUpTo_10 (by rfl) ?_
    refine rx_getfield d_Road_timesUpTo_11 fl_Road_15 D1 (by rfl) ?_
    refine rx_icmp_ge (tgt := 40) d_Road_timesUpTo_14 (by rfl) (fun z => absurd z (nI_ge (by omega) (by omega))) (fun c14 => ?_)
    refine rx_aload_nr d_Road_timesUpTo_17 (by rfl) ?_
    refine rx_getfield d_Road_timesUpTo_18 fl_Road_9 D1 (by rfl) ?_
    refine rx_iload_n d_Road_timesUpTo_21 (by rfl) ?_
    refine rx_iaload d_Road_timesUpTo_22 (by rfl) D2 (vp_in_nI (by omega) (by omega)) ?_
    rw [i_cl (by omega)]
    refine rx_aload_nr d_Road_timesUpTo_23 (by rfl) ?_
    refine rx_iload_n d_Road_timesUpTo_24 (by rfl) ?_
    refine rx_cV d_Road_timesUpTo_25 (by rfl) ml_Road_120 im_Road_barOf se_Road_barOf (by exact c9_Road_barOf) D1 (by rfl) (by exact Nat.le_of_ble_eq_true rfl) (c_barOf D (nI i)) ?_
    rw [brf_n (by omega) hi]
    refine rx_icmp_ne (tgt := 34) d_Road_timesUpTo_28 (by rfl) (fun c28 => ?_) (fun c28 => ?_)
    · have hs : ctf f (f i) c j = c := if_neg c28
      refine rx_iinc (v := nI (j + 1)) d_Road_timesUpTo_34 (by rfl) (i_inc j) ?_
      refine rx_goto (tgt := 4) d_Road_timesUpTo_37 (by rfl) ?_
      have z := ih (j + 1) (ctf f (f i) c j) (by omega)
      rw [hs] at z
      show rx_W V (d + 2) kc ks m_Road_timesUpTo 4 _ [] h (rx_X (.inl (some (.int (ffo (ctf f (f i)) (ctf f (f i) c j) (j + 1) m)))) h)
      rw [hs]
      exact z
    · have hs : ctf f (f i) c j = c + 1 := if_pos c28
      refine rx_iinc d_Road_timesUpTo_31 (by rfl) (by rfl) ?_
      refine rx_iinc (v := nI (j + 1)) d_Road_timesUpTo_34 (by rfl) (i_inc j) ?_
      refine rx_goto (tgt := 4) d_Road_timesUpTo_37 (by rfl) ?_
      have z := ih (j + 1) (ctf f (f i) c j) (by omega)
      rw [hs] at z
      show rx_W V (d + 2) kc ks m_Road_timesUpTo 4 _ [] h (rx_X (.inl (some (.int (ffo (ctf f (f i)) (ctf f (f i) c j) (j + 1) m)))) h)
      rw [hs]
      exact z
theorem c_timesUpTo (D : is_rd V h a aO n N jm wo wy tk f) {i : Nat} (hi : i < N) : rx_C V (d + 2) kc ks m_Road_timesUpTo [.ref a, .int (nI i)] h (rx_X (.inl (some (.int (ffo (ctf f (f i)) 0 0 (i + 1))))) h) := by
  refine rx_iconst (v := 0) d_Road_timesUpTo_0 (by decide) ?_
  refine rx_istore_n d_Road_timesUpTo_1 (Nat.le_of_ble_eq_true rfl) ?_
  refine rx_iconst (v := 0) d_Road_timesUpTo_2 (by decide) ?_
  refine rx_istore_n d_Road_timesUpTo_3 (Nat.le_of_ble_eq_true rfl) ?_
  exact l_timesUpTo D hi (i + 1) 0 0 (by omega)
theorem l_indexOf (D : is_rd V h a aO n N jm wo wy tk f) (b k : Int32) : ∀ (m j : Nat) (c : Int32), j + m = N → rx_W V d kc ks m_Road_indexOf 5 [some (.ref a), some (.int b), some (.int k), some (.int c), some (.int (nI j))] [] h (rx_X (.inl (some (.int (ixf f b k c j m)))) h) := by
  obtain ⟨D1, D2, D3, D4⟩ := id D
  intro m
  induction m with
  | zero =>
    intro j c hj
    have e : j = N := by omega
    subst e
    refine rx_iload d_Road_indexOf_5 (by rfl) ?_
    refine rx_aload_nr d_Road_indexOf_7 (by rfl) ?_
    refine rx_getfield d_Road_indexOf_8 fl_Road_15 D1 (by rfl) ?_
    refine rx_icmp_ge (tgt := 42) d_Road_indexOf_11 (by rfl) (fun c11 => ?_) (fun z => absurd (Int32.le_refl _) z)
    refine rx_iconst (v := -1) d_Road_indexOf_42 (by decide) ?_
    refine rx_ireturn d_Road_indexOf_43 (by rfl) ?_
    exact ⟨rfl, rfl⟩
  | succ m ih =>
    intro j c hj
    refine rx_iload d_Road_indexOf_5 (by rfl) ?_
    refine rx_aload_nr d_Road_indexOf_7 (by rfl) ?_
    refine rx_getfield d_Road_indexOf_8 fl_Road_15 D1 (by rfl) ?_
    refine rx_icmp_ge (tgt := 42) d_Road_indexOf_11 (by rfl) (fun z => absurd z (nI_ge (by omega) (by omega))) (fun c11 => ?_)
    refine rx_aload_nr d_Road_indexOf_14 (by rfl) ?_
    refine rx_getfield d_Road_indexOf_15 fl_Road_9 D1 (by rfl) ?_
    refine rx_iload d_Road_indexOf_18 (by rfl) ?_
    refine rx_iaload d_Road_indexOf_20 (by rfl) D2 (vp_in_nI (by omega) (by omega)) ?_
    rw [i_cl (by omega)]
    refine rx_iload_n d_Road_indexOf_21 (by rfl) ?_
    refine rx_icmp_ne (tgt := 36) d_Road_indexOf_22 (by rfl) (fun c22 => ?_) (fun c22 => ?_)
    · rw [show ixf f b k c j (m + 1) = ixf f b k c (j + 1) m from if_neg c22]
      refine rx_iinc (v := nI (j + 1)) d_Road_indexOf_36 (by rfl) (i_inc j) ?_
      refine rx_goto (tgt := 5) d_Road_indexOf_39 (by rfl) ?_
      exact ih (j + 1) _ (by omega)
    · refine rx_iinc d_Road_indexOf_25 (by rfl) (by rfl) ?_
      refine rx_iload_n d_Road_indexOf_28 (by rfl) ?_
      refine rx_iload_n d_Road_indexOf_29 (by rfl) ?_
      refine rx_icmp_ne (tgt := 36) d_Road_indexOf_30 (by rfl) (fun c30 => ?_) (fun c30 => ?_)
      · rw [show ixf f b k c j (m + 1) = ixf f b k (c + 1) (j + 1) m from (if_pos c22).trans (if_neg c30)]
        refine rx_iinc (v := nI (j + 1)) d_Road_indexOf_36 (by rfl) (i_inc j) ?_
        refine rx_goto (tgt := 5) d_Road_indexOf_39 (by rfl) ?_
        exact ih (j + 1) _ (by omega)
      · refine rx_iload d_Road_indexOf_33 (by rfl) ?_
        refine rx_ireturn d_Road_indexOf_35 (by rfl) ?_
        exact ⟨by rw [show ixf f b k c j (m + 1) = nI j from (if_pos c22).trans (if_pos c30)], rfl⟩
theorem c_indexOf (D : is_rd V h a aO n N jm wo wy tk f) (b k : Int32) : rx_C V d kc ks m_Road_indexOf [.ref a, .int b, .int k] h (rx_X (.inl (some (.int (ixf f b k 0 0 N)))) h) := by
  refine rx_iconst (v := 0) d_Road_indexOf_0 (by decide) ?_
  refine rx_istore_n d_Road_indexOf_1 (Nat.le_of_ble_eq_true rfl) ?_
  refine rx_iconst (v := 0) d_Road_indexOf_2 (by decide) ?_
  refine rx_istore d_Road_indexOf_3 (Nat.le_of_ble_eq_true rfl) ?_
  exact l_indexOf D b k N 0 0 (by omega)
theorem c_ticksOf (hp : is_pg V h aP n al at_ av Le Te Va) (b : Int32) : rx_C V (d + 2) kc ks m_Road_ticksOf [.ref aP, .int b] h (rx_X (.inl (some (.long (tkf n Le Te b)))) h) := by
  refine rx_aload_nr d_Road_ticksOf_0 (by rfl) ?_
  refine rx_iload_n d_Road_ticksOf_1 (by rfl) ?_
  refine rx_cV d_Road_ticksOf_2 (by rfl) ml_Road_127 im_Page_lengthOf se_Page_lengthOf (by exact c9_Page_lengthOf) hp.1 (by rfl) (by exact Nat.le_of_ble_eq_true rfl) (c_lengthOf hp b) ?_
  refine rx_i2l d_Road_ticksOf_5 ?_
  refine rx_aload_nr d_Road_ticksOf_6 (by rfl) ?_
  refine rx_iload_n d_Road_ticksOf_7 (by rfl) ?_
  refine rx_cV d_Road_ticksOf_8 (by rfl) ml_Road_130 im_Page_tempoOf se_Page_tempoOf (by exact c9_Page_tempoOf) hp.1 (by rfl) (by exact Nat.le_of_ble_eq_true rfl) (c_tempoOf hp b) ?_
  refine rx_i2l d_Road_ticksOf_11 ?_
  refine rx_lmul d_Road_ticksOf_12 ?_
  refine rx_lreturn d_Road_ticksOf_13 (by rfl) ?_
  exact ⟨rfl, rfl⟩
theorem l_ticksTo (hp : is_pg V h aP n al at_ av Le Te Va) (D : is_rd V h a aO n N jm wo wy tk f) {i : Nat} (hi : i ≤ N) : ∀ (m j : Nat) (x : Int64), j + m = i → rx_W V (d + 3) kc ks m_Road_ticksTo 5 [some (.ref a), some (.ref aP), some (.int (nI i)), some (.long x), none, some (.int (nI j))] [] h (rx_X (.inl (some (.long (ffo (tks n Le Te f) x j m)))) h) := by
  obtain ⟨D1, D2, D3, D4⟩ := id D
  intro m
  induction m with
  | zero =>
    intro j c hj
    have e : j = i := by omega
    subst e
    refine rx_iload d_Road_ticksTo_5 (by rfl) ?_
    refine rx_iload_n d_Road_ticksTo_7 (by rfl) ?_
    refine rx_icmp_ge (tgt := 40) d_Road_ticksTo_8 (by rfl) (fun c8 => ?_) (fun z => absurd (Int32.le_refl _) z)
    refine rx_lload_n d_Road_ticksTo_40 (by rfl) ?_
    refine rx_lreturn d_Road_ticksTo_41 (by rfl) ?_
    exact ⟨rfl, rfl⟩
  | succ m ih =>
    intro j x hj
    refine rx_iload d_Road_ticksTo_5 (by rfl) ?_
    refine rx_iload_n d_Road_ticksTo_7 (by rfl) ?_
    refine rx_icmp_ge (tgt := 40) d_Road_ticksTo_8 (by rfl) (fun z => absurd z (nI_ge (by omega) (by omega))) (fun c8 => ?_)
    refine rx_iload d_Road_ticksTo_11 (by rfl) ?_
    refine rx_aload_nr d_Road_ticksTo_13 (by rfl) ?_
    refine rx_getfield d_Road_ticksTo_14 fl_Road_15 D1 (by rfl) ?_
    refine rx_icmp_ge (tgt := 40) d_Road_ticksTo_17 (by rfl) (fun z => absurd z (nI_ge (by omega) (by omega))) (fun c17 => ?_)
    refine rx_lload_n d_Road_ticksTo_20 (by rfl) ?_
    refine rx_aload_nr d_Road_ticksTo_21 (by rfl) ?_
    refine rx_aload_nr d_Road_ticksTo_22 (by rfl) ?_
    refine rx_getfield d_Road_ticksTo_23 fl_Road_9 D1 (by rfl) ?_
    refine rx_iload d_Road_ticksTo_26 (by rfl) ?_
    refine rx_iaload d_Road_ticksTo_28 (by rfl) D2 (vp_in_nI (by omega) (by omega)) ?_
    rw [i_cl (by omega)]
    refine rx_cS d_Road_ticksTo_29 ml_Road_123 st_Road_ticksOf (by exact c9_Road_ticksOf) (by rfl) (by exact Nat.le_of_ble_eq_true rfl) (c_ticksOf hp (f j)) ?_
    refine rx_ladd d_Road_ticksTo_32 ?_
    refine rx_lstore_n d_Road_ticksTo_33 (Nat.le_of_ble_eq_true rfl) ?_
    refine rx_iinc (v := nI (j + 1)) d_Road_ticksTo_34 (by rfl) (i_inc j) ?_
    refine rx_goto (tgt := 5) d_Road_ticksTo_37 (by rfl) ?_
    exact ih (j + 1) _ (by omega)
theorem c_ticksTo (hp : is_pg V h aP n al at_ av Le Te Va) (D : is_rd V h a aO n N jm wo wy tk f) {i : Nat} (hi : i ≤ N) : rx_C V (d + 3) kc ks m_Road_ticksTo [.ref a, .ref aP, .int (nI i)] h (rx_X (.inl (some (.long (ffo (tks n Le Te f) 0 0 i)))) h) := by
  refine rx_lconst (v := 0) d_Road_ticksTo_0 (by decide) ?_
  refine rx_lstore_n d_Road_ticksTo_1 (Nat.le_of_ble_eq_true rfl) ?_
  refine rx_iconst (v := 0) d_Road_ticksTo_2 (by decide) ?_
  refine rx_istore d_Road_ticksTo_3 (Nat.le_of_ble_eq_true rfl) ?_
  exact l_ticksTo hp D hi i 0 0 (by omega)
theorem l_indexAt (hp : is_pg V h aP n al at_ av Le Te Va) (D : is_rd V h a aO n N jm wo wy tk f) (t : Int64) : ∀ (m j : Nat) (x : Int64), j + m = N → rx_W V (d + 3) kc ks m_Road_indexAt 14 [some (.ref a), some (.ref aP), some (.long t), none, some (.long x), none, some (.int (nI j))] [] h (rx_X (.inl (some (.int (iaf n Le Te f t x j m)))) h) := by
  obtain ⟨D1, D2, D3, D4⟩ := id D
  intro m
  induction m with
  | zero =>
    intro j c hj
    have e : j = N := by omega
    subst e
    refine rx_iload d_Road_indexAt_14 (by rfl) ?_
    refine rx_aload_nr d_Road_indexAt_16 (by rfl) ?_
    refine rx_getfield d_Road_indexAt_17 fl_Road_15 D1 (by rfl) ?_
    refine rx_icmp_ge (tgt := 55) d_Road_indexAt_20 (by rfl) (fun c20 => ?_) (fun z => absurd (Int32.le_refl _) z)
    refine rx_iconst (v := -1) d_Road_indexAt_55 (by decide) ?_
    refine rx_ireturn d_Road_indexAt_56 (by rfl) ?_
    exact ⟨rfl, rfl⟩
  | succ m ih =>
    intro j x hj
    refine rx_iload d_Road_indexAt_14 (by rfl) ?_
    refine rx_aload_nr d_Road_indexAt_16 (by rfl) ?_
    refine rx_getfield d_Road_indexAt_17 fl_Road_15 D1 (by rfl) ?_
    refine rx_icmp_ge (tgt := 55) d_Road_indexAt_20 (by rfl) (fun z => absurd z (nI_ge (by omega) (by omega))) (fun c20 => ?_)
    refine rx_lload d_Road_indexAt_23 (by rfl) ?_
    refine rx_aload_nr d_Road_indexAt_25 (by rfl) ?_
    refine rx_aload_nr d_Road_indexAt_26 (by rfl) ?_
    refine rx_getfield d_Road_indexAt_27 fl_Road_9 D1 (by rfl) ?_
    refine rx_iload d_Road_indexAt_30 (by rfl) ?_
    refine rx_iaload d_Road_indexAt_32 (by rfl) D2 (vp_in_nI (by omega) (by omega)) ?_
    rw [i_cl (by omega)]
    refine rx_cS d_Road_indexAt_33 ml_Road_123 st_Road_ticksOf (by exact c9_Road_ticksOf) (by rfl) (by exact Nat.le_of_ble_eq_true rfl) (c_ticksOf hp (f j)) ?_
    refine rx_ladd d_Road_indexAt_36 ?_
    refine rx_lstore d_Road_indexAt_37 (Nat.le_of_ble_eq_true rfl) ?_
    refine rx_lload_n d_Road_indexAt_39 (by rfl) ?_
    refine rx_lload d_Road_indexAt_40 (by rfl) ?_
    refine rx_lcmp d_Road_indexAt_42 ?_
    refine rx_if_ge (tgt := 49) d_Road_indexAt_43 (by rfl) (fun c43 => ?_) (fun c43 => ?_)
    · rw [show iaf n Le Te f t x j (m + 1) = iaf n Le Te f t (x + tkf n Le Te (f j)) (j + 1) m from if_neg ((lg_ge0 _ _).mp c43)]
      refine rx_iinc (v := nI (j + 1)) d_Road_indexAt_49 (by rfl) (i_inc j) ?_
      refine rx_goto (tgt := 14) d_Road_indexAt_52 (by rfl) ?_
      exact ih (j + 1) _ (by omega)
    · refine rx_iload d_Road_indexAt_46 (by rfl) ?_
      refine rx_ireturn d_Road_indexAt_48 (by rfl) ?_
      exact ⟨by rw [show iaf n Le Te f t x j (m + 1) = nI j from if_pos (Decidable.not_not.mp (fun w => c43 ((lg_ge0 _ _).mpr w)))], rfl⟩
theorem c_indexAt (hp : is_pg V h aP n al at_ av Le Te Va) (D : is_rd V h a aO n N jm wo wy tk f) (t : Int64) : rx_C V (d + 3) kc ks m_Road_indexAt [.ref a, .ref aP, .long t] h (rx_X (.inl (some (.int (if t < 0 then -1 else iaf n Le Te f t 0 0 N)))) h) := by
  refine rx_lload_n d_Road_indexAt_0 (by rfl) ?_
  refine rx_lconst (v := 0) d_Road_indexAt_1 (by decide) ?_
  refine rx_lcmp d_Road_indexAt_2 ?_
  refine rx_if_ge (tgt := 8) d_Road_indexAt_3 (by rfl) (fun c3 => ?_) (fun c3 => ?_)
  · rw [if_neg ((lg_ge0 _ _).mp c3)]
    refine rx_lconst (v := 0) d_Road_indexAt_8 (by decide) ?_
    refine rx_lstore d_Road_indexAt_9 (Nat.le_of_ble_eq_true rfl) ?_
    refine rx_iconst (v := 0) d_Road_indexAt_11 (by decide) ?_
    refine rx_istore d_Road_indexAt_12 (Nat.le_of_ble_eq_true rfl) ?_
    exact l_indexAt hp D t N 0 0 (by omega)
  · rw [if_pos (Decidable.not_not.mp (fun w => c3 ((lg_ge0 _ _).mpr w)))]
    refine rx_iconst (v := -1) d_Road_indexAt_6 (by decide) ?_
    refine rx_ireturn d_Road_indexAt_7 (by rfl) ?_
    exact ⟨rfl, rfl⟩
end RD
end
section
/-! the walk, as values; Road: insteadOf, isToComeAgain, leaveRepeatAtLastPass, jumpFrom, behind -/
def bi (b : Bool) : Int32 := if b = true then 1 else 0
theorem bi_0 {b : Bool} : bi b = 0 ↔ b = false := by cases b <;> decide
theorem bi_1 {b : Bool} : ¬ bi b = 0 ↔ b = true := by cases b <;> decide
def cn (s : gT) (r : Nat) : Nat := (gC s r).toNatClampNeg
def bt (Va : Nat → Int32) (e p : Nat) : Bool := decide (¬ Va (10 * e + 2) &&& (1 <<< ((nI p - 1) &&& 31)) = 0)
/-- passes, jumped, wentOver, way, taken -/
abbrev wT : Type := (Nat → Nat) × Bool × Bool × Int32 × Bool
def wdu (s : gT) (w : wT) (r : Nat) : Nat := if w.2.2.2.2 = true then w.1 r else cn s r
def lsg (n : Nat) (g : Nat → Option Nat) (r : Nat) : Nat := (lwf (fun e => decide (g e = some r)) 0 n).toNat
def wif (n : Nat) (Va : Nat → Int32) (g : Nat → Option Nat) (r du c : Nat) : Nat := match fix (fun e => decide (g e = some r) && bt Va e du) c (n - c) with
  | some e => e
  | none => lsg n g r
def win (n : Nat) (Va : Nat → Int32) (s : gT) (g : Nat → Option Nat) (w : wT) (c : Nat) : Nat := match g c with
  | none => c
  | some r => wif n Va g r (wdu s w r) c
def wag (s : gT) (w : wT) (b : Nat) : Bool := w.2.2.2.2 && (fix (fun r => decide (gF s r ≤ b ∧ b ≤ gL s r ∧ w.1 r < cn s r)) 0 s.1).isSome
def wlv (Va : Nat → Int32) (s : gT) (g : Nat → Option Nat) (w : wT) (b : Nat) : wT := match g b with
  | none => w
  | some r => if bt Va b (cn s r) = true then (up w.1 r 1, w.2) else w
def wco (n : Nat) (Va : Nat → Int32) : Nat := (lwf (hb Va 4) 0 n).toNat
def wta (Va : Nat → Int32) (b : Nat) : Nat := if (Va (10 * b + 7) - 1) - (Va (10 * b + 7) - 1) / 2 * 2 = 1 then (lwf (hb Va 3) 0 (b + 1)).toNat else 0
def wju (Va : Nat → Int32) (w : wT) (b : Nat) : wT := (fun _ => 1, true, w.2.2.1, jwy (Va (10 * b + 7)), decide (¬ Va (10 * b + 7) ≤ 6))
def wn2 (n : Nat) (Va : Nat → Int32) (w : wT) (b : Nat) (ag : Bool) : wT × Option Nat :=
  if ag = false ∧ w.2.1 = true ∧ w.2.2.2.1 = 1 ∧ hb Va 5 b = true then (w, none)
  else if ag = false ∧ w.2.1 = true ∧ w.2.2.2.1 = 2 ∧ w.2.2.1 = false ∧ hb Va 6 b = true then ((w.1, w.2.1, true, w.2.2.2.1, w.2.2.2.2), some (wco n Va))
  else if ag = false ∧ w.2.1 = false ∧ hb Va 7 b = true then (wju Va w b, some (wta Va b))
  else (w, if b + 1 < n then some (b + 1) else none)
def wnx (n : Nat) (Va : Nat → Int32) (s : gT) (w : wT) (b : Nat) (ag : Bool) : wT × Option Nat := match gO s b with
  | none => wn2 n Va w b ag
  | some r => if w.2.2.2.2 = true then (if w.1 r < cn s r then ((up w.1 r (w.1 r + 1), w.2), some (gF s r)) else wn2 n Va (up w.1 r 1, w.2) b ag) else wn2 n Va w b ag
theorem is_rp.fr {V : rx_V} {h h' : List va_E} {a n aA aE aG num : Nat} {fA fE fG : Nat → Option Nat} {ra : Nat → Nat} {R : Nat → Nat → Int32} {FP : Nat → Prop} (H : is_rp V h a n aA aE aG num fA fE fG ra R) (hf : rx_fr V h h' FP) (h1 : ¬ FP a) (h2 : ¬ FP aA) (h3 : ¬ FP aE) (h4 : ¬ FP aG) (h5 : ∀ r, r < n → ¬ FP (ra r)) : is_rp V h' a n aA aE aG num fA fE fG ra R := by
  obtain ⟨j1, j2, j3, j4, j5, j6, j7, j8, j9⟩ := H
  exact ⟨(hf.2 a h1).trans j1, (hf.2 aA h2).trans j2, (hf.2 aE h3).trans j3, (hf.2 aG h4).trans j4, j5, fun r hr => (hf.2 _ (h5 r hr)).trans (j6 r hr), j7, j8, j9⟩
/-- writing at a place with another kind of cell -/
theorem is_rp.wo {V : rx_V} {h : List va_E} {a n aA aE aG num q : Nat} {fA fE fG : Nat → Option Nat} {ra : Nat → Nat} {R : Nat → Nat → Int32} {e0 e : va_E} (H : is_rp V h a n aA aE aG num fA fE fG ra R) (he : rx_rd V h q = some e0) (h1 : ∀ fs, e0 ≠ .inr (3, fs)) (h2 : ∀ fs, e0 ≠ .inr (4, fs)) (h3 : ∀ c m f, e0 ≠ .inl (c, m, .inr (.inr (.inr (.inr f))))) : is_rp V (rx_wr V h q e) a n aA aE aG num fA fE fG ra R :=
  H.fr (FP := fun x => x = q) (rx_fr.wr he rfl) (rx_ne H.1 he (Ne.symm (h1 _))) (rx_ne H.2.1 he (Ne.symm (h3 _ _ _))) (rx_ne H.2.2.1 he (Ne.symm (h3 _ _ _))) (rx_ne H.2.2.2.1 he (Ne.symm (h3 _ _ _))) (fun r hr => rx_ne (H.cell hr) he (Ne.symm (h2 _)))
theorem is_rd.rc {V : rx_V} {h : List va_E} {a aO n N q : Nat} {jm wo wy tk : Int32} {f X : Nat → Int32} {e : va_E} (D : is_rd V h a aO n N jm wo wy tk f) (hc : rx_rd V h q = some (rcl X)) : is_rd V (rx_wr V h q e) a aO n N jm wo wy tk f :=
  ⟨(rx_rd_wn hc (rx_ne D.1 hc (fun z => by cases z))).trans D.1, (rx_rd_wn hc (rx_ne D.2.1 hc (fun z => by cases z))).trans D.2.1, D.2.2⟩
theorem is_rd.ob {V : rx_V} {h : List va_E} {a aO n N N' : Nat} {jm wo wy tk jm' wo' wy' tk' : Int32} {f : Nat → Int32} (D : is_rd V h a aO n N jm wo wy tk f) (hN : N' ≤ n * 12) : is_rd V (rx_wr V h a (.inr (5, [.ref aO, .int (nI N'), .int jm', .int wo', .int wy', .int tk']))) a aO n N' jm' wo' wy' tk' f :=
  ⟨rx_rd_wr D.1, (rx_rd_wn D.1 (rx_ne D.2.1 D.1 (fun z => by cases z))).trans D.2.1, hN, D.2.2.2⟩
theorem is_rd.fr {V : rx_V} {h h' : List va_E} {a aO n N : Nat} {jm wo wy tk : Int32} {f : Nat → Int32} {FP : Nat → Prop} (D : is_rd V h a aO n N jm wo wy tk f) (hf : rx_fr V h h' FP) (h1 : ¬ FP a) (h2 : ¬ FP aO) : is_rd V h' a aO n N jm wo wy tk f :=
  ⟨(hf.2 a h1).trans D.1, (hf.2 aO h2).trans D.2.1, D.2.2⟩
/-- the repeats and the walk's state stand in the cells -/
def is_wk (V : rx_V) (h : List va_E) (a n aA aE aG : Nat) (fA : Nat → Option Nat) (ra : Nat → Nat) (s : gT) (g : Nat → Option Nat) (ps : Nat → Nat) : Prop :=
  ∃ R, is_rp V h a n aA aE aG s.1 fA (fun x => (gO s x).map ra) (fun x => (g x).map ra) ra R ∧ roG s g R ∧ ∀ r, r < s.1 → R r 6 = nI (ps r)
/-- what is known of repeats without a fault -/
def gN (n : Nat) (Va : Nat → Int32) (s : gT) (g : Nat → Option Nat) : Prop := gI Va n s ∧ (∀ x r, g x = some r → r < s.1 ∧ x < n ∧ gF s r ≤ x) ∧ (∀ r, r < s.1 → gC s r = nI (cn s r) ∧ 2 ≤ cn s r ∧ cn s r ≤ 4)
theorem bt_t {Va : Nat → Int32} {e p : Nat} : bt Va e p = true ↔ ¬ Va (10 * e + 2) &&& (1 <<< ((nI p - 1) &&& 31)) = 0 := decide_eq_true_iff
theorem bt_f {Va : Nat → Int32} {e p : Nat} : bt Va e p = false ↔ Va (10 * e + 2) &&& (1 <<< ((nI p - 1) &&& 31)) = 0 := by
  unfold bt
  rw [decide_eq_false_iff_not, Decidable.not_not]
theorem lsg_eq {n r l : Nat} {g : Nat → Option Nat} (h1 : g l = some r) (h2 : l < n) (h3 : ∀ y, g y = some r → y ≤ l) : lsg n g r = l := by
  unfold lsg
  obtain e | ⟨j, e1, e2, e3, e4⟩ := lwf_ran (fun e => decide (g e = some r)) 0 n
  · exact absurd ((lwf_m1.mp e l (by omega) h2).symm.trans (decide_eq_true h1)) (by decide)
  · rw [e1]
    have j1 := h3 j (of_decide_eq_true e4)
    by_cases c : j = l
    · rw [c]; rfl
    · exfalso
      have key : ∀ m, lwf (fun e => decide (g e = some r)) 0 m = (j : Int) → j < m → ∀ y, j < y → y < m → decide (g y = some r) = false := by
        intro m
        induction m with
        | zero => intro _ h; omega
        | succ m ih =>
          intro hm hj y hy1 hy2
          cases hp : decide (g m = some r) with
          | true => rw [lwf_yes (by omega) hp] at hm; omega
          | false =>
            rw [lwf_no (by omega) hp] at hm
            by_cases e : y = m
            · rw [e]; exact hp
            · exact ih hm (by omega) y hy1 (by omega)
      have := key n e1 e3 l (by omega) h2
      rw [decide_eq_true h1] at this; cases this
section W1
variable {V : rx_V} {d kc ks a aO aR n N aA aE aG aP al at_ av b c : Nat} {h : List va_E} {fA : Nat → Option Nat} {ra : Nat → Nat} {R : Nat → Nat → Int32} {Le Te Va f : Nat → Int32} {s : gT} {g : Nat → Option Nat} {jm wo wy tk : Int32} {w : wT}
theorem l_insteadOf (hp : is_pg V h aP n al at_ av Le Te Va) (H : is_rp V h aR n aA aE aG s.1 fA (fun x => (gO s x).map ra) (fun x => (g x).map ra) ra R) (G : gN n Va s g) {r l du : Nat} (hrn : r < s.1) (hl : R r 4 = nI l) (hln : l < n) (hgl : g l = some r) (hmx : ∀ y, g y = some r → y ≤ l) : ∀ (m e en : Nat), e + m = l + 1 → (e ≤ l ∨ en = l) → rx_W V (d + 2) kc ks m_Road_insteadOf 42 [some (.ref a), some (.int (nI c)), some (.ref aP), some (.ref aR), some (.ref (ra r)), some (.int (nI du)), some (.int (nI en)), some (.int (nI e))] [] h (rx_X (.inl (some (.int (nI (wif n Va g r du e))))) h) := by
  have hn := H.n20
  have hrN : r < n := Nat.lt_of_lt_of_le hrn G.1.1
  intro m
  induction m with
  | zero =>
    intro e en hi he
    have e1 : e = l + 1 := by omega
    subst e1
    have e2 : en = l := by omega
    subst e2
    have e3 : wif n Va g r du (en + 1) = en := by
      unfold wif
      cases z : fix (fun e => decide (g e = some r) && bt Va e du) (en + 1) (n - (en + 1)) with
      | none => exact lsg_eq hgl hln hmx
      | some x =>
        obtain ⟨j1, -, j3, -⟩ := fix_s z
        rw [Bool.and_eq_true] at j3
        have := hmx x (of_decide_eq_true j3.1)
        omega
    rw [e3]
    refine rx_iload d_Road_insteadOf_42 (by rfl) ?_
    refine rx_aload_r d_Road_insteadOf_44 (by rfl) ?_
    refine rx_getfield d_Road_insteadOf_46 fl_Road_65 (H.cell hrN) (by rfl) ?_
    rw [hl]
    refine rx_icmp_gt (tgt := 87) d_Road_insteadOf_49 (by rfl) (fun c49 => ?_) (fun z => absurd (nI_lt (by omega) (by omega)) z)
    refine rx_iload d_Road_insteadOf_87 (by rfl) ?_
    refine rx_ireturn d_Road_insteadOf_89 (by rfl) ?_
    exact ⟨rfl, rfl⟩
  | succ m ih =>
    intro e en hi he
    have hin : e < n := by omega
    have hv : pgv n Va (nI e) 2 = Va (10 * e + 2) := pgv_k hn hin (by omega) rfl
    have hm : n - e = (n - (e + 1)) + 1 := by omega
    refine rx_iload d_Road_insteadOf_42 (by rfl) ?_
    refine rx_aload_r d_Road_insteadOf_44 (by rfl) ?_
    refine rx_getfield d_Road_insteadOf_46 fl_Road_65 (H.cell hrN) (by rfl) ?_
    rw [hl]
    refine rx_icmp_gt (tgt := 87) d_Road_insteadOf_49 (by rfl) (fun z => absurd z (nI_nlt (by omega) (by omega))) (fun c49 => ?_)
    refine rx_aload_nr d_Road_insteadOf_52 (by rfl) ?_
    refine rx_iload d_Road_insteadOf_53 (by rfl) ?_
    refine rx_cV d_Road_insteadOf_55 (by rfl) ml_Road_53 im_Repeats_ofEnding se_Repeats_ofEnding (by exact c9_Repeats_ofEnding) H.1 (by rfl) (by exact Nat.le_of_ble_eq_true rfl) (c_ofEnding H (nI e)) ?_
    rw [ogt_nn (by omega) hin]
    refine rx_aload_r d_Road_insteadOf_58 (by rfl) ?_
    refine rx_acmp_ne_r (tgt := 81) d_Road_insteadOf_60 (by rfl) (fun c60 => ?_) (fun c60 => ?_)
    · have w1 : ¬ g e = some r := fun z => c60 ((H.inj hrN (fun x e => Nat.lt_of_lt_of_le (G.2.1 _ x e).1 G.1.1)).mpr z)
      have hf : (decide (g e = some r) && bt Va e du) = false := by rw [decide_eq_false w1]; rfl
      have hne : e ≠ l := fun z => w1 (z ▸ hgl)
      have e4 : wif n Va g r du e = wif n Va g r du (e + 1) := by
        unfold wif
        rw [hm, fix_no hf]
      rw [e4]
      refine rx_iinc (v := nI (e + 1)) d_Road_insteadOf_81 (by rfl) (i_inc e) ?_
      refine rx_goto (tgt := 42) d_Road_insteadOf_84 (by rfl) ?_
      exact ih (e + 1) _ (by omega) (by omega)
    · have w1 := (H.inj hrN (fun x e => Nat.lt_of_lt_of_le (G.2.1 _ x e).1 G.1.1)).mp c60
      refine rx_iload d_Road_insteadOf_63 (by rfl) ?_
      refine rx_istore d_Road_insteadOf_65 (Nat.le_of_ble_eq_true rfl) ?_
      refine rx_aload_nr d_Road_insteadOf_67 (by rfl) ?_
      refine rx_iload d_Road_insteadOf_68 (by rfl) ?_
      refine rx_iload d_Road_insteadOf_70 (by rfl) ?_
      refine rx_cV d_Road_insteadOf_72 (by rfl) ml_Road_68 im_Page_hasPass se_Page_hasPass (by exact c9_Page_hasPass) hp.1 (by rfl) (by exact Nat.le_of_ble_eq_true rfl) (c_hasPass hp (nI e) (nI du)) ?_
      rw [hv]
      refine rx_if_eq (tgt := 81) d_Road_insteadOf_75 (by rfl) (fun c75 => ?_) (fun c75 => ?_)
      · have hf : (decide (g e = some r) && bt Va e du) = false := by rw [bt_f.mpr (ite01.mp c75), Bool.and_false]
        have e4 : wif n Va g r du e = wif n Va g r du (e + 1) := by
          unfold wif
          rw [hm, fix_no hf]
        rw [e4]
        refine rx_iinc (v := nI (e + 1)) d_Road_insteadOf_81 (by rfl) (i_inc e) ?_
        refine rx_goto (tgt := 42) d_Road_insteadOf_84 (by rfl) ?_
        exact ih (e + 1) _ (by omega) (by omega)
      · have ht : (decide (g e = some r) && bt Va e du) = true := by rw [bt_t.mpr (fun z => c75 (ite01.mpr z)), decide_eq_true w1]; rfl
        refine rx_iload d_Road_insteadOf_78 (by rfl) ?_
        refine rx_ireturn d_Road_insteadOf_80 (by rfl) ?_
        exact ⟨by unfold wif; rw [hm, fix_yes ht], rfl⟩
theorem roG.last {s : gT} {g : Nat → Option Nat} {R : Nat → Nat → Int32} (hr : roG s g R) {r x : Nat} (hrn : r < s.1) (hx : g x = some r) : ∃ l, R r 4 = nI l ∧ l < 20 ∧ g l = some r ∧ ∀ y, g y = some r → y ≤ l := by
  obtain ⟨-, z⟩ | z := (hr r hrn).2.2.2.2.2
  · exact absurd hx (z x)
  · exact z
theorem c_insteadOf (hp : is_pg V h aP n al at_ av Le Te Va) (H : is_rp V h aR n aA aE aG s.1 fA (fun x => (gO s x).map ra) (fun x => (g x).map ra) ra R) (hr : roG s g R) (hps : ∀ r, r < s.1 → R r 6 = nI (w.1 r) ∧ w.1 r ≤ 4) (G : gN n Va s g) (D : is_rd V h a aO n N (bi w.2.1) (bi w.2.2.1) w.2.2.2.1 (bi w.2.2.2.2) f) (hcn : c < n) : rx_C V (d + 2) kc ks m_Road_insteadOf [.ref a, .int (nI c), .ref aP, .ref aR] h (rx_X (.inl (some (.int (nI (win n Va s g w c))))) h) := by
  have hn := H.n20
  unfold win
  cases hgc : g c with
  | none =>
    show rx_C V (d + 2) kc ks m_Road_insteadOf [.ref a, .int (nI c), .ref aP, .ref aR] h (rx_X (.inl (some (.int (nI c)))) h)
    refine rx_aload_nr d_Road_insteadOf_0 (by rfl) ?_
    refine rx_iload_n d_Road_insteadOf_1 (by rfl) ?_
    refine rx_cV d_Road_insteadOf_2 (by rfl) ml_Road_53 im_Repeats_ofEnding se_Repeats_ofEnding (by exact c9_Repeats_ofEnding) H.1 (by rfl) (by exact Nat.le_of_ble_eq_true rfl) (c_ofEnding H (nI c)) ?_
    rw [ogt_nn (by omega) hcn, hgc]
    refine rx_astore_N d_Road_insteadOf_5 (Nat.le_of_ble_eq_true rfl) ?_
    refine rx_aload_N d_Road_insteadOf_7 (by rfl) ?_
    refine rx_ifnonnull_N (tgt := 14) d_Road_insteadOf_9 (by rfl) ?_
    refine rx_iload_n d_Road_insteadOf_12 (by rfl) ?_
    refine rx_ireturn d_Road_insteadOf_13 (by rfl) ?_
    exact ⟨rfl, rfl⟩
  | some r =>
    show rx_C V (d + 2) kc ks m_Road_insteadOf [.ref a, .int (nI c), .ref aP, .ref aR] h (rx_X (.inl (some (.int (nI (wif n Va g r (wdu s w r) c))))) h)
    obtain ⟨hrn, -, -⟩ := G.2.1 c r hgc
    have hrN : r < n := Nat.lt_of_lt_of_le hrn G.1.1
    obtain ⟨l, l1, l2, l3, l4⟩ := hr.last hrn hgc
    have hcl := l4 c hgc
    have hln := (G.2.1 l r l3).2.1
    refine rx_aload_nr d_Road_insteadOf_0 (by rfl) ?_
    refine rx_iload_n d_Road_insteadOf_1 (by rfl) ?_
    refine rx_cV d_Road_insteadOf_2 (by rfl) ml_Road_53 im_Repeats_ofEnding se_Repeats_ofEnding (by exact c9_Repeats_ofEnding) H.1 (by rfl) (by exact Nat.le_of_ble_eq_true rfl) (c_ofEnding H (nI c)) ?_
    rw [ogt_nn (by omega) hcn, hgc]
    show rx_W V (d + 2) kc ks m_Road_insteadOf 5 _ [.ref (ra r)] h _
    refine rx_astore_r d_Road_insteadOf_5 (Nat.le_of_ble_eq_true rfl) ?_
    refine rx_aload_r d_Road_insteadOf_7 (by rfl) ?_
    refine rx_ifnonnull_r (tgt := 14) d_Road_insteadOf_9 (by rfl) ?_
    refine rx_aload_nr d_Road_insteadOf_14 (by rfl) ?_
    refine rx_getfield d_Road_insteadOf_15 fl_Road_29 D.1 (by rfl) ?_
    refine rx_if_eq (tgt := 29) d_Road_insteadOf_18 (by rfl) (fun c18 => ?_) (fun c18 => ?_)
    · have e9 : R r 5 = nI (wdu s w r) := by unfold wdu; rw [bi_0.mp c18, (hr r hrn).2.2.2.1, (G.2.2 r hrn).1]; rfl
      refine rx_aload_r d_Road_insteadOf_29 (by rfl) ?_
      refine rx_getfield d_Road_insteadOf_31 fl_Road_62 (H.cell hrN) (by rfl) ?_
      rw [e9]
      refine rx_istore d_Road_insteadOf_34 (Nat.le_of_ble_eq_true rfl) ?_
      refine rx_iload_n d_Road_insteadOf_36 (by rfl) ?_
      refine rx_istore d_Road_insteadOf_37 (Nat.le_of_ble_eq_true rfl) ?_
      refine rx_iload_n d_Road_insteadOf_39 (by rfl) ?_
      refine rx_istore d_Road_insteadOf_40 (Nat.le_of_ble_eq_true rfl) ?_
      exact l_insteadOf hp H G hrn l1 hln l3 l4 (l + 1 - c) c c (by omega) (by omega)
    · have e9 : R r 6 = nI (wdu s w r) := by unfold wdu; rw [bi_1.mp c18, (hps r hrn).1]; rfl
      refine rx_aload_r d_Road_insteadOf_21 (by rfl) ?_
      refine rx_getfield d_Road_insteadOf_23 fl_Road_57 (H.cell hrN) (by rfl) ?_
      rw [e9]
      refine rx_goto (tgt := 34) d_Road_insteadOf_26 (by rfl) ?_
      refine rx_istore d_Road_insteadOf_34 (Nat.le_of_ble_eq_true rfl) ?_
      refine rx_iload_n d_Road_insteadOf_36 (by rfl) ?_
      refine rx_istore d_Road_insteadOf_37 (Nat.le_of_ble_eq_true rfl) ?_
      refine rx_iload_n d_Road_insteadOf_39 (by rfl) ?_
      refine rx_istore d_Road_insteadOf_40 (Nat.le_of_ble_eq_true rfl) ?_
      exact l_insteadOf hp H G hrn l1 hln l3 l4 (l + 1 - c) c c (by omega) (by omega)
theorem c_again (hp : is_pg V h aP n al at_ av Le Te Va) (H : is_rp V h aR n aA aE aG s.1 fA (fun x => (gO s x).map ra) (fun x => (g x).map ra) ra R) (hr : roG s g R) (hps : ∀ r, r < s.1 → R r 6 = nI (w.1 r) ∧ w.1 r ≤ 4) (G : gN n Va s g) (D : is_rd V h a aO n N (bi w.2.1) (bi w.2.2.1) w.2.2.2.1 (bi w.2.2.2.2) f) (hbn : b < n) : rx_C V (d + 2) kc ks m_Road_isToComeAgain [.ref a, .int (nI b), .ref aR] h (rx_X (.inl (some (.int (bi (wag s w b))))) h) := by
  have hn := H.n20
  have I := G.1
  have lo : ∀ r, r < s.1 → gL s r < n := fun r z => Nat.lt_of_lt_of_le (I.2.2.2.2.1 r z).2.2.1 I.2.1
  have q1 : ∀ r, r < s.1 → ((¬ (nI b < R r 0 ∨ R r 2 < nI b)) ↔ gF s r ≤ b ∧ b ≤ gL s r) := by
    intro r h1
    have j := I.2.2.2.2.1 r h1
    have := lo r h1
    rw [(hr r h1).1, (hr r h1).2.2.1, nI_ltI (by omega) (by omega), nI_ltI (by omega) (by omega)]
    omega
  cases hfx : fix (fun r => decide (¬ (nI b < R r 0 ∨ R r 2 < nI b))) 0 s.1 with
  | none =>
    have z : wag s w b = false := by
      unfold wag
      cases e : fix (fun r => decide (gF s r ≤ b ∧ b ≤ gL s r ∧ w.1 r < cn s r)) 0 s.1 with
      | none => exact Bool.and_false _
      | some r =>
        obtain ⟨-, j2, j3, -⟩ := fix_s e
        have j3 := of_decide_eq_true j3
        have := of_decide_eq_false (fix_n hfx r (Nat.zero_le _) (by omega))
        exact absurd ((q1 r (by omega)).mpr ⟨j3.1, j3.2.1⟩) this
    rw [z]
    refine rx_aload_nr d_Road_isToComeAgain_0 (by rfl) ?_
    refine rx_iload_n d_Road_isToComeAgain_1 (by rfl) ?_
    refine rx_cV d_Road_isToComeAgain_2 (by rfl) ml_Road_74 im_Repeats_around se_Repeats_around (by exact c9_Repeats_around) H.1 (by rfl) (by exact Nat.le_of_ble_eq_true rfl) (c_around H (nI b)) ?_
    rw [hfx]
    refine rx_astore_nN d_Road_isToComeAgain_5 (Nat.le_of_ble_eq_true rfl) ?_
    refine rx_aload_nr d_Road_isToComeAgain_6 (by rfl) ?_
    refine rx_getfield d_Road_isToComeAgain_7 fl_Road_29 D.1 (by rfl) ?_
    refine rx_if_eq (tgt := 32) d_Road_isToComeAgain_10 (by rfl) (fun c10 => ?_) (fun c10 => ?_)
    · refine rx_iconst (v := 0) d_Road_isToComeAgain_32 (by decide) ?_
      refine rx_zreturn d_Road_isToComeAgain_33 (by rfl) (by rfl) ?_
      exact ⟨rfl, rfl⟩
    · refine rx_aload_nN d_Road_isToComeAgain_13 (by rfl) ?_
      refine rx_ifnull_N (tgt := 32) d_Road_isToComeAgain_14 (by rfl) ?_
      refine rx_iconst (v := 0) d_Road_isToComeAgain_32 (by decide) ?_
      refine rx_zreturn d_Road_isToComeAgain_33 (by rfl) (by rfl) ?_
      exact ⟨rfl, rfl⟩
  | some r =>
    obtain ⟨-, hrn, z, -⟩ := fix_s hfx
    rw [Nat.zero_add] at hrn
    have hrN : r < n := Nat.lt_of_lt_of_le hrn G.1.1
    have z := (q1 r hrn).mp (of_decide_eq_true z)
    have hcm := G.2.2 r hrn
    refine rx_aload_nr d_Road_isToComeAgain_0 (by rfl) ?_
    refine rx_iload_n d_Road_isToComeAgain_1 (by rfl) ?_
    refine rx_cV d_Road_isToComeAgain_2 (by rfl) ml_Road_74 im_Repeats_around se_Repeats_around (by exact c9_Repeats_around) H.1 (by rfl) (by exact Nat.le_of_ble_eq_true rfl) (c_around H (nI b)) ?_
    rw [hfx]
    show rx_W V (d + 2) kc ks m_Road_isToComeAgain 5 _ [.ref (ra r)] h _
    refine rx_astore_nr d_Road_isToComeAgain_5 (Nat.le_of_ble_eq_true rfl) ?_
    refine rx_aload_nr d_Road_isToComeAgain_6 (by rfl) ?_
    refine rx_getfield d_Road_isToComeAgain_7 fl_Road_29 D.1 (by rfl) ?_
    refine rx_if_eq (tgt := 32) d_Road_isToComeAgain_10 (by rfl) (fun c10 => ?_) (fun c10 => ?_)
    · have y : wag s w b = false := by unfold wag; rw [bi_0.mp c10]; rfl
      refine rx_iconst (v := 0) d_Road_isToComeAgain_32 (by decide) ?_
      refine rx_zreturn d_Road_isToComeAgain_33 (by rfl) (by rfl) ?_
      exact ⟨by rw [y]; rfl, rfl⟩
    · refine rx_aload_nr d_Road_isToComeAgain_13 (by rfl) ?_
      refine rx_ifnull_r (tgt := 32) d_Road_isToComeAgain_14 (by rfl) ?_
      refine rx_aload_nr d_Road_isToComeAgain_17 (by rfl) ?_
      refine rx_getfield d_Road_isToComeAgain_18 fl_Road_57 (H.cell hrN) (by rfl) ?_
      rw [(hps r hrn).1]
      refine rx_aload_nr d_Road_isToComeAgain_21 (by rfl) ?_
      refine rx_getfield d_Road_isToComeAgain_22 fl_Road_62 (H.cell hrN) (by rfl) ?_
      rw [(hr r hrn).2.2.2.1, hcm.1]
      refine rx_icmp_ge (tgt := 32) d_Road_isToComeAgain_25 (by rfl) (fun c25 => ?_) (fun c25 => ?_)
      · have y : wag s w b = false := by
          unfold wag
          cases e : fix (fun r => decide (gF s r ≤ b ∧ b ≤ gL s r ∧ w.1 r < cn s r)) 0 s.1 with
          | none => exact Bool.and_false _
          | some r1 =>
            obtain ⟨-, j2, j3, -⟩ := fix_s e
            have j3 := of_decide_eq_true j3
            have e2 := I.dis (x := b) (show r1 < s.1 by omega) hrn j3.1 j3.2.1 z.1 z.2
            subst e2
            exact absurd c25 (nI_ge j3.2.2 (by omega))
        refine rx_iconst (v := 0) d_Road_isToComeAgain_32 (by decide) ?_
        refine rx_zreturn d_Road_isToComeAgain_33 (by rfl) (by rfl) ?_
        exact ⟨by rw [y]; rfl, rfl⟩
      · have y : wag s w b = true := by
          unfold wag
          rw [bi_1.mp c10, Bool.true_and, fix_iff]
          refine ⟨r, Nat.zero_le _, by omega, decide_eq_true ⟨z.1, z.2, ?_⟩⟩
          by_cases u : w.1 r < cn s r
          · exact u
          · exact absurd (nI_le (by omega) (by have := (hps r hrn).2; omega)) c25
        refine rx_iconst (v := 1) d_Road_isToComeAgain_28 (by decide) ?_
        refine rx_goto (tgt := 33) d_Road_isToComeAgain_29 (by rfl) ?_
        refine rx_zreturn d_Road_isToComeAgain_33 (by rfl) (by rfl) ?_
        exact ⟨by rw [y]; rfl, rfl⟩
theorem roG.p6 {s : gT} {g : Nat → Option Nat} {R : Nat → Nat → Int32} (hr : roG s g R) {r : Nat} {v : Int32} : roG s g (rup R r 6 v) := by
  intro r' h'
  by_cases e : r' = r
  · subst e
    rw [rup_k (by omega), rup_k (by omega), rup_k (by omega), rup_k (by omega), rup_k (by omega), rup_k (by omega)]
    exact hr r' h'
  · rw [rup_o e]
    exact hr r' h'
theorem hps6 {R : Nat → Nat → Int32} {p : Nat → Nat} {m r q : Nat} (hps : ∀ r, r < m → R r 6 = nI (p r) ∧ p r ≤ 4) (hq : q ≤ 4) : ∀ r', r' < m → rup R r 6 (nI q) r' 6 = nI (up p r q r') ∧ up p r q r' ≤ 4 := by
  intro r' h'
  by_cases e : r' = r
  · subst e
    rw [rup_s, up_s]
    exact ⟨rfl, hq⟩
  · rw [rup_o e, up_o e]
    exact hps r' h'
theorem c_leave (hp : is_pg V h aP n al at_ av Le Te Va) (H : is_rp V h aR n aA aE aG s.1 fA (fun x => (gO s x).map ra) (fun x => (g x).map ra) ra R) (hr : roG s g R) (hps : ∀ r, r < s.1 → R r 6 = nI (w.1 r) ∧ w.1 r ≤ 4) (G : gN n Va s g) (hbn : b < n) : rx_C V (d + 2) kc ks m_Road_leaveRepeatAtLastPass [.int (nI b), .ref aP, .ref aR] h (fun r9 h' => r9 = .inl none ∧ ∃ R', is_rp V h' aR n aA aE aG s.1 fA (fun x => (gO s x).map ra) (fun x => (g x).map ra) ra R' ∧ roG s g R' ∧ (∀ r, r < s.1 → R' r 6 = nI ((wlv Va s g w b).1 r) ∧ (wlv Va s g w b).1 r ≤ 4) ∧ rx_fr V h h' (fp_ra n ra)) := by
  have hn := H.n20
  have hv : pgv n Va (nI b) 2 = Va (10 * b + 2) := pgv_k hn hbn (by omega) rfl
  cases hgb : g b with
  | none =>
    have e9 : wlv Va s g w b = w := by unfold wlv; rw [hgb]
    rw [e9]
    refine rx_aload_nr d_Road_leaveRepeatAtLastPass_0 (by rfl) ?_
    refine rx_iload_n d_Road_leaveRepeatAtLastPass_1 (by rfl) ?_
    refine rx_cV d_Road_leaveRepeatAtLastPass_2 (by rfl) ml_Road_53 im_Repeats_ofEnding se_Repeats_ofEnding (by exact c9_Repeats_ofEnding) H.1 (by rfl) (by exact Nat.le_of_ble_eq_true rfl) (c_ofEnding H (nI b)) ?_
    rw [ogt_nn (by omega) hbn, hgb]
    refine rx_astore_nN d_Road_leaveRepeatAtLastPass_5 (Nat.le_of_ble_eq_true rfl) ?_
    refine rx_aload_nN d_Road_leaveRepeatAtLastPass_6 (by rfl) ?_
    refine rx_ifnull_N (tgt := 27) d_Road_leaveRepeatAtLastPass_7 (by rfl) ?_
    refine rx_vreturn d_Road_leaveRepeatAtLastPass_27 (by rfl) ?_
    exact ⟨rfl, R, H, hr, hps, rx_fr.rf⟩
  | some r =>
    obtain ⟨hrn, -, -⟩ := G.2.1 b r hgb
    have hrN : r < n := Nat.lt_of_lt_of_le hrn G.1.1
    refine rx_aload_nr d_Road_leaveRepeatAtLastPass_0 (by rfl) ?_
    refine rx_iload_n d_Road_leaveRepeatAtLastPass_1 (by rfl) ?_
    refine rx_cV d_Road_leaveRepeatAtLastPass_2 (by rfl) ml_Road_53 im_Repeats_ofEnding se_Repeats_ofEnding (by exact c9_Repeats_ofEnding) H.1 (by rfl) (by exact Nat.le_of_ble_eq_true rfl) (c_ofEnding H (nI b)) ?_
    rw [ogt_nn (by omega) hbn, hgb]
    show rx_W V (d + 2) kc ks m_Road_leaveRepeatAtLastPass 5 _ [.ref (ra r)] h _
    refine rx_astore_nr d_Road_leaveRepeatAtLastPass_5 (Nat.le_of_ble_eq_true rfl) ?_
    refine rx_aload_nr d_Road_leaveRepeatAtLastPass_6 (by rfl) ?_
    refine rx_ifnull_r (tgt := 27) d_Road_leaveRepeatAtLastPass_7 (by rfl) ?_
    refine rx_aload_nr d_Road_leaveRepeatAtLastPass_10 (by rfl) ?_
    refine rx_iload_n d_Road_leaveRepeatAtLastPass_11 (by rfl) ?_
    refine rx_aload_nr d_Road_leaveRepeatAtLastPass_12 (by rfl) ?_
    refine rx_getfield d_Road_leaveRepeatAtLastPass_13 fl_Road_62 (H.cell hrN) (by rfl) ?_
    rw [(hr r hrn).2.2.2.1, (G.2.2 r hrn).1]
    refine rx_cV d_Road_leaveRepeatAtLastPass_16 (by rfl) ml_Road_68 im_Page_hasPass se_Page_hasPass (by exact c9_Page_hasPass) hp.1 (by rfl) (by exact Nat.le_of_ble_eq_true rfl) (c_hasPass hp (nI b) (nI (cn s r))) ?_
    rw [hv]
    refine rx_if_eq (tgt := 27) d_Road_leaveRepeatAtLastPass_19 (by rfl) (fun c19 => ?_) (fun c19 => ?_)
    · have e9 : wlv Va s g w b = w := by unfold wlv; rw [hgb]; exact if_neg (by rw [bt_f.mpr (ite01.mp c19)]; decide)
      refine rx_vreturn d_Road_leaveRepeatAtLastPass_27 (by rfl) ?_
      rw [e9]
      first
      | exact ⟨rfl, R, H, hr, hps, rx_fr.rf⟩
      | exact ⟨rfl, _, H.set1 (k := 6) (v := nI 1) hrN, hr.p6, hps6 hps (by omega), rx_fr.wr (H.cell hrN) ⟨r, hrN, rfl⟩⟩
    · have e9 : wlv Va s g w b = (up w.1 r 1, w.2) := by unfold wlv; rw [hgb]; exact if_pos (bt_t.mpr (fun z => c19 (ite01.mpr z)))
      refine rx_aload_nr d_Road_leaveRepeatAtLastPass_22 (by rfl) ?_
      refine rx_iconst (v := 1) d_Road_leaveRepeatAtLastPass_23 (by decide) ?_
      refine rx_putfield d_Road_leaveRepeatAtLastPass_24 (fw_Road_57 rfl) (H.cell hrN) (Nat.le_of_ble_eq_true rfl) (by rfl) (by rfl) ?_
      refine rx_vreturn d_Road_leaveRepeatAtLastPass_27 (by rfl) ?_
      rw [e9]
      first
      | exact ⟨rfl, R, H, hr, hps, rx_fr.rf⟩
      | exact ⟨rfl, _, H.set1 (k := 6) (v := nI 1) hrN, hr.p6, hps6 hps (by omega), rx_fr.wr (H.cell hrN) ⟨r, hrN, rfl⟩⟩
theorem hb_ex {k : Nat} {m : Nat} (h : ∃ y, y < m ∧ hb Va k y = true) : ∃ j : Nat, lwf (hb Va k) 0 m = j ∧ j < m ∧ hb Va k j = true := by
  obtain e | ⟨j, e1, e2, e3, e4⟩ := lwf_ran (hb Va k) 0 m
  · obtain ⟨y, y1, y2⟩ := h
    exact absurd ((lwf_m1.mp e y (by omega) y1).symm.trans y2) (by decide)
  · exact ⟨j, e1, e3, e4⟩
theorem wta_eq (hn : n ≤ 20) (hbn : b < n) (h6 : ¬ jta n Va b = -1) : jta n Va b = nI (wta Va b) ∧ wta Va b ≤ b := by
  unfold jta at h6 ⊢
  unfold wta
  by_cases c : (Va (10 * b + 7) - 1) - (Va (10 * b + 7) - 1) / 2 * 2 = 1
  · rw [if_pos c] at h6 ⊢
    rw [if_pos c]
    have e := lwi_n (n := n) (k := 3) (f := 0) (b := b) (Va := Va) hn (by omega) hbn
    have m1 := lwi_m1 (n := n) (k := 3) (f := 0) (b := b) (Va := Va) hn (by omega) hbn
    have z : (0 : Int32) = nI 0 := rfl
    rw [z] at h6 ⊢
    rw [e] at h6 ⊢
    obtain e2 | ⟨j, e1, e2, e3, e4⟩ := lwf_ran (hb Va 3) ((0 : Nat) : Int) (b + 1)
    · exact absurd (e.symm.trans (m1.mpr e2)) h6
    · rw [e1, i_ofI]
      have e5 : lwf (hb Va 3) 0 (b + 1) = (j : Int) := e1
      rw [e5]
      exact ⟨rfl, by omega⟩
  · rw [if_neg c, if_neg c]
    exact ⟨rfl, Nat.zero_le _⟩
theorem c_jumpFrom (hp : is_pg V h aP n al at_ av Le Te Va) (H : is_rp V h aR n aA aE aG s.1 fA (fun x => (gO s x).map ra) (fun x => (g x).map ra) ra R) (hr : roG s g R) (hps : ∀ r, r < s.1 → R r 6 = nI (w.1 r) ∧ w.1 r ≤ 4) (G : gN n Va s g) (D : is_rd V h a aO n N (bi w.2.1) (bi w.2.2.1) w.2.2.2.1 (bi w.2.2.2.2) f) (hbn : b < n) (h6 : ¬ jta n Va b = -1) : rx_C V (d + 3) kc ks m_Road_jumpFrom [.ref a, .int (nI b), .ref aP, .ref aR] h (fun r9 h' => r9 = .inl (some (.int (nI (wta Va b)))) ∧ ∃ R', is_rp V h' aR n aA aE aG s.1 fA (fun x => (gO s x).map ra) (fun x => (g x).map ra) ra R' ∧ roG s g R' ∧ (∀ r, r < s.1 → R' r 6 = nI ((wju Va w b).1 r) ∧ (wju Va w b).1 r ≤ 4) ∧ is_rd V h' a aO n N (bi (wju Va w b).2.1) (bi (wju Va w b).2.2.1) (wju Va w b).2.2.2.1 (bi (wju Va w b).2.2.2.2) f ∧ rx_fr V h h' (fun q => q = a ∨ fp_ra n ra q)) := by
  have hn := H.n20
  have hv : pgv n Va (nI b) 7 = Va (10 * b + 7) := pgv_k hn hbn (by omega) rfl
  have hN : N ≤ n * 12 := D.2.2.1
  have hbz : (if Va (10 * b + 7) ≤ 6 then (0 : Int32) else 1) = bi (decide (¬ Va (10 * b + 7) ≤ 6)) := by
    by_cases z : Va (10 * b + 7) ≤ 6
    · rw [if_pos z, decide_eq_false (fun y => y z)]; rfl
    · rw [if_neg z, decide_eq_true z]; rfl
  have hfz : ∀ x : Bool, fits .boolean (.int (bi x)) = true := by intro x; cases x <;> rfl
  have hnz : ∀ x : Bool, narrow .boolean (.int (bi x)) = .int (bi x) := by intro x; cases x <;> rfl
  refine rx_aload_nr d_Road_jumpFrom_0 (by rfl) ?_
  refine rx_iload_n d_Road_jumpFrom_1 (by rfl) ?_
  refine rx_bipush (v := 7) d_Road_jumpFrom_2 (by decide) ?_
  refine rx_cV d_Road_jumpFrom_4 (by rfl) ml_Road_102 im_Page_value se_Page_value (by exact c9_Page_value) hp.1 (by rfl) (by exact Nat.le_of_ble_eq_true rfl) (c_value hp (nI b) 7) ?_
  rw [hv]
  refine rx_istore d_Road_jumpFrom_7 (Nat.le_of_ble_eq_true rfl) ?_
  refine rx_aload_nr d_Road_jumpFrom_9 (by rfl) ?_
  refine rx_iconst (v := 1) d_Road_jumpFrom_10 (by decide) ?_
  refine rx_putfield d_Road_jumpFrom_11 (fw_Road_19 rfl) D.1 (Nat.le_of_ble_eq_true rfl) (by rfl) (by rfl) ?_
  have D1 := D.ob (N' := N) (jm' := 1) (wo' := bi w.2.2.1) (wy' := w.2.2.2.1) (tk' := bi w.2.2.2.2) hN
  have f1 : rx_fr V h _ (fun q => q = a ∨ fp_ra n ra q) := rx_fr.wr (e := .inr (5, [.ref aO, .int (nI N), .int 1, .int (bi w.2.2.1), .int w.2.2.2.1, .int (bi w.2.2.2.2)])) D.1 (Or.inl rfl)
  refine rx_aload_nr d_Road_jumpFrom_14 (by rfl) ?_
  refine rx_iload d_Road_jumpFrom_15 (by rfl) ?_
  refine rx_cS d_Road_jumpFrom_17 ml_Road_106 st_Jump_way (by exact c9_Jump_way) (by rfl) (by exact Nat.le_of_ble_eq_true rfl) (c_way _) ?_
  rw [show (Va (10 * b + 7) - 1) / 2 - (Va (10 * b + 7) - 1) / 2 / 3 * 3 = jwy (Va (10 * b + 7)) from rfl]
  refine rx_putfield d_Road_jumpFrom_20 (fw_Road_26 rfl) D1.1 (Nat.le_of_ble_eq_true rfl) (by rfl) (by rfl) ?_
  rw [rx_wr_wr]
  have D2 := D.ob (N' := N) (jm' := 1) (wo' := bi w.2.2.1) (wy' := jwy (Va (10 * b + 7))) (tk' := bi w.2.2.2.2) hN
  refine rx_aload_nr d_Road_jumpFrom_23 (by rfl) ?_
  refine rx_iload d_Road_jumpFrom_24 (by rfl) ?_
  refine rx_cS d_Road_jumpFrom_26 ml_Road_109 st_Jump_hasRepeats (by exact c9_Jump_hasRepeats) (by rfl) (by exact Nat.le_of_ble_eq_true rfl) (c_hasRepeats _) ?_
  rw [hbz]
  refine rx_putfield d_Road_jumpFrom_29 (fw_Road_29 rfl) D2.1 (Nat.le_of_ble_eq_true rfl) (hnz _) (hfz _) ?_
  rw [rx_wr_wr]
  have D3 := D.ob (N' := N) (jm' := 1) (wo' := bi w.2.2.1) (wy' := jwy (Va (10 * b + 7))) (tk' := bi (decide (¬ Va (10 * b + 7) ≤ 6))) hN
  have H3 := H.wo (e := .inr (5, [.ref aO, .int (nI N), .int 1, .int (bi w.2.2.1), .int (jwy (Va (10 * b + 7))), .int (bi (decide (¬ Va (10 * b + 7) ≤ 6)))])) D.1 (fun _ z => by cases z) (fun _ z => by cases z) (fun _ _ _ z => by cases z)
  have f3 : rx_fr V h _ (fun q => q = a ∨ fp_ra n ra q) := rx_fr.wr (e := .inr (5, [.ref aO, .int (nI N), .int 1, .int (bi w.2.2.1), .int (jwy (Va (10 * b + 7))), .int (bi (decide (¬ Va (10 * b + 7) ≤ 6)))])) D.1 (Or.inl rfl)
  refine rx_aload_nr d_Road_jumpFrom_32 (by rfl) ?_
  refine rx_pV d_Road_jumpFrom_33 (by rfl) ml_Road_32 im_Repeats_resetPasses se_Repeats_resetPasses (by exact c9_Repeats_resetPasses) H3.1 (by rfl) (by exact Nat.le_of_ble_eq_true rfl) (c_resetPasses H3) ?_
  intro h4 z9
  obtain ⟨H4, f4⟩ := z9
  have D4 : is_rd V h4 a aO n N 1 (bi w.2.2.1) (jwy (Va (10 * b + 7))) (bi (decide (¬ Va (10 * b + 7) ≤ 6))) f := D3.fr f4 (fun ⟨r, hr9, z⟩ => rx_ne D3.1 (H3.cell hr9) (fun y => by cases y) z) (fun ⟨r, hr9, z⟩ => rx_ne D3.2.1 (H3.cell hr9) (fun y => by cases y) z)
  have hp4 : is_pg V h4 aP n al at_ av Le Te Va := (hp.wr D.1 (rx_ne hp.1 D.1 (fun y => by cases y)) (rx_ne hp.2.1 D.1 (fun y => by cases y)) (rx_ne hp.2.2.1 D.1 (fun y => by cases y)) (rx_ne hp.2.2.2.1 D.1 (fun y => by cases y))).frg H3 (f4.mo (fun q z => fp_g_ra q z))
  refine rx_aload_nr d_Road_jumpFrom_36 (by rfl) ?_
  refine rx_iload_n d_Road_jumpFrom_37 (by rfl) ?_
  refine rx_cS d_Road_jumpFrom_38 ml_Road_112 st_Jump_target (by exact c9_Jump_target) (by rfl) (by exact Nat.le_of_ble_eq_true rfl) (c_target hp4 hbn) ?_
  rw [(wta_eq hn hbn h6).1]
  refine rx_ireturn d_Road_jumpFrom_41 (by rfl) ?_
  refine ⟨rfl, _, H4, fun r hl => ?_, fun r hl => ⟨if_pos ⟨hl, rfl⟩, Nat.le_of_ble_eq_true rfl⟩, D4, f3.tr (f4.mo (fun q z => Or.inr z))⟩
  have := hr r hl
  simp only [show ¬ (r < s.1 ∧ (0 : Nat) = 6) from fun z => absurd z.2 (by decide), show ¬ (r < s.1 ∧ (1 : Nat) = 6) from fun z => absurd z.2 (by decide), show ¬ (r < s.1 ∧ (2 : Nat) = 6) from fun z => absurd z.2 (by decide), show ¬ (r < s.1 ∧ (3 : Nat) = 6) from fun z => absurd z.2 (by decide), show ¬ (r < s.1 ∧ (4 : Nat) = 6) from fun z => absurd z.2 (by decide), show ¬ (r < s.1 ∧ (5 : Nat) = 6) from fun z => absurd z.2 (by decide), if_false]
  exact this
end W1
end
section
/-! Road.behind, Road.walk -/
def onx (x : Option Nat) : Int32 := match x with
  | none => -1
  | some j => nI j
/-- how a step ends -/
def wPo (V : rx_V) (h : List va_E) (a aO aR n N aA aE aG : Nat) (fA : Nat → Option Nat) (ra : Nat → Nat) (s : gT) (g : Nat → Option Nat) (f : Nat → Int32) (w : wT) (h' : List va_E) : Prop :=
  (∃ R', is_rp V h' aR n aA aE aG s.1 fA (fun x => (gO s x).map ra) (fun x => (g x).map ra) ra R' ∧ roG s g R' ∧ (∀ r, r < s.1 → R' r 6 = nI (w.1 r) ∧ w.1 r ≤ 4)) ∧ is_rd V h' a aO n N (bi w.2.1) (bi w.2.2.1) w.2.2.2.1 (bi w.2.2.2.2) f ∧ rx_fr V h h' (fun q => q = a ∨ fp_ra n ra q)
section W2
variable {V : rx_V} {d kc ks a aO aR n N aA aE aG aP al at_ av b c : Nat} {h : List va_E} {fA : Nat → Option Nat} {ra : Nat → Nat} {R : Nat → Nat → Int32} {Le Te Va f : Nat → Int32} {s : gT} {g : Nat → Option Nat} {jm wo wy tk : Int32} {w : wT} {ag : Bool}
theorem l_b162 (hp : is_pg V h aP n al at_ av Le Te Va) (H : is_rp V h aR n aA aE aG s.1 fA (fun x => (gO s x).map ra) (fun x => (g x).map ra) ra R) (hr : roG s g R) (hps : ∀ r, r < s.1 → R r 6 = nI (w.1 r) ∧ w.1 r ≤ 4) (G : gN n Va s g) (D : is_rd V h a aO n N (bi w.2.1) (bi w.2.2.1) w.2.2.2.1 (bi w.2.2.2.2) f) (hbn : b < n) (x5 : Option Value) (e : wn2 n Va w b ag = (w, if b + 1 < n then some (b + 1) else none)) : rx_W V (d + 4) kc ks m_Road_behind 162 [some (.ref a), some (.int (nI b)), some (.int (bi ag)), some (.ref aP), some (.ref aR), x5] [] h (fun r9 h' => r9 = .inl (some (.int (onx (wn2 n Va w b ag).2))) ∧ wPo V h a aO aR n N aA aE aG fA ra s g f (wn2 n Va w b ag).1 h') := by
  have hn := H.n20
  rw [e]
  refine rx_aload_nr d_Road_behind_162 (by rfl) ?_
  refine rx_iload_n d_Road_behind_163 (by rfl) ?_
  refine rx_iconst (v := 1) d_Road_behind_164 (by decide) ?_
  refine rx_iadd d_Road_behind_165 ?_
  rw [nI_1]
  refine rx_cV d_Road_behind_166 (by rfl) ml_Road_98 im_Page_hasBar se_Page_hasBar (by exact c9_Page_hasBar) hp.1 (by rfl) (by exact Nat.le_of_ble_eq_true rfl) (c_hasBar hp (nI (b + 1))) ?_
  refine rx_if_eq (tgt := 178) d_Road_behind_169 (by rfl) (fun c169 => ?_) (fun c169 => ?_)
  · have z : ¬ b + 1 < n := fun y => by rw [pgh_nn hn y] at c169; exact absurd c169 (by decide)
    rw [if_neg z]
    refine rx_iconst (v := -1) d_Road_behind_178 (by decide) ?_
    refine rx_ireturn d_Road_behind_179 (by rfl) ?_
    exact ⟨rfl, ⟨⟨R, H, hr, hps⟩, D, rx_fr.rf⟩⟩
  · have z : b + 1 < n := by obtain ⟨j, -, -, y⟩ := pgh_in c169; rw [i_n (by omega)] at y; omega
    rw [if_pos z]
    refine rx_iload_n d_Road_behind_172 (by rfl) ?_
    refine rx_iconst (v := 1) d_Road_behind_173 (by decide) ?_
    refine rx_iadd d_Road_behind_174 ?_
    rw [nI_1]
    refine rx_goto (tgt := 179) d_Road_behind_175 (by rfl) ?_
    refine rx_ireturn d_Road_behind_179 (by rfl) ?_
    exact ⟨rfl, ⟨⟨R, H, hr, hps⟩, D, rx_fr.rf⟩⟩
theorem l_b136 (hp : is_pg V h aP n al at_ av Le Te Va) (H : is_rp V h aR n aA aE aG s.1 fA (fun x => (gO s x).map ra) (fun x => (g x).map ra) ra R) (hr : roG s g R) (hps : ∀ r, r < s.1 → R r 6 = nI (w.1 r) ∧ w.1 r ≤ 4) (G : gN n Va s g) (D : is_rd V h a aO n N (bi w.2.1) (bi w.2.2.1) w.2.2.2.1 (bi w.2.2.2.2) f) (hbn : b < n) (x5 : Option Value) (h6 : hb Va 7 b = true → ¬ jta n Va b = -1) (hag : ag = false) (n1 : ¬ (ag = false ∧ w.2.1 = true ∧ w.2.2.2.1 = 1 ∧ hb Va 5 b = true)) (n2 : ¬ (ag = false ∧ w.2.1 = true ∧ w.2.2.2.1 = 2 ∧ w.2.2.1 = false ∧ hb Va 6 b = true)) : rx_W V (d + 4) kc ks m_Road_behind 136 [some (.ref a), some (.int (nI b)), some (.int (bi ag)), some (.ref aP), some (.ref aR), x5] [] h (fun r9 h' => r9 = .inl (some (.int (onx (wn2 n Va w b ag).2))) ∧ wPo V h a aO aR n N aA aE aG fA ra s g f (wn2 n Va w b ag).1 h') := by
  have hn := H.n20
  have hv : pgv n Va (nI b) 7 = Va (10 * b + 7) := pgv_k hn hbn (by omega) rfl
  refine rx_aload_nr d_Road_behind_136 (by rfl) ?_
  refine rx_getfield d_Road_behind_137 fl_Road_19 D.1 (by rfl) ?_
  refine rx_if_ne (tgt := 162) d_Road_behind_140 (by rfl) (fun c140 => ?_) (fun c140 => ?_)
  · have n3 : ¬ (ag = false ∧ w.2.1 = false ∧ hb Va 7 b = true) := fun z => by rw [z.2.1] at c140; exact c140 rfl
    exact l_b162 hp H hr hps G D hbn x5 ((if_neg n1).trans ((if_neg n2).trans (if_neg n3)))
  · have j : w.2.1 = false := bi_0.mp c140
    refine rx_aload_nr d_Road_behind_143 (by rfl) ?_
    refine rx_iload_n d_Road_behind_144 (by rfl) ?_
    refine rx_bipush (v := 7) d_Road_behind_145 (by decide) ?_
    refine rx_cV d_Road_behind_147 (by rfl) ml_Road_85 im_Page_has se_Page_has (by exact c9_Page_has) hp.1 (by rfl) (by exact Nat.le_of_ble_eq_true rfl) (c_has hp (nI b) 7) ?_
    rw [hv]
    refine rx_if_eq (tgt := 162) d_Road_behind_150 (by rfl) (fun c150 => ?_) (fun c150 => ?_)
    · have n3 : ¬ (ag = false ∧ w.2.1 = false ∧ hb Va 7 b = true) := fun z => hb_t.mp z.2.2 (ite01.mp c150)
      exact l_b162 hp H hr hps G D hbn x5 ((if_neg n1).trans ((if_neg n2).trans (if_neg n3)))
    · have h7 : hb Va 7 b = true := hb_t.mpr (fun z => c150 (ite01.mpr z))
      have e : wn2 n Va w b ag = (wju Va w b, some (wta Va b)) := (if_neg n1).trans ((if_neg n2).trans (if_pos ⟨hag, j, h7⟩))
      rw [e]
      refine rx_aload_nr d_Road_behind_153 (by rfl) ?_
      refine rx_iload_n d_Road_behind_154 (by rfl) ?_
      refine rx_aload_nr d_Road_behind_155 (by rfl) ?_
      refine rx_aload_r d_Road_behind_156 (by rfl) ?_
      refine rx_pV d_Road_behind_158 (by rfl) ml_Road_95 im_Road_jumpFrom se_Road_jumpFrom (by exact c9_Road_jumpFrom) D.1 (by rfl) (by exact Nat.le_of_ble_eq_true rfl) (c_jumpFrom hp H hr hps G D hbn (h6 h7)) ?_
      intro h4 z9
      obtain ⟨R4, H4, r4, p4, D4, f4⟩ := z9
      refine rx_ireturn d_Road_behind_161 (by rfl) ?_
      exact ⟨rfl, ⟨R4, H4, r4, p4⟩, D4, f4⟩
theorem l_b86 (hp : is_pg V h aP n al at_ av Le Te Va) (H : is_rp V h aR n aA aE aG s.1 fA (fun x => (gO s x).map ra) (fun x => (g x).map ra) ra R) (hr : roG s g R) (hps : ∀ r, r < s.1 → R r 6 = nI (w.1 r) ∧ w.1 r ≤ 4) (G : gN n Va s g) (D : is_rd V h a aO n N (bi w.2.1) (bi w.2.2.1) w.2.2.2.1 (bi w.2.2.2.2) f) (hbn : b < n) (x5 : Option Value) (h6 : hb Va 7 b = true → ¬ jta n Va b = -1) (hco : w.2.1 = true → w.2.2.2.1 = 2 → ∃ y, y < n ∧ hb Va 4 y = true) (hag : ag = false) (n1 : ¬ (ag = false ∧ w.2.1 = true ∧ w.2.2.2.1 = 1 ∧ hb Va 5 b = true)) : rx_W V (d + 4) kc ks m_Road_behind 86 [some (.ref a), some (.int (nI b)), some (.int (bi ag)), some (.ref aP), some (.ref aR), x5] [] h (fun r9 h' => r9 = .inl (some (.int (onx (wn2 n Va w b ag).2))) ∧ wPo V h a aO aR n N aA aE aG fA ra s g f (wn2 n Va w b ag).1 h') := by
  have hn := H.n20
  have hN : N ≤ n * 12 := D.2.2.1
  have hv : pgv n Va (nI b) 6 = Va (10 * b + 6) := pgv_k hn hbn (by omega) rfl
  refine rx_aload_nr d_Road_behind_86 (by rfl) ?_
  refine rx_getfield d_Road_behind_87 fl_Road_19 D.1 (by rfl) ?_
  refine rx_if_eq (tgt := 136) d_Road_behind_90 (by rfl) (fun c90 => ?_) (fun c90 => ?_)
  · have n2 : ¬ (ag = false ∧ w.2.1 = true ∧ w.2.2.2.1 = 2 ∧ w.2.2.1 = false ∧ hb Va 6 b = true) := fun z => by rw [z.2.1] at c90; exact absurd c90 (by decide)
    exact l_b136 hp H hr hps G D hbn x5 h6 hag n1 n2
  · refine rx_aload_nr d_Road_behind_93 (by rfl) ?_
    refine rx_getfield d_Road_behind_94 fl_Road_26 D.1 (by rfl) ?_
    refine rx_iconst (v := 2) d_Road_behind_97 (by decide) ?_
    refine rx_icmp_ne (tgt := 136) d_Road_behind_98 (by rfl) (fun c98 => ?_) (fun c98 => ?_)
    · have n2 : ¬ (ag = false ∧ w.2.1 = true ∧ w.2.2.2.1 = 2 ∧ w.2.2.1 = false ∧ hb Va 6 b = true) := fun z => c98 z.2.2.1
      exact l_b136 hp H hr hps G D hbn x5 h6 hag n1 n2
    · refine rx_aload_nr d_Road_behind_101 (by rfl) ?_
      refine rx_getfield d_Road_behind_102 fl_Road_23 D.1 (by rfl) ?_
      refine rx_if_ne (tgt := 136) d_Road_behind_105 (by rfl) (fun c105 => ?_) (fun c105 => ?_)
      · have n2 : ¬ (ag = false ∧ w.2.1 = true ∧ w.2.2.2.1 = 2 ∧ w.2.2.1 = false ∧ hb Va 6 b = true) := fun z => by rw [z.2.2.2.1] at c105; exact c105 rfl
        exact l_b136 hp H hr hps G D hbn x5 h6 hag n1 n2
      · refine rx_aload_nr d_Road_behind_108 (by rfl) ?_
        refine rx_iload_n d_Road_behind_109 (by rfl) ?_
        refine rx_bipush (v := 6) d_Road_behind_110 (by decide) ?_
        refine rx_cV d_Road_behind_112 (by rfl) ml_Road_85 im_Page_has se_Page_has (by exact c9_Page_has) hp.1 (by rfl) (by exact Nat.le_of_ble_eq_true rfl) (c_has hp (nI b) 6) ?_
        rw [hv]
        refine rx_if_eq (tgt := 136) d_Road_behind_115 (by rfl) (fun c115 => ?_) (fun c115 => ?_)
        · have n2 : ¬ (ag = false ∧ w.2.1 = true ∧ w.2.2.2.1 = 2 ∧ w.2.2.1 = false ∧ hb Va 6 b = true) := fun z => hb_t.mp z.2.2.2.2 (ite01.mp c115)
          exact l_b136 hp H hr hps G D hbn x5 h6 hag n1 n2
        · have e : wn2 n Va w b ag = ((w.1, w.2.1, true, w.2.2.2.1, w.2.2.2.2), some (wco n Va)) := (if_neg n1).trans (if_pos ⟨hag, bi_1.mp c90, c98, bi_0.mp c105, hb_t.mpr (fun z => c115 (ite01.mpr z))⟩)
          rw [e]
          obtain ⟨co, co1, co2, co3⟩ := hb_ex (hco (bi_1.mp c90) c98)
          refine rx_aload_nr d_Road_behind_118 (by rfl) ?_
          refine rx_iconst (v := 1) d_Road_behind_119 (by decide) ?_
          refine rx_putfield d_Road_behind_120 (fw_Road_23 rfl) D.1 (Nat.le_of_ble_eq_true rfl) (by rfl) (by rfl) ?_
          have D1 := D.ob (N' := N) (jm' := bi w.2.1) (wo' := 1) (wy' := w.2.2.2.1) (tk' := bi w.2.2.2.2) hN
          have H1 := H.wo (e := .inr (5, [.ref aO, .int (nI N), .int (bi w.2.1), .int 1, .int w.2.2.2.1, .int (bi w.2.2.2.2)])) D.1 (fun _ z => by cases z) (fun _ z => by cases z) (fun _ _ _ z => by cases z)
          have hp1 := hp.wr (e := .inr (5, [.ref aO, .int (nI N), .int (bi w.2.1), .int 1, .int w.2.2.2.1, .int (bi w.2.2.2.2)])) D.1 (rx_ne hp.1 D.1 (fun y => by cases y)) (rx_ne hp.2.1 D.1 (fun y => by cases y)) (rx_ne hp.2.2.1 D.1 (fun y => by cases y)) (rx_ne hp.2.2.2.1 D.1 (fun y => by cases y))
          refine rx_aload_nr d_Road_behind_123 (by rfl) ?_
          refine rx_iconst (v := 4) d_Road_behind_124 (by decide) ?_
          refine rx_iconst (v := 0) d_Road_behind_125 (by decide) ?_
          refine rx_aload_nr d_Road_behind_126 (by rfl) ?_
          refine rx_getfield d_Road_behind_127 fl_Road_88 hp1.1 (by rfl) ?_
          refine rx_iconst (v := 1) d_Road_behind_130 (by decide) ?_
          refine rx_isub d_Road_behind_131 ?_
          refine rx_cV d_Road_behind_132 (by rfl) ml_Road_91 im_Page_lastWith se_Page_lastWith (by exact c9_Page_lastWith) hp1.1 (by rfl) (by exact Nat.le_of_ble_eq_true rfl) (c_lw hp1 (k := 4) (by omega) 0 (nI n - 1)) ?_
          have e7 : lwi n Va 4 0 (nI n - 1) = nI (wco n Va) := by
            have e0 : nI n - 1 = nI (n - 1) := by
              cases n with
              | zero => omega
              | succ j => exact nI_pred j
            rw [e0, show (0 : Int32) = nI 0 from rfl, lwi_n hn (by omega) (by omega), show n - 1 + 1 = n from by omega, show ((0 : Nat) : Int) = 0 from rfl, co1, i_ofI]
            unfold wco
            rw [co1]
            rfl
          rw [e7]
          refine rx_ireturn d_Road_behind_135 (by rfl) ?_
          exact ⟨rfl, ⟨R, H1, hr, hps⟩, D1, rx_fr.wr D.1 (Or.inl rfl)⟩
theorem l_b56 (hp : is_pg V h aP n al at_ av Le Te Va) (H : is_rp V h aR n aA aE aG s.1 fA (fun x => (gO s x).map ra) (fun x => (g x).map ra) ra R) (hr : roG s g R) (hps : ∀ r, r < s.1 → R r 6 = nI (w.1 r) ∧ w.1 r ≤ 4) (G : gN n Va s g) (D : is_rd V h a aO n N (bi w.2.1) (bi w.2.2.1) w.2.2.2.1 (bi w.2.2.2.2) f) (hbn : b < n) (x5 : Option Value) (h6 : hb Va 7 b = true → ¬ jta n Va b = -1) (hco : w.2.1 = true → w.2.2.2.1 = 2 → ∃ y, y < n ∧ hb Va 4 y = true) : rx_W V (d + 4) kc ks m_Road_behind 56 [some (.ref a), some (.int (nI b)), some (.int (bi ag)), some (.ref aP), some (.ref aR), x5] [] h (fun r9 h' => r9 = .inl (some (.int (onx (wn2 n Va w b ag).2))) ∧ wPo V h a aO aR n N aA aE aG fA ra s g f (wn2 n Va w b ag).1 h') := by
  have hn := H.n20
  have hv : pgv n Va (nI b) 5 = Va (10 * b + 5) := pgv_k hn hbn (by omega) rfl
  refine rx_iload_n d_Road_behind_56 (by rfl) ?_
  refine rx_if_ne (tgt := 162) d_Road_behind_57 (by rfl) (fun c57 => ?_) (fun c57 => ?_)
  · have ha : ag = true := bi_1.mp c57
    exact l_b162 hp H hr hps G D hbn x5 ((if_neg (fun z => by rw [ha] at z; cases z.1)).trans ((if_neg (fun z => by rw [ha] at z; cases z.1)).trans (if_neg (fun z => by rw [ha] at z; cases z.1))))
  · have hag : ag = false := bi_0.mp c57
    refine rx_aload_nr d_Road_behind_60 (by rfl) ?_
    refine rx_getfield d_Road_behind_61 fl_Road_19 D.1 (by rfl) ?_
    refine rx_if_eq (tgt := 86) d_Road_behind_64 (by rfl) (fun c64 => ?_) (fun c64 => ?_)
    · have n1 : ¬ (ag = false ∧ w.2.1 = true ∧ w.2.2.2.1 = 1 ∧ hb Va 5 b = true) := fun z => by rw [z.2.1] at c64; exact absurd c64 (by decide)
      exact l_b86 hp H hr hps G D hbn x5 h6 hco hag n1
    · refine rx_aload_nr d_Road_behind_67 (by rfl) ?_
      refine rx_getfield d_Road_behind_68 fl_Road_26 D.1 (by rfl) ?_
      refine rx_iconst (v := 1) d_Road_behind_71 (by decide) ?_
      refine rx_icmp_ne (tgt := 86) d_Road_behind_72 (by rfl) (fun c72 => ?_) (fun c72 => ?_)
      · have n1 : ¬ (ag = false ∧ w.2.1 = true ∧ w.2.2.2.1 = 1 ∧ hb Va 5 b = true) := fun z => c72 z.2.2.1
        exact l_b86 hp H hr hps G D hbn x5 h6 hco hag n1
      · refine rx_aload_nr d_Road_behind_75 (by rfl) ?_
        refine rx_iload_n d_Road_behind_76 (by rfl) ?_
        refine rx_iconst (v := 5) d_Road_behind_77 (by decide) ?_
        refine rx_cV d_Road_behind_78 (by rfl) ml_Road_85 im_Page_has se_Page_has (by exact c9_Page_has) hp.1 (by rfl) (by exact Nat.le_of_ble_eq_true rfl) (c_has hp (nI b) 5) ?_
        rw [hv]
        refine rx_if_eq (tgt := 86) d_Road_behind_81 (by rfl) (fun c81 => ?_) (fun c81 => ?_)
        · have n1 : ¬ (ag = false ∧ w.2.1 = true ∧ w.2.2.2.1 = 1 ∧ hb Va 5 b = true) := fun z => hb_t.mp z.2.2.2 (ite01.mp c81)
          exact l_b86 hp H hr hps G D hbn x5 h6 hco hag n1
        · rw [show wn2 n Va w b ag = (w, none) from if_pos ⟨hag, bi_1.mp c64, c72, hb_t.mpr (fun z => c81 (ite01.mpr z))⟩]
          refine rx_iconst (v := -1) d_Road_behind_84 (by decide) ?_
          refine rx_ireturn d_Road_behind_85 (by rfl) ?_
          exact ⟨rfl, ⟨⟨R, H, hr, hps⟩, D, rx_fr.rf⟩⟩
theorem c_behind (hp : is_pg V h aP n al at_ av Le Te Va) (H : is_rp V h aR n aA aE aG s.1 fA (fun x => (gO s x).map ra) (fun x => (g x).map ra) ra R) (hr : roG s g R) (hps : ∀ r, r < s.1 → R r 6 = nI (w.1 r) ∧ w.1 r ≤ 4) (G : gN n Va s g) (D : is_rd V h a aO n N (bi w.2.1) (bi w.2.2.1) w.2.2.2.1 (bi w.2.2.2.2) f) (hbn : b < n) (h6 : hb Va 7 b = true → ¬ jta n Va b = -1) (hco : w.2.1 = true → w.2.2.2.1 = 2 → ∃ y, y < n ∧ hb Va 4 y = true) : rx_C V (d + 4) kc ks m_Road_behind [.ref a, .int (nI b), .int (bi ag), .ref aP, .ref aR] h (fun r9 h' => r9 = .inl (some (.int (onx (wnx n Va s w b ag).2))) ∧ wPo V h a aO aR n N aA aE aG fA ra s g f (wnx n Va s w b ag).1 h') := by
  have hn := H.n20
  cases hgb : gO s b with
  | none =>
    have e9 : wnx n Va s w b ag = wn2 n Va w b ag := by unfold wnx; rw [hgb]
    rw [e9]
    refine rx_aload_r d_Road_behind_0 (by rfl) ?_
    refine rx_iload_n d_Road_behind_2 (by rfl) ?_
    refine rx_cV d_Road_behind_3 (by rfl) ml_Road_77 im_Repeats_ofEnd se_Repeats_ofEnd (by exact c9_Repeats_ofEnd) H.1 (by rfl) (by exact Nat.le_of_ble_eq_true rfl) (c_ofEnd H (nI b)) ?_
    rw [ogt_nn (by omega) hbn, hgb]
    refine rx_astore_N d_Road_behind_6 (Nat.le_of_ble_eq_true rfl) ?_
    refine rx_aload_N d_Road_behind_8 (by rfl) ?_
    refine rx_ifnull_N (tgt := 56) d_Road_behind_10 (by rfl) ?_
    exact l_b56 hp H hr hps G D hbn _ h6 hco
  | some r =>
    have hrn := (G.1.2.2.2.2.2.2.1 b r hgb).1
    have hrN : r < n := Nat.lt_of_lt_of_le hrn G.1.1
    have hcm := G.2.2 r hrn
    have hpr := hps r hrn
    refine rx_aload_r d_Road_behind_0 (by rfl) ?_
    refine rx_iload_n d_Road_behind_2 (by rfl) ?_
    refine rx_cV d_Road_behind_3 (by rfl) ml_Road_77 im_Repeats_ofEnd se_Repeats_ofEnd (by exact c9_Repeats_ofEnd) H.1 (by rfl) (by exact Nat.le_of_ble_eq_true rfl) (c_ofEnd H (nI b)) ?_
    rw [ogt_nn (by omega) hbn, hgb]
    show rx_W V (d + 4) kc ks m_Road_behind 6 _ [.ref (ra r)] h _
    refine rx_astore_r d_Road_behind_6 (Nat.le_of_ble_eq_true rfl) ?_
    refine rx_aload_r d_Road_behind_8 (by rfl) ?_
    refine rx_ifnull_r (tgt := 56) d_Road_behind_10 (by rfl) ?_
    refine rx_aload_nr d_Road_behind_13 (by rfl) ?_
    refine rx_getfield d_Road_behind_14 fl_Road_29 D.1 (by rfl) ?_
    refine rx_if_eq (tgt := 56) d_Road_behind_17 (by rfl) (fun c17 => ?_) (fun c17 => ?_)
    · have e9 : wnx n Va s w b ag = wn2 n Va w b ag := by unfold wnx; rw [hgb]; exact if_neg (by rw [bi_0.mp c17]; decide)
      rw [e9]
      first
      | exact l_b56 hp H hr hps G D hbn _ h6 hco
      | exact rx_cons (l_b56 (w := (up w.1 r 1, w.2)) (hp.rc (H.cell hrN)) (H.set1 (k := 6) (v := nI 1) hrN) hr.p6 (hps6 hps (by omega)) G (D.rc (H.cell hrN)) hbn _ h6 hco) (fun r9 h9 z => ⟨z.1, z.2.1, z.2.2.1, (rx_fr.wr (H.cell hrN) (Or.inr ⟨r, hrN, rfl⟩)).tr z.2.2.2⟩)
    · refine rx_aload_r d_Road_behind_20 (by rfl) ?_
      refine rx_getfield d_Road_behind_22 fl_Road_57 (H.cell hrN) (by rfl) ?_
      rw [hpr.1]
      refine rx_aload_r d_Road_behind_25 (by rfl) ?_
      refine rx_getfield d_Road_behind_27 fl_Road_62 (H.cell hrN) (by rfl) ?_
      rw [(hr r hrn).2.2.2.1, hcm.1]
      refine rx_icmp_ge (tgt := 50) d_Road_behind_30 (by rfl) (fun c30 => ?_) (fun c30 => ?_)
      · have lt9 : ¬ w.1 r < cn s r := fun y => nI_ge y (by omega) c30
        have e9 : wnx n Va s w b ag = wn2 n Va (up w.1 r 1, w.2) b ag := by unfold wnx; rw [hgb]; exact (if_pos (bi_1.mp c17)).trans (if_neg lt9)
        rw [e9]
        refine rx_aload_r d_Road_behind_50 (by rfl) ?_
        refine rx_iconst (v := 1) d_Road_behind_52 (by decide) ?_
        refine rx_putfield d_Road_behind_53 (fw_Road_57 rfl) (H.cell hrN) (Nat.le_of_ble_eq_true rfl) (by rfl) (by rfl) ?_
        first
        | exact l_b56 hp H hr hps G D hbn _ h6 hco
        | exact rx_cons (l_b56 (w := (up w.1 r 1, w.2)) (hp.rc (H.cell hrN)) (H.set1 (k := 6) (v := nI 1) hrN) hr.p6 (hps6 hps (by omega)) G (D.rc (H.cell hrN)) hbn _ h6 hco) (fun r9 h9 z => ⟨z.1, z.2.1, z.2.2.1, (rx_fr.wr (H.cell hrN) (Or.inr ⟨r, hrN, rfl⟩)).tr z.2.2.2⟩)
      · have lt9 : w.1 r < cn s r := by
          by_cases u : w.1 r < cn s r
          · exact u
          · exact absurd (nI_le (by omega) (by omega)) c30
        have e9 : wnx n Va s w b ag = ((up w.1 r (w.1 r + 1), w.2), some (gF s r)) := by unfold wnx; rw [hgb]; exact (if_pos (bi_1.mp c17)).trans (if_pos lt9)
        rw [e9]
        refine rx_aload_r d_Road_behind_33 (by rfl) ?_
        refine rx_dup d_Road_behind_35 (by rfl) ?_
        refine rx_getfield d_Road_behind_36 fl_Road_57 (H.cell hrN) (by rfl) ?_
        rw [hpr.1]
        refine rx_iconst (v := 1) d_Road_behind_39 (by decide) ?_
        refine rx_iadd d_Road_behind_40 ?_
        rw [nI_1]
        refine rx_putfield d_Road_behind_41 (fw_Road_57 rfl) (H.cell hrN) (Nat.le_of_ble_eq_true rfl) (by rfl) (by rfl) ?_
        have H1 := H.set1 (k := 6) (v := nI (w.1 r + 1)) hrN
        refine rx_aload_r d_Road_behind_44 (by rfl) ?_
        refine rx_getfield d_Road_behind_46 fl_Road_80 (H1.cell hrN) (by rfl) ?_
        refine rx_ireturn d_Road_behind_49 (by rfl) ?_
        exact ⟨by show (Sum.inl (some (Value.int (rup R r 6 (nI (w.1 r + 1)) r 0))) : rx_R) = _; rw [rup_k (show 0 ≠ 6 by omega), (hr r hrn).1]; rfl, ⟨_, H1, hr.p6, hps6 hps (by omega)⟩, D.rc (H.cell hrN), rx_fr.wr (H.cell hrN) (Or.inr ⟨r, hrN, rfl⟩)⟩
end W2
end
section
/-! Road.walk -/
def wsp (n : Nat) (Va : Nat → Int32) (s : gT) (g : Nat → Option Nat) (x : wT × Option Nat) : wT × Option Nat := match x.2 with
  | none => x
  | some c => wnx n Va s (wlv Va s g x.1 (win n Va s g x.1 c)) (win n Va s g x.1 c) (wag s x.1 (win n Va s g x.1 c))
def wsq (n : Nat) (Va : Nat → Int32) (s : gT) (g : Nat → Option Nat) : Nat → wT × Option Nat
  | 0 => ((fun _ => 1, false, false, 0, true), some 0)
  | k + 1 => wsp n Va s g (wsq n Va s g k)
/-- the bar played at place k -/
def wbr (n : Nat) (Va : Nat → Int32) (s : gT) (g : Nat → Option Nat) (k : Nat) : Nat := match (wsq n Va s g k).2 with
  | none => 0
  | some c => win n Va s g (wsq n Va s g k).1 c
def NF (n : Nat) (Va : Nat → Int32) (s : gT) (g : Nat → Option Nat) : Prop := ∀ k b, 1 ≤ k → k ≤ 7 → b < n → ¬ FT n Va s g k b
def WI (n : Nat) (Va : Nat → Int32) (s : gT) (x : wT × Option Nat) : Prop := (∀ r, r < s.1 → 1 ≤ x.1.1 r ∧ x.1.1 r ≤ cn s r) ∧ (∀ c, x.2 = some c → c < n) ∧ (x.1.2.1 = true → x.1.2.2.2.1 = 2 → ∃ y, y < n ∧ hb Va 4 y = true)
theorem win_ran {n : Nat} {Va : Nat → Int32} {s : gT} {g : Nat → Option Nat} {w : wT} {c : Nat} (hg : ∀ x r, g x = some r → x < n) (hc : c < n) : c ≤ win n Va s g w c ∧ win n Va s g w c < n := by
  unfold win
  cases hgc : g c with
  | none => exact ⟨Nat.le_refl _, hc⟩
  | some r =>
    show c ≤ wif n Va g r (wdu s w r) c ∧ wif n Va g r (wdu s w r) c < n
    unfold wif
    cases e : fix (fun e => decide (g e = some r) && bt Va e (wdu s w r)) c (n - c) with
    | some x =>
      obtain ⟨j1, j2, -, -⟩ := fix_s e
      show c ≤ x ∧ x < n
      omega
    | none =>
      show c ≤ lsg n g r ∧ lsg n g r < n
      unfold lsg
      obtain e | ⟨j, e1, e2, e3, e4⟩ := lwf_ran (fun e => decide (g e = some r)) 0 n
      · exact absurd ((lwf_m1.mp e c (by omega) hc).symm.trans (decide_eq_true hgc)) (by decide)
      · rw [e1]
        have key : ∀ m, lwf (fun e => decide (g e = some r)) 0 m = (j : Int) → ∀ y, y < m → decide (g y = some r) = true → y ≤ j := by
          intro m
          induction m with
          | zero => intro _ y h; omega
          | succ m ih =>
            intro hm y hy1 hy2
            cases hp : decide (g m = some r) with
            | true => rw [lwf_yes (by omega) hp] at hm; omega
            | false =>
              rw [lwf_no (by omega) hp] at hm
              by_cases e : y = m
              · rw [e, hp] at hy2; cases hy2
              · exact ih hm y (by omega) hy2
        have := key n e1 c hc (decide_eq_true hgc)
        show c ≤ ((j : Int)).toNat ∧ ((j : Int)).toNat < n
        omega
theorem nf6 {n : Nat} {Va : Nat → Int32} {s : gT} {g : Nat → Option Nat} {b : Nat} (F : NF n Va s g) (hbn : b < n) (h : hb Va 7 b = true) : ¬ jta n Va b = -1 := fun z => F 6 b (by omega) (by omega) hbn ⟨h, z⟩
theorem nf7 {n : Nat} {Va : Nat → Int32} {s : gT} {g : Nat → Option Nat} {b : Nat} (hn : n ≤ 20) (F : NF n Va s g) (hbn : b < n) (h : hb Va 7 b = true) (h2 : jwy (Va (10 * b + 7)) = 2) : ∃ y, y < n ∧ b < y ∧ hb Va 4 y = true := by
  have z : ¬ lwi n Va 4 (nI (b + 1)) (nI n - 1) = -1 := fun z => F 7 b (by omega) (by omega) hbn ⟨h, Or.inr ⟨h2, Or.inr z⟩⟩
  have e0 : nI n - 1 = nI (n - 1) := by
    cases n with
    | zero => omega
    | succ j => exact nI_pred j
  rw [e0, lwi_m1 hn (by omega) (by omega)] at z
  obtain e | ⟨j, e1, e2, e3, e4⟩ := lwf_ran (hb Va 4) ((b + 1 : Nat) : Int) (n - 1 + 1)
  · exact absurd e z
  · exact ⟨j, by omega, by omega, e4⟩
theorem WI_s {n : Nat} {Va : Nat → Int32} {s : gT} {g : Nat → Option Nat} {x : wT × Option Nat} (hn : n ≤ 20) (G : gN n Va s g) (F : NF n Va s g) (W : WI n Va s x) : WI n Va s (wsp n Va s g x) := by
  unfold wsp
  cases hc : x.2 with
  | none => exact W
  | some c =>
    obtain ⟨W1, W2, W3⟩ := W
    have hcn := W2 c hc
    obtain ⟨-, hbn⟩ := win_ran (Va := Va) (s := s) (w := x.1) (fun y r z => (G.2.1 y r z).2.1) hcn
    show WI n Va s (wnx n Va s (wlv Va s g x.1 (win n Va s g x.1 c)) (win n Va s g x.1 c) (wag s x.1 (win n Va s g x.1 c)))
    generalize win n Va s g x.1 c = b at hbn
    generalize wag s x.1 b = ag
    have L : (∀ r, r < s.1 → 1 ≤ (wlv Va s g x.1 b).1 r ∧ (wlv Va s g x.1 b).1 r ≤ cn s r) ∧ (wlv Va s g x.1 b).2 = x.1.2 := by
      unfold wlv
      cases hg : g b with
      | none => exact ⟨W1, rfl⟩
      | some r0 =>
        by_cases c0 : bt Va b (cn s r0) = true
        · show (∀ r, r < s.1 → 1 ≤ (if bt Va b (cn s r0) = true then (up x.1.1 r0 1, x.1.2) else x.1).1 r ∧ (if bt Va b (cn s r0) = true then (up x.1.1 r0 1, x.1.2) else x.1).1 r ≤ cn s r) ∧ (if bt Va b (cn s r0) = true then (up x.1.1 r0 1, x.1.2) else x.1).2 = x.1.2
          rw [if_pos c0]
          refine ⟨fun r hr => ?_, rfl⟩
          show 1 ≤ up x.1.1 r0 1 r ∧ up x.1.1 r0 1 r ≤ cn s r
          by_cases e : r = r0
          · rw [e, up_s]; have := G.2.2 r0 (G.2.1 b r0 hg).1; omega
          · rw [up_o e]; exact W1 r hr
        · show (∀ r, r < s.1 → 1 ≤ (if bt Va b (cn s r0) = true then (up x.1.1 r0 1, x.1.2) else x.1).1 r ∧ (if bt Va b (cn s r0) = true then (up x.1.1 r0 1, x.1.2) else x.1).1 r ≤ cn s r) ∧ (if bt Va b (cn s r0) = true then (up x.1.1 r0 1, x.1.2) else x.1).2 = x.1.2
          rw [if_neg c0]
          exact ⟨W1, rfl⟩
    have W3' : (wlv Va s g x.1 b).2.1 = true → (wlv Va s g x.1 b).2.2.2.1 = 2 → ∃ y, y < n ∧ hb Va 4 y = true := by rw [L.2]; exact W3
    have L1 := L.1
    generalize wlv Va s g x.1 b = w at L1 W3'
    have key : ∀ w : wT, (∀ r, r < s.1 → 1 ≤ w.1 r ∧ w.1 r ≤ cn s r) → (w.2.1 = true → w.2.2.2.1 = 2 → ∃ y, y < n ∧ hb Va 4 y = true) → WI n Va s (wn2 n Va w b ag) := by
      intro w L1 W3
      unfold wn2
      by_cases c1 : ag = false ∧ w.2.1 = true ∧ w.2.2.2.1 = 1 ∧ hb Va 5 b = true
      · rw [if_pos c1]
        exact ⟨L1, fun c z => (nomatch z), W3⟩
      · rw [if_neg c1]
        by_cases c2 : ag = false ∧ w.2.1 = true ∧ w.2.2.2.1 = 2 ∧ w.2.2.1 = false ∧ hb Va 6 b = true
        · rw [if_pos c2]
          refine ⟨L1, fun c z => ?_, W3⟩
          obtain ⟨j, j1, j2, -⟩ := hb_ex (W3 c2.2.1 c2.2.2.1)
          have z : wco n Va = c := Option.some.inj z
          unfold wco at z
          rw [j1] at z
          omega
        · rw [if_neg c2]
          by_cases c3 : ag = false ∧ w.2.1 = false ∧ hb Va 7 b = true
          · rw [if_pos c3]
            refine ⟨fun r hr => ?_, fun c z => ?_, fun _ z => ?_⟩
            · show 1 ≤ 1 ∧ 1 ≤ cn s r
              have := G.2.2 r hr; omega
            · have z : wta Va b = c := Option.some.inj z
              have := (wta_eq hn hbn (nf6 F hbn c3.2.2)).2
              omega
            · obtain ⟨y, y1, -, y3⟩ := nf7 hn F hbn c3.2.2 z
              exact ⟨y, y1, y3⟩
          · rw [if_neg c3]
            refine ⟨L1, fun c z => ?_, W3⟩
            by_cases c4 : b + 1 < n
            · have z : (if b + 1 < n then some (b + 1) else none) = some c := z
              rw [if_pos c4] at z
              have := Option.some.inj z
              omega
            · have z : (if b + 1 < n then some (b + 1) else none) = some c := z
              rw [if_neg c4] at z
              cases z
    unfold wnx
    cases hO : gO s b with
    | none => exact key w L1 W3'
    | some r =>
      have hrn := (G.1.2.2.2.2.2.2.1 b r hO).1
      show WI n Va s (if w.2.2.2.2 = true then (if w.1 r < cn s r then ((up w.1 r (w.1 r + 1), w.2), some (gF s r)) else wn2 n Va (up w.1 r 1, w.2) b ag) else wn2 n Va w b ag)
      by_cases c5 : w.2.2.2.2 = true
      · rw [if_pos c5]
        by_cases c6 : w.1 r < cn s r
        · rw [if_pos c6]
          refine ⟨fun r' hr' => ?_, fun c z => ?_, W3'⟩
          · show 1 ≤ up w.1 r (w.1 r + 1) r' ∧ up w.1 r (w.1 r + 1) r' ≤ cn s r'
            by_cases e : r' = r
            · rw [e, up_s]; omega
            · rw [up_o e]; exact L1 r' hr'
          · have z : gF s r = c := Option.some.inj z
            have j := G.1.2.2.2.2.1 r hrn
            have := G.1.2.1
            omega
        · rw [if_neg c6]
          refine key _ (fun r' hr' => ?_) W3'
          show 1 ≤ up w.1 r 1 r' ∧ up w.1 r 1 r' ≤ cn s r'
          by_cases e : r' = r
          · rw [e, up_s]; have := G.2.2 r hrn; omega
          · rw [up_o e]; exact L1 r' hr'
      · rw [if_neg c5]
        exact key w L1 W3'
theorem WI_k {n : Nat} {Va : Nat → Int32} {s : gT} {g : Nat → Option Nat} (hn : n ≤ 20) (h0 : 0 < n) (G : gN n Va s g) (F : NF n Va s g) : ∀ k, WI n Va s (wsq n Va s g k) := by
  intro k
  induction k with
  | zero => exact ⟨fun r hr => by show 1 ≤ 1 ∧ 1 ≤ cn s r; have := G.2.2 r hr; omega, fun c z => by have z : 0 = c := Option.some.inj z; omega, fun z => (nomatch z)⟩
  | succ k ih => exact WI_s hn G F ih
theorem is_rd.ar {V : rx_V} {h : List va_E} {a aO n N : Nat} {jm wo wy tk : Int32} {f f' : Nat → Int32} (D : is_rd V h a aO n N jm wo wy tk f) : is_rd V (rx_wr V h aO (.inl (V.2.2.2.1 0, n * 12, .inl f'))) a aO n N jm wo wy tk f' :=
  ⟨(rx_rd_wn D.2.1 (rx_ne D.1 D.2.1 (fun z => by cases z))).trans D.1, rx_rd_wr D.2.1, D.2.2⟩
def fp_w (a aO n : Nat) (ra : Nat → Nat) : Nat → Prop := fun q => q = a ∨ q = aO ∨ fp_ra n ra q
section W3
variable {V : rx_V} {d kc ks a aO aR n N aA aE aG aP al at_ av : Nat} {h : List va_E} {fA : Nat → Option Nat} {ra : Nat → Nat} {R : Nat → Nat → Int32} {Le Te Va f : Nat → Int32} {s : gT} {g : Nat → Option Nat}
theorem l_walk (h0 : 0 < n) (hO : aO ≠ al ∧ aO ≠ at_ ∧ aO ≠ av) (hN : N ≤ n * 12) (hN0 : (wsq n Va s g N).2 = none) (hN1 : ∀ k, k < N → ∃ c, (wsq n Va s g k).2 = some c) (G : gN n Va s g) (F : NF n Va s g) : ∀ (m k : Nat) (h1 : List va_E) (R1 : Nat → Nat → Int32) (f1 : Nat → Int32) (x4 x5 : Option Value), k + m = N → is_pg V h1 aP n al at_ av Le Te Va → is_rp V h1 aR n aA aE aG s.1 fA (fun x => (gO s x).map ra) (fun x => (g x).map ra) ra R1 → roG s g R1 → (∀ r, r < s.1 → R1 r 6 = nI ((wsq n Va s g k).1.1 r)) → is_rd V h1 a aO n k (bi (wsq n Va s g k).1.2.1) (bi (wsq n Va s g k).1.2.2.1) (wsq n Va s g k).1.2.2.2.1 (bi (wsq n Va s g k).1.2.2.2.2) f1 → (∀ j, j < k → f1 j = nI (wbr n Va s g j)) → rx_fr V h h1 (fp_w a aO n ra) →
    rx_W V (d + 5) kc ks m_Road_walk 31 [some (.ref a), some (.ref aP), some (.ref aR), some (.int (onx (wsq n Va s g k).2)), x4, x5] [] h1 (fun r9 h' => r9 = .inl none ∧ (∃ R', is_rp V h' aR n aA aE aG s.1 fA (fun x => (gO s x).map ra) (fun x => (g x).map ra) ra R' ∧ roG s g R') ∧ (∃ jm wo wy tk f', is_rd V h' a aO n N jm wo wy tk f' ∧ ∀ j, j < N → f' j = nI (wbr n Va s g j)) ∧ rx_fr V h h' (fp_w a aO n ra)) := by
  intro m
  induction m with
  | zero =>
    intro k h1 R1 f1 x4 x5 hk hp H hr hps D hf1 hf
    have e : k = N := by omega
    subst e
    rw [hN0]
    refine rx_iload_n d_Road_walk_31 (by rfl) ?_
    refine rx_iconst (v := -1) d_Road_walk_32 (by decide) ?_
    refine rx_icmp_eq (tgt := 108) d_Road_walk_33 (by rfl) (fun c33 => ?_) (fun z => absurd rfl z)
    refine rx_vreturn d_Road_walk_108 (by rfl) ?_
    exact ⟨rfl, ⟨R1, H, hr⟩, ⟨_, _, _, _, f1, D, hf1⟩, hf⟩
  | succ m ih =>
    intro k h1 R1 f1 x4 x5 hk hp H hr hps D hf1 hf
    have hn := H.n20
    obtain ⟨W1, W2, W3⟩ := WI_k hn h0 G F k
    have hps : ∀ r, r < s.1 → R1 r 6 = nI ((wsq n Va s g k).1.1 r) ∧ (wsq n Va s g k).1.1 r ≤ 4 := fun r hr9 => ⟨hps r hr9, Nat.le_trans (W1 r hr9).2 (G.2.2 r hr9).2.2⟩
    obtain ⟨c, hc⟩ := hN1 k (by omega)
    have hcn := W2 c hc
    obtain ⟨-, hbn⟩ := win_ran (Va := Va) (s := s) (w := (wsq n Va s g k).1) (fun y r z => (G.2.1 y r z).2.1) hcn
    have ebr : wbr n Va s g k = win n Va s g (wsq n Va s g k).1 c := by unfold wbr; rw [hc]
    have enx : wsq n Va s g (k + 1) = wnx n Va s (wlv Va s g (wsq n Va s g k).1 (wbr n Va s g k)) (wbr n Va s g k) (wag s (wsq n Va s g k).1 (wbr n Va s g k)) := by
      rw [ebr]
      show wsp n Va s g (wsq n Va s g k) = _
      unfold wsp
      rw [hc]
    rw [hc]
    rw [← ebr] at hbn
    have W3' : (wlv Va s g (wsq n Va s g k).1 (wbr n Va s g k)).2.1 = true → (wlv Va s g (wsq n Va s g k).1 (wbr n Va s g k)).2.2.2.1 = 2 → ∃ y, y < n ∧ hb Va 4 y = true := by
      rw [show (wlv Va s g (wsq n Va s g k).1 (wbr n Va s g k)).2 = (wsq n Va s g k).1.2 from by unfold wlv; split; rfl; split; rfl; rfl]
      exact W3
    have ewl : (wlv Va s g (wsq n Va s g k).1 (wbr n Va s g k)).2 = (wsq n Va s g k).1.2 := by unfold wlv; split; rfl; split; rfl; rfl
    refine rx_iload_n d_Road_walk_31 (by rfl) ?_
    refine rx_iconst (v := -1) d_Road_walk_32 (by decide) ?_
    refine rx_icmp_eq (tgt := 108) d_Road_walk_33 (by rfl) (fun z => absurd z (nI_m1 (by omega))) (fun c33 => ?_)
    refine rx_aload_nr d_Road_walk_36 (by rfl) ?_
    refine rx_getfield d_Road_walk_37 fl_Road_15 D.1 (by rfl) ?_
    refine rx_aload_nr d_Road_walk_40 (by rfl) ?_
    refine rx_getfield d_Road_walk_41 fl_Road_9 D.1 (by rfl) ?_
    refine rx_alen d_Road_walk_44 (by rfl) D.2.1 ?_
    refine rx_icmp_ge (tgt := 108) d_Road_walk_45 (by rfl) (fun z => absurd z (nI_ge (by omega) (by omega))) (fun c45 => ?_)
    refine rx_aload_nr d_Road_walk_48 (by rfl) ?_
    refine rx_iload_n d_Road_walk_49 (by rfl) ?_
    refine rx_aload_nr d_Road_walk_50 (by rfl) ?_
    refine rx_aload_nr d_Road_walk_51 (by rfl) ?_
    refine rx_cV d_Road_walk_52 (by rfl) ml_Road_37 im_Road_insteadOf se_Road_insteadOf (by exact c9_Road_insteadOf) D.1 (by rfl) (by exact Nat.le_of_ble_eq_true rfl) (c_insteadOf hp H hr hps G D hcn) ?_
    rw [← ebr]
    refine rx_istore d_Road_walk_55 (Nat.le_of_ble_eq_true rfl) ?_
    refine rx_aload_nr d_Road_walk_57 (by rfl) ?_
    refine rx_iload d_Road_walk_58 (by rfl) ?_
    refine rx_aload_nr d_Road_walk_60 (by rfl) ?_
    refine rx_cV d_Road_walk_61 (by rfl) ml_Road_41 im_Road_isToComeAgain se_Road_isToComeAgain (by exact c9_Road_isToComeAgain) D.1 (by rfl) (by exact Nat.le_of_ble_eq_true rfl) (c_again hp H hr hps G D hbn) ?_
    refine rx_istore d_Road_walk_64 (Nat.le_of_ble_eq_true rfl) ?_
    refine rx_iload d_Road_walk_66 (by rfl) ?_
    refine rx_aload_nr d_Road_walk_68 (by rfl) ?_
    refine rx_aload_nr d_Road_walk_69 (by rfl) ?_
    refine rx_pS d_Road_walk_70 ml_Road_45 st_Road_leaveRepeatAtLastPass (by exact c9_Road_leaveRepeatAtLastPass) (by rfl) (by exact Nat.le_of_ble_eq_true rfl) (c_leave hp H hr hps G hbn) ?_
    intro h2 z9
    obtain ⟨R2, H2, r2, p2, f2⟩ := z9
    have D2 := D.fr f2 (fun ⟨r, hr9, z⟩ => rx_ne D.1 (H.cell hr9) (fun y => by cases y) z) (fun ⟨r, hr9, z⟩ => rx_ne D.2.1 (H.cell hr9) (fun y => by cases y) z)
    have hp2 := hp.frg H (f2.mo (fun q z => fp_g_ra q z))
    rw [← ewl] at D2
    refine rx_aload_nr d_Road_walk_73 (by rfl) ?_
    refine rx_getfield d_Road_walk_74 fl_Road_9 D2.1 (by rfl) ?_
    refine rx_aload_nr d_Road_walk_77 (by rfl) ?_
    refine rx_getfield d_Road_walk_78 fl_Road_15 D2.1 (by rfl) ?_
    refine rx_iload d_Road_walk_81 (by rfl) ?_
    refine rx_iastore d_Road_walk_83 (by rfl) D2.2.1 (vp_in_nI (by omega) (by omega)) ?_
    rw [i_cl (by omega)]
    have D3 := D2.ar (f' := upd f1 k (nI (wbr n Va s g k)))
    have H3 := H2.wo (e := .inl (V.2.2.2.1 0, n * 12, .inl (upd f1 k (nI (wbr n Va s g k))))) D2.2.1 (fun _ z => by cases z) (fun _ z => by cases z) (fun _ _ _ z => by cases z)
    have hp3 := hp2.wr (e := .inl (V.2.2.2.1 0, n * 12, .inl (upd f1 k (nI (wbr n Va s g k))))) D2.2.1 (rx_ne hp2.1 D2.2.1 (fun y => by cases y)) (Ne.symm hO.1) (Ne.symm hO.2.1) (Ne.symm hO.2.2)
    refine rx_aload_nr d_Road_walk_84 (by rfl) ?_
    refine rx_dup d_Road_walk_85 (by rfl) ?_
    refine rx_getfield d_Road_walk_86 fl_Road_15 D3.1 (by rfl) ?_
    refine rx_iconst (v := 1) d_Road_walk_89 (by decide) ?_
    refine rx_iadd d_Road_walk_90 ?_
    rw [nI_1]
    refine rx_putfield d_Road_walk_91 (fw_Road_15 rfl) D3.1 (Nat.le_of_ble_eq_true rfl) (by rfl) (by rfl) ?_
    have D4 := D3.ob (N' := k + 1) (jm' := bi (wlv Va s g (wsq n Va s g k).1 (wbr n Va s g k)).2.1) (wo' := bi (wlv Va s g (wsq n Va s g k).1 (wbr n Va s g k)).2.2.1) (wy' := (wlv Va s g (wsq n Va s g k).1 (wbr n Va s g k)).2.2.2.1) (tk' := bi (wlv Va s g (wsq n Va s g k).1 (wbr n Va s g k)).2.2.2.2) (by omega)
    have H4 := H3.wo (e := .inr (5, [.ref aO, .int (nI (k + 1)), .int (bi (wlv Va s g (wsq n Va s g k).1 (wbr n Va s g k)).2.1), .int (bi (wlv Va s g (wsq n Va s g k).1 (wbr n Va s g k)).2.2.1), .int (wlv Va s g (wsq n Va s g k).1 (wbr n Va s g k)).2.2.2.1, .int (bi (wlv Va s g (wsq n Va s g k).1 (wbr n Va s g k)).2.2.2.2)])) D3.1 (fun _ z => by cases z) (fun _ z => by cases z) (fun _ _ _ z => by cases z)
    have hp4 := hp3.wr (e := .inr (5, [.ref aO, .int (nI (k + 1)), .int (bi (wlv Va s g (wsq n Va s g k).1 (wbr n Va s g k)).2.1), .int (bi (wlv Va s g (wsq n Va s g k).1 (wbr n Va s g k)).2.2.1), .int (wlv Va s g (wsq n Va s g k).1 (wbr n Va s g k)).2.2.2.1, .int (bi (wlv Va s g (wsq n Va s g k).1 (wbr n Va s g k)).2.2.2.2)])) D3.1 (rx_ne hp3.1 D3.1 (fun y => by cases y)) (rx_ne hp3.2.1 D3.1 (fun y => by cases y)) (rx_ne hp3.2.2.1 D3.1 (fun y => by cases y)) (rx_ne hp3.2.2.2.1 D3.1 (fun y => by cases y))
    refine rx_aload_nr d_Road_walk_94 (by rfl) ?_
    refine rx_iload d_Road_walk_95 (by rfl) ?_
    refine rx_iload d_Road_walk_97 (by rfl) ?_
    refine rx_aload_nr d_Road_walk_99 (by rfl) ?_
    refine rx_aload_nr d_Road_walk_100 (by rfl) ?_
    refine rx_pV d_Road_walk_101 (by rfl) ml_Road_49 im_Road_behind se_Road_behind (by exact c9_Road_behind) D4.1 (by rfl) (by exact Nat.le_of_ble_eq_true rfl) (c_behind hp4 H4 r2 p2 G D4 hbn (nf6 F hbn) W3') ?_
    intro h5 z9
    obtain ⟨⟨R5, H5, r5, p5⟩, D5, f5⟩ := z9
    rw [← enx] at p5 D5 ⊢
    have hp5 := hp4.fr f5 (fun z => z.elim (fun y => rx_ne hp4.1 D4.1 (fun y => by cases y) y) (fun ⟨r, hr9, y⟩ => rx_ne hp4.1 (H4.cell hr9) (fun y => by cases y) y)) (fun z => z.elim (fun y => rx_ne hp4.2.1 D4.1 (fun y => by cases y) y) (fun ⟨r, hr9, y⟩ => rx_ne hp4.2.1 (H4.cell hr9) (fun y => by cases y) y)) (fun z => z.elim (fun y => rx_ne hp4.2.2.1 D4.1 (fun y => by cases y) y) (fun ⟨r, hr9, y⟩ => rx_ne hp4.2.2.1 (H4.cell hr9) (fun y => by cases y) y)) (fun z => z.elim (fun y => rx_ne hp4.2.2.2.1 D4.1 (fun y => by cases y) y) (fun ⟨r, hr9, y⟩ => rx_ne hp4.2.2.2.1 (H4.cell hr9) (fun y => by cases y) y))
    refine rx_istore_n d_Road_walk_104 (Nat.le_of_ble_eq_true rfl) ?_
    refine rx_goto (tgt := 31) d_Road_walk_105 (by rfl) ?_
    refine ih (k + 1) h5 R5 _ _ _ (by omega) hp5 H5 r5 (fun r hr9 => (p5 r hr9).1) D5 (fun j hj => ?_) ((((hf.tr (f2.mo (fun q z => Or.inr (Or.inr z)))).tr (rx_fr.wr D2.2.1 (Or.inr (Or.inl rfl)))).tr (rx_fr.wr D3.1 (Or.inl rfl))).tr (f5.mo (fun q z => z.elim (fun y => Or.inl y) (fun y => Or.inr (Or.inr y)))))
    rw [up_upd]
    by_cases e : j = k
    · rw [e, up_s]
    · rw [up_o e]; exact hf1 j (by omega)
theorem c_walk (h0 : 0 < n) (hO : aO ≠ al ∧ aO ≠ at_ ∧ aO ≠ av) (hN : N ≤ n * 12) (hN0 : (wsq n Va s g N).2 = none) (hN1 : ∀ k, k < N → ∃ c, (wsq n Va s g k).2 = some c) (G : gN n Va s g) (F : NF n Va s g) (hp : is_pg V h aP n al at_ av Le Te Va) (H : is_rp V h aR n aA aE aG s.1 fA (fun x => (gO s x).map ra) (fun x => (g x).map ra) ra R) (hr : roG s g R) {N0 : Nat} {jm wo wy tk : Int32} (D : is_rd V h a aO n N0 jm wo wy tk f) : rx_C V (d + 5) kc ks m_Road_walk [.ref a, .ref aP, .ref aR] h (fun r9 h' => r9 = .inl none ∧ (∃ R', is_rp V h' aR n aA aE aG s.1 fA (fun x => (gO s x).map ra) (fun x => (g x).map ra) ra R' ∧ roG s g R') ∧ (∃ jm wo wy tk f', is_rd V h' a aO n N jm wo wy tk f' ∧ ∀ j, j < N → f' j = nI (wbr n Va s g j)) ∧ rx_fr V h h' (fp_w a aO n ra)) := by
  refine rx_aload_nr d_Road_walk_0 (by rfl) ?_
  refine rx_iconst (v := 0) d_Road_walk_1 (by decide) ?_
  refine rx_putfield d_Road_walk_2 (fw_Road_15 rfl) D.1 (Nat.le_of_ble_eq_true rfl) (by rfl) (by rfl) ?_
  have D1 := D.ob (N' := 0) (jm' := jm) (wo' := wo) (wy' := wy) (tk' := tk) (Nat.zero_le _)
  refine rx_aload_nr d_Road_walk_5 (by rfl) ?_
  refine rx_iconst (v := 0) d_Road_walk_6 (by decide) ?_
  refine rx_putfield d_Road_walk_7 (fw_Road_19 rfl) D1.1 (Nat.le_of_ble_eq_true rfl) (by rfl) (by rfl) ?_
  rw [rx_wr_wr]
  have D2 := D.ob (N' := 0) (jm' := 0) (wo' := wo) (wy' := wy) (tk' := tk) (Nat.zero_le _)
  refine rx_aload_nr d_Road_walk_10 (by rfl) ?_
  refine rx_iconst (v := 0) d_Road_walk_11 (by decide) ?_
  refine rx_putfield d_Road_walk_12 (fw_Road_23 rfl) D2.1 (Nat.le_of_ble_eq_true rfl) (by rfl) (by rfl) ?_
  rw [rx_wr_wr]
  have D3 := D.ob (N' := 0) (jm' := 0) (wo' := 0) (wy' := wy) (tk' := tk) (Nat.zero_le _)
  refine rx_aload_nr d_Road_walk_15 (by rfl) ?_
  refine rx_iconst (v := 0) d_Road_walk_16 (by decide) ?_
  refine rx_putfield d_Road_walk_17 (fw_Road_26 rfl) D3.1 (Nat.le_of_ble_eq_true rfl) (by rfl) (by rfl) ?_
  rw [rx_wr_wr]
  have D4 := D.ob (N' := 0) (jm' := 0) (wo' := 0) (wy' := 0) (tk' := tk) (Nat.zero_le _)
  refine rx_aload_nr d_Road_walk_20 (by rfl) ?_
  refine rx_iconst (v := 1) d_Road_walk_21 (by decide) ?_
  refine rx_putfield d_Road_walk_22 (fw_Road_29 rfl) D4.1 (Nat.le_of_ble_eq_true rfl) (by rfl) (by rfl) ?_
  rw [rx_wr_wr]
  have D5 := D.ob (N' := 0) (jm' := 0) (wo' := 0) (wy' := 0) (tk' := 1) (Nat.zero_le _)
  have H5 := H.wo (e := .inr (5, [.ref aO, .int (nI 0), .int (0), .int (0), .int (0), .int (1)])) D.1 (fun _ z => by cases z) (fun _ z => by cases z) (fun _ _ _ z => by cases z)
  have hp5 := hp.wr (e := .inr (5, [.ref aO, .int (nI 0), .int (0), .int (0), .int (0), .int (1)])) D.1 (rx_ne hp.1 D.1 (fun y => by cases y)) (rx_ne hp.2.1 D.1 (fun y => by cases y)) (rx_ne hp.2.2.1 D.1 (fun y => by cases y)) (rx_ne hp.2.2.2.1 D.1 (fun y => by cases y))
  refine rx_aload_nr d_Road_walk_25 (by rfl) ?_
  refine rx_pV d_Road_walk_26 (by rfl) ml_Road_32 im_Repeats_resetPasses se_Repeats_resetPasses (by exact c9_Repeats_resetPasses) H5.1 (by rfl) (by exact Nat.le_of_ble_eq_true rfl) (c_resetPasses H5) ?_
  intro h6 z9
  obtain ⟨H6, f6⟩ := z9
  have D6 := D5.fr f6 (fun ⟨r, hr9, z⟩ => rx_ne D5.1 (H5.cell hr9) (fun y => by cases y) z) (fun ⟨r, hr9, z⟩ => rx_ne D5.2.1 (H5.cell hr9) (fun y => by cases y) z)
  have hp6 := hp5.frg H5 (f6.mo (fun q z => fp_g_ra q z))
  refine rx_iconst (v := 0) d_Road_walk_29 (by decide) ?_
  refine rx_istore_n d_Road_walk_30 (Nat.le_of_ble_eq_true rfl) ?_
  refine l_walk h0 hO hN hN0 hN1 G F N 0 h6 _ f _ _ (by omega) hp6 H6 (fun r hl => ?_) (fun r hl => if_pos ⟨hl, rfl⟩) D6 (fun j hj => absurd hj (Nat.not_lt_zero _)) ((rx_fr.wr D.1 (Or.inl rfl)).tr (f6.mo (fun q z => Or.inr (Or.inr z))))
  have := hr r hl
  simp only [show ¬ (r < s.1 ∧ (0 : Nat) = 6) from fun z => absurd z.2 (by decide), show ¬ (r < s.1 ∧ (1 : Nat) = 6) from fun z => absurd z.2 (by decide), show ¬ (r < s.1 ∧ (2 : Nat) = 6) from fun z => absurd z.2 (by decide), show ¬ (r < s.1 ∧ (3 : Nat) = 6) from fun z => absurd z.2 (by decide), show ¬ (r < s.1 ∧ (4 : Nat) = 6) from fun z => absurd z.2 (by decide), show ¬ (r < s.1 ∧ (5 : Nat) = 6) from fun z => absurd z.2 (by decide), if_false]
  exact this
end W3
end
section
/-! Notes.add, Notes.shift; Page.shape, put, the cuts -/
def ins {α : Type} (f : Nat → α) (p : Nat) (v : α) : Nat → α := fun i => if i < p then f i else if i = p then v else f (i - 1)
theorem ins_l {α : Type} {f : Nat → α} {p i : Nat} {v : α} (h : i < p) : ins f p v i = f i := if_pos h
theorem ins_e {α : Type} {f : Nat → α} {p : Nat} {v : α} : ins f p v p = v := (if_neg (Nat.lt_irrefl _)).trans (if_pos rfl)
theorem ins_g {α : Type} {f : Nat → α} {p i : Nat} {v : α} (h : p < i) : ins f p v i = f (i - 1) := (if_neg (by omega)).trans (if_neg (by omega))
/-- where a note goes -/
noncomputable def plc (NS : Nat → Nat → Int32) (X : Nat → Int32) : Nat → Nat
  | 0 => 0
  | j + 1 => @ite _ (nbh (NS j) X) (Classical.propDecidable _) (plc NS X j) (j + 1)
theorem plc_le {NS : Nat → Nat → Int32} {X : Nat → Int32} (k : Nat) : plc NS X k ≤ k := by
  induction k with
  | zero => exact Nat.le_refl _
  | succ k ih =>
    by_cases c : nbh (NS k) X
    · rw [show plc NS X (k + 1) = plc NS X k from if_pos c]; omega
    · rw [show plc NS X (k + 1) = k + 1 from if_neg c]; exact Nat.le_refl _
section N3
variable {V : rx_V} {d kc ks a n al at_ av aN ar num q q2 : Nat} {h : List va_E} {Le Te Va N N2 X : Nat → Int32} {f : Nat → Option Nat} {na : Nat → Nat} {NS : Nat → Nat → Int32}
theorem c_isBh (hr : rx_rd V h q = some (ncl N)) (hr2 : rx_rd V h q2 = some (ncl N2)) : rx_C V d kc ks m_Note_isBehind [.ref q, .ref q2] h (rx_X (.inl (some (.int (bP (nbh N N2))))) h) :=
  rx_cons (c_isBehind hr hr2) (fun r h' z => by
    obtain ⟨z1, ⟨z2, z3⟩ | ⟨z2, z3⟩⟩ := z
    · exact ⟨by rw [bP_t z2]; exact z3, z1⟩
    · exact ⟨by rw [bP_f z2]; exact z3, z1⟩)
theorem l_add52 (hN : is_nt V h aN ar num f na NS) (h40 : num < 40) (hq : rx_rd V h q = some (ncl X)) {k : Nat} (hk : k ≤ num) {h1 : List va_E} {f1 : Nat → Option Nat} (hf1 : ∀ j, f1 j = if k < j ∧ j ≤ num then f (j - 1) else f j) (ha : rx_rd V h1 ar = some (.inl (V.2.2.2.1 4, 40, .inr (.inr (.inr (.inr f1)))))) (hf : rx_fr V h h1 (fun x => x = ar)) : rx_W V (d + 1) kc ks m_Notes_add 52 [some (.ref aN), some (.ref q), some (.int (nI k))] [] h1 (fun r9 h' => r9 = .inl none ∧ ∃ f', is_nt V h' aN ar (num + 1) f' (ins na k q) (ins NS k X) ∧ rx_fr V h h' (fun x => x = aN ∨ x = ar)) := by
  have hNr : aN ≠ ar := rx_ne hN.1 hN.2.1 (fun z => by cases z)
  have hqr : q ≠ ar := rx_ne hq hN.2.1 (fun z => by cases z)
  have hqN : q ≠ aN := rx_ne hq hN.1 (fun z => by cases z)
  have hN1 := (hf.2 aN hNr).trans hN.1
  have hq1 := (hf.2 q hqr).trans hq
  have hir : ∀ i, i < num → na i ≠ ar := fun i hi => rx_ne (hN.2.2.2.1 i hi) hN.2.1 (fun z => by cases z)
  have hiN : ∀ i, i < num → na i ≠ aN := fun i hi => rx_ne (hN.2.2.2.1 i hi) hN.1 (fun z => by cases z)
  refine rx_aload_nr d_Notes_add_52 (by rfl) ?_
  refine rx_getfield d_Notes_add_53 fl_Notes_11 hN1 (by rfl) ?_
  refine rx_iload_n d_Notes_add_56 (by rfl) ?_
  refine rx_aload_nr d_Notes_add_57 (by rfl) ?_
  refine rx_aastore (r := ("ScoreRoads$Note", F_Note, 6)) d_Notes_add_58 (by rfl) ha hq1 (by rfl) (vp_in_nI (by omega) (by omega)) ?_
  rw [i_cl (by omega)]
  have f2 := hf.tr (rx_fr.wr (e := .inl (V.2.2.2.1 4, 40, .inr (.inr (.inr (.inr (va_up f1 k (some q))))))) ha rfl)
  have hN2 := (f2.2 aN hNr).trans hN.1
  refine rx_aload_nr d_Notes_add_59 (by rfl) ?_
  refine rx_dup d_Notes_add_60 (by rfl) ?_
  refine rx_getfield d_Notes_add_61 fl_Notes_17 hN2 (by rfl) ?_
  refine rx_iconst (v := 1) d_Notes_add_64 (by decide) ?_
  refine rx_iadd d_Notes_add_65 ?_
  rw [nI_1]
  refine rx_putfield d_Notes_add_66 (fw_Notes_17 rfl) hN2 (Nat.le_of_ble_eq_true rfl) (by rfl) (by rfl) ?_
  refine rx_vreturn d_Notes_add_69 (by rfl) ?_
  have f3 := (f2.mo (fun x z => Or.inr z)).tr (rx_fr.wr (FP := fun x => x = aN ∨ x = ar) (e := .inr (2, [.ref ar, .int (nI (num + 1))])) hN2 (Or.inl rfl))
  have ha2 : rx_rd V (rx_wr V h1 ar (.inl (V.2.2.2.1 4, 40, .inr (.inr (.inr (.inr (va_up f1 k (some q)))))))) ar = some (.inl (V.2.2.2.1 4, 40, .inr (.inr (.inr (.inr (va_up f1 k (some q))))))) := rx_rd_wr ha
  refine ⟨rfl, va_up f1 k (some q), ⟨rx_rd_wr hN2, (rx_rd_wn hN2 (Ne.symm hNr)).trans ha2, fun i hi => ?_, fun i hi => ?_, by omega⟩, f3⟩
  · rw [up_va]
    by_cases e : i = k
    · rw [e, up_s, ins_e]
    · rw [up_o e, hf1 i]
      by_cases c : i < k
      · rw [if_neg (by omega), ins_l c]; exact hN.2.2.1 i (by omega)
      · rw [if_pos (by omega), ins_g (by omega)]; exact hN.2.2.1 (i - 1) (by omega)
  · by_cases e : i = k
    · rw [e, ins_e, ins_e]
      exact (f3.2 q (fun z => z.elim hqN hqr)).trans hq
    · by_cases c : i < k
      · rw [ins_l c, ins_l c]
        exact (f3.2 _ (fun z => z.elim (hiN i (by omega)) (hir i (by omega)))).trans (hN.2.2.2.1 i (by omega))
      · rw [ins_g (by omega), ins_g (by omega)]
        exact (f3.2 _ (fun z => z.elim (hiN (i - 1) (by omega)) (hir (i - 1) (by omega)))).trans (hN.2.2.2.1 (i - 1) (by omega))
theorem l_add13 (hN : is_nt V h aN ar num f na NS) (h40 : num < 40) (hq : rx_rd V h q = some (ncl X)) : ∀ (k : Nat) (h1 : List va_E) (f1 : Nat → Option Nat), k ≤ num → (∀ j, f1 j = if k < j ∧ j ≤ num then f (j - 1) else f j) → rx_rd V h1 ar = some (.inl (V.2.2.2.1 4, 40, .inr (.inr (.inr (.inr f1))))) → rx_fr V h h1 (fun x => x = ar) → rx_W V (d + 1) kc ks m_Notes_add 13 [some (.ref aN), some (.ref q), some (.int (nI k))] [] h1 (fun r9 h' => r9 = .inl none ∧ ∃ f', is_nt V h' aN ar (num + 1) f' (ins na (plc NS X k) q) (ins NS (plc NS X k) X) ∧ rx_fr V h h' (fun x => x = aN ∨ x = ar)) := by
  have hNr : aN ≠ ar := rx_ne hN.1 hN.2.1 (fun z => by cases z)
  have hqr : q ≠ ar := rx_ne hq hN.2.1 (fun z => by cases z)
  have hir : ∀ i, i < num → na i ≠ ar := fun i hi => rx_ne (hN.2.2.2.1 i hi) hN.2.1 (fun z => by cases z)
  intro k
  induction k with
  | zero =>
    intro h1 f1 hk hf1 ha hf
    refine rx_iload_n d_Notes_add_13 (by rfl) ?_
    refine rx_if_le (tgt := 52) d_Notes_add_14 (by rfl) (fun c14 => ?_) (fun z => absurd (by decide) z)
    exact l_add52 hN h40 hq hk hf1 ha hf
  | succ k ih =>
    intro h1 f1 hk hf1 ha hf
    have hN1 := (hf.2 aN hNr).trans hN.1
    have hq1 := (hf.2 q hqr).trans hq
    have hi1 := (hf.2 (na k) (hir k (by omega))).trans (hN.2.2.2.1 k (by omega))
    have e1 : f1 k = some (na k) := by rw [hf1 k, if_neg (by omega)]; exact hN.2.2.1 k (by omega)
    refine rx_iload_n d_Notes_add_13 (by rfl) ?_
    refine rx_if_le (tgt := 52) d_Notes_add_14 (by rfl) (fun z => absurd z (nI_nle (by omega) (by omega))) (fun c14 => ?_)
    refine rx_aload_nr d_Notes_add_17 (by rfl) ?_
    refine rx_getfield d_Notes_add_18 fl_Notes_11 hN1 (by rfl) ?_
    refine rx_iload_n d_Notes_add_21 (by rfl) ?_
    refine rx_iconst (v := 1) d_Notes_add_22 (by decide) ?_
    refine rx_isub d_Notes_add_23 ?_
    rw [nI_pred]
    refine rx_aaload d_Notes_add_24 (by rfl) ha (vp_in_nI (by omega) (by omega)) ?_
    rw [i_cl (by omega), e1]
    show rx_W V (d + 1) kc ks m_Notes_add 25 _ [.ref (na k)] h1 _
    refine rx_aload_nr d_Notes_add_25 (by rfl) ?_
    refine rx_cV d_Notes_add_26 (by rfl) ml_Notes_25 im_Note_isBehind se_Note_isBehind (by exact c9_Note_isBehind) hi1 (by rfl) (by exact Nat.le_of_ble_eq_true rfl) (c_isBh hi1 hq1) ?_
    refine rx_if_eq (tgt := 52) d_Notes_add_29 (by rfl) (fun c29 => ?_) (fun c29 => ?_)
    · rw [show plc NS X (k + 1) = k + 1 from if_neg (bP_0.mp c29)]
      exact l_add52 hN h40 hq hk hf1 ha hf
    · rw [show plc NS X (k + 1) = plc NS X k from if_pos (bP_1.mp c29)]
      refine rx_aload_nr d_Notes_add_32 (by rfl) ?_
      refine rx_getfield d_Notes_add_33 fl_Notes_11 hN1 (by rfl) ?_
      refine rx_iload_n d_Notes_add_36 (by rfl) ?_
      refine rx_aload_nr d_Notes_add_37 (by rfl) ?_
      refine rx_getfield d_Notes_add_38 fl_Notes_11 hN1 (by rfl) ?_
      refine rx_iload_n d_Notes_add_41 (by rfl) ?_
      refine rx_iconst (v := 1) d_Notes_add_42 (by decide) ?_
      refine rx_isub d_Notes_add_43 ?_
      rw [nI_pred]
      refine rx_aaload d_Notes_add_44 (by rfl) ha (vp_in_nI (by omega) (by omega)) ?_
      rw [i_cl (by omega), e1]
      show rx_W V (d + 1) kc ks m_Notes_add 45 _ [.ref (na k), .int (nI (k + 1)), .ref ar] h1 _
      refine rx_aastore (r := ("ScoreRoads$Note", F_Note, 6)) d_Notes_add_45 (by rfl) ha hi1 (by rfl) (vp_in_nI (by omega) (by omega)) ?_
      rw [i_cl (by omega)]
      refine rx_iinc (v := nI k) d_Notes_add_46 (by rfl) (pk_m1 k) ?_
      refine rx_goto (tgt := 13) d_Notes_add_49 (by rfl) ?_
      refine ih _ _ (by omega) (fun j => ?_) (rx_rd_wr ha) (hf.tr (rx_fr.wr ha rfl))
      rw [up_va]
      by_cases e : j = k + 1
      · rw [e, up_s, if_pos (by omega)]
        exact (hN.2.2.1 k (by omega)).symm
      · rw [up_o e, hf1 j]
        by_cases c : k + 1 < j ∧ j ≤ num
        · rw [if_pos c, if_pos (by omega)]
        · rw [if_neg c, if_neg (by omega)]
theorem c_add (hN : is_nt V h aN ar num f na NS) (h40 : num < 40) (hq : rx_rd V h q = some (ncl X)) : rx_C V (d + 1) kc ks m_Notes_add [.ref aN, .ref q] h (fun r9 h' => r9 = .inl none ∧ ∃ f', is_nt V h' aN ar (num + 1) f' (ins na (plc NS X num) q) (ins NS (plc NS X num) X) ∧ rx_fr V h h' (fun x => x = aN ∨ x = ar)) := by
  refine rx_aload_nr d_Notes_add_0 (by rfl) ?_
  refine rx_cV d_Notes_add_1 (by rfl) ml_Notes_21 im_Notes_isFull se_Notes_isFull (by exact c9_Notes_isFull) hN.1 (by rfl) (by exact Nat.le_of_ble_eq_true rfl) (c_isFull hN) ?_
  rw [if_neg (by omega)]
  refine rx_if_eq (tgt := 8) d_Notes_add_4 (by rfl) (fun c4 => ?_) (fun z => absurd rfl z)
  refine rx_aload_nr d_Notes_add_8 (by rfl) ?_
  refine rx_getfield d_Notes_add_9 fl_Notes_17 hN.1 (by rfl) ?_
  refine rx_istore_n d_Notes_add_12 (Nat.le_of_ble_eq_true rfl) ?_
  exact l_add13 hN h40 hq num h f (Nat.le_refl _) (fun j => by rw [if_neg (by omega)]) hN.2.1 rx_fr.rf
theorem is_nt.set (hN : is_nt V h aN ar num f na NS) (hna : ∀ i j, i < num → j < num → na i = na j → i = j) {i : Nat} (hi : i < num) {Y : Nat → Int32} {NS' : Nat → Nat → Int32} (h1 : ∀ k, k < 6 → NS' i k = Y k) (h2 : ∀ j, j ≠ i → NS' j = NS j) : is_nt V (rx_wr V h (na i) (ncl Y)) aN ar num f na NS' := by
  obtain ⟨n1, n2, n3, n4, n5⟩ := hN
  have hc := n4 i hi
  refine ⟨(rx_rd_wn hc (rx_ne n1 hc (fun z => by cases z))).trans n1, (rx_rd_wn hc (rx_ne n2 hc (fun z => by cases z))).trans n2, n3, fun j hj => ?_, n5⟩
  by_cases e : j = i
  · subst e
    rw [rx_rd_wr hc]
    unfold ncl
    rw [h1 0 (by omega), h1 1 (by omega), h1 2 (by omega), h1 3 (by omega), h1 4 (by omega), h1 5 (by omega)]
  · rw [rx_rd_wn hc (fun z => e (hna j i hj hi z)), n4 j hj, h2 j e]
def shf (NS : Nat → Nat → Int32) (p st : Int32) (m : Nat) : Nat → Nat → Int32 := fun j k => if j < m ∧ k = 4 ∧ NS j 0 = p then NS j 4 + st else NS j k
def ctp (NS : Nat → Nat → Int32) (p : Int32) (c : Int32) (i : Nat) : Int32 := if NS i 0 = p then c + 1 else c
def fp_na (num : Nat) (na : Nat → Nat) : Nat → Prop := fun x => ∃ i, i < num ∧ x = na i
theorem l_shift (hna : ∀ i j, i < num → j < num → na i = na j → i = j) (p st : Int32) : ∀ (m i : Nat) (c : Int32) (h1 : List va_E), i + m = num → is_nt V h1 aN ar num f na (shf NS p st i) → rx_fr V h h1 (fp_na num na) → rx_W V d kc ks m_Notes_shift 5 [some (.ref aN), some (.int p), some (.int st), some (.int c), some (.int (nI i))] [] h1 (fun r9 h' => r9 = .inl (some (.int (ffo (ctp NS p) c i m))) ∧ is_nt V h' aN ar num f na (shf NS p st num) ∧ rx_fr V h h' (fp_na num na)) := by
  intro m
  induction m with
  | zero =>
    intro i c h1 hi hN hf
    have e : i = num := by omega
    subst e
    refine rx_iload d_Notes_shift_5 (by rfl) ?_
    refine rx_aload_nr d_Notes_shift_7 (by rfl) ?_
    refine rx_getfield d_Notes_shift_8 fl_Notes_17 hN.1 (by rfl) ?_
    refine rx_icmp_ge (tgt := 53) d_Notes_shift_11 (by rfl) (fun c11 => ?_) (fun z => absurd (Int32.le_refl _) z)
    refine rx_iload_n d_Notes_shift_53 (by rfl) ?_
    refine rx_ireturn d_Notes_shift_54 (by rfl) ?_
    exact ⟨rfl, hN, hf⟩
  | succ m ih =>
    intro i c h1 hi hN hf
    have h40 : num ≤ 40 := hN.2.2.2.2
    have hlt : i < num := by omega
    have hc := hN.2.2.2.1 i hlt
    have z0 : shf NS p st i i 0 = NS i 0 := if_neg (fun z => by omega)
    have z4 : shf NS p st i i 4 = NS i 4 := if_neg (fun z => by omega)
    have zo : ∀ j, j ≠ i → shf NS p st (i + 1) j = shf NS p st i j := by
      intro j hj
      funext k
      unfold shf
      by_cases c : j < i ∧ k = 4 ∧ NS j 0 = p
      · rw [if_pos c, if_pos ⟨by omega, c.2⟩]
      · rw [if_neg c, if_neg (fun z => c ⟨by omega, z.2⟩)]
    refine rx_iload d_Notes_shift_5 (by rfl) ?_
    refine rx_aload_nr d_Notes_shift_7 (by rfl) ?_
    refine rx_getfield d_Notes_shift_8 fl_Notes_17 hN.1 (by rfl) ?_
    refine rx_icmp_ge (tgt := 53) d_Notes_shift_11 (by rfl) (fun z => absurd z (nI_ge hlt (by omega))) (fun c11 => ?_)
    refine rx_aload_nr d_Notes_shift_14 (by rfl) ?_
    refine rx_getfield d_Notes_shift_15 fl_Notes_11 hN.1 (by rfl) ?_
    refine rx_iload d_Notes_shift_18 (by rfl) ?_
    refine rx_aaload d_Notes_shift_20 (by rfl) hN.2.1 (vp_in_nI (by omega) (by omega)) ?_
    rw [i_cl (by omega), hN.2.2.1 i hlt]
    refine rx_getfield d_Notes_shift_21 fl_Notes_56 hc (by rfl) ?_
    rw [z0]
    refine rx_iload_n d_Notes_shift_24 (by rfl) ?_
    refine rx_icmp_ne (tgt := 47) d_Notes_shift_25 (by rfl) (fun c25 => ?_) (fun c25 => ?_)
    · have hs : ctp NS p c i = c := if_neg c25
      have hN2 : is_nt V h1 aN ar num f na (shf NS p st (i + 1)) := by
        have e : shf NS p st (i + 1) = shf NS p st i := by
          funext j
          by_cases w : j = i
          · subst w
            funext k
            unfold shf
            rw [if_neg (fun z => c25 z.2.2), if_neg (fun z => c25 z.2.2)]
          · exact zo j w
        rw [e]; exact hN
      have hf2 := hf
      refine rx_iinc (v := nI (i + 1)) d_Notes_shift_47 (by rfl) (i_inc i) ?_
      refine rx_goto (tgt := 5) d_Notes_shift_50 (by rfl) ?_
      have z := ih (i + 1) (ctp NS p c i) _ (by omega) hN2 hf2
      rw [hs] at z
      show rx_W V d kc ks m_Notes_shift 5 _ [] _ (fun r9 h' => r9 = .inl (some (.int (ffo (ctp NS p) (ctp NS p c i) (i + 1) m))) ∧ is_nt V h' aN ar num f na (shf NS p st num) ∧ rx_fr V h h' (fp_na num na))
      rw [hs]
      exact z
    · have hs : ctp NS p c i = c + 1 := if_pos c25
      refine rx_aload_nr d_Notes_shift_28 (by rfl) ?_
      refine rx_getfield d_Notes_shift_29 fl_Notes_11 hN.1 (by rfl) ?_
      refine rx_iload d_Notes_shift_32 (by rfl) ?_
      refine rx_aaload d_Notes_shift_34 (by rfl) hN.2.1 (vp_in_nI (by omega) (by omega)) ?_
      rw [i_cl (by omega), hN.2.2.1 i hlt]
      refine rx_dup d_Notes_shift_35 (by rfl) ?_
      refine rx_getfield d_Notes_shift_36 fl_Notes_40 hc (by rfl) ?_
      rw [z4]
      refine rx_iload_n d_Notes_shift_39 (by rfl) ?_
      refine rx_iadd d_Notes_shift_40 ?_
      refine rx_putfield d_Notes_shift_41 (fw_Notes_40 rfl) hc (Nat.le_of_ble_eq_true rfl) (by rfl) (by rfl) ?_
      have hN2 := hN.set hna hlt (Y := upd (shf NS p st i i) 4 (NS i 4 + st)) (NS' := shf NS p st (i + 1)) (fun k hk => by
        rw [up_upd]
        by_cases w : k = 4
        · rw [w, up_s]; exact if_pos ⟨by omega, rfl, c25⟩
        · rw [up_o w]
          unfold shf
          rw [if_neg (fun z => w z.2.1), if_neg (fun z => w z.2.1)]) zo
      have hf2 := hf.tr (rx_fr.wr (e := ncl (upd (shf NS p st i i) 4 (NS i 4 + st))) hc ⟨i, hlt, rfl⟩)
      refine rx_iinc d_Notes_shift_44 (by rfl) (by rfl) ?_
      refine rx_iinc (v := nI (i + 1)) d_Notes_shift_47 (by rfl) (i_inc i) ?_
      refine rx_goto (tgt := 5) d_Notes_shift_50 (by rfl) ?_
      have z := ih (i + 1) (ctp NS p c i) _ (by omega) hN2 hf2
      rw [hs] at z
      show rx_W V d kc ks m_Notes_shift 5 _ [] _ (fun r9 h' => r9 = .inl (some (.int (ffo (ctp NS p) (ctp NS p c i) (i + 1) m))) ∧ is_nt V h' aN ar num f na (shf NS p st num) ∧ rx_fr V h h' (fp_na num na))
      rw [hs]
      exact z
theorem c_shift (hN : is_nt V h aN ar num f na NS) (hna : ∀ i j, i < num → j < num → na i = na j → i = j) (p st : Int32) : rx_C V d kc ks m_Notes_shift [.ref aN, .int p, .int st] h (fun r9 h' => r9 = .inl (some (.int (ffo (ctp NS p) 0 0 num))) ∧ is_nt V h' aN ar num f na (shf NS p st num) ∧ rx_fr V h h' (fp_na num na)) := by
  refine rx_iconst (v := 0) d_Notes_shift_0 (by decide) ?_
  refine rx_istore_n d_Notes_shift_1 (Nat.le_of_ble_eq_true rfl) ?_
  refine rx_iconst (v := 0) d_Notes_shift_2 (by decide) ?_
  refine rx_istore d_Notes_shift_3 (Nat.le_of_ble_eq_true rfl) ?_
  exact l_shift hna p st num 0 0 h (by omega) (by rw [show shf NS p st 0 = NS from by funext j k; exact if_neg (fun z => by omega)]; exact hN) rx_fr.rf
theorem is_pg.le (hp : is_pg V h a n al at_ av Le Te Va) (hd : al ≠ at_ ∧ al ≠ av ∧ at_ ≠ av) {f' : Nat → Int32} : is_pg V (rx_wr V h al (.inl (V.2.2.2.1 0, n, .inl f'))) a n al at_ av f' Te Va :=
  ⟨(rx_rd_wn hp.2.1 (rx_ne hp.1 hp.2.1 (fun z => by cases z))).trans hp.1, rx_rd_wr hp.2.1, (rx_rd_wn hp.2.1 (Ne.symm hd.1)).trans hp.2.2.1, (rx_rd_wn hp.2.1 (Ne.symm hd.2.1)).trans hp.2.2.2.1, hp.2.2.2.2⟩
theorem is_pg.te (hp : is_pg V h a n al at_ av Le Te Va) (hd : al ≠ at_ ∧ al ≠ av ∧ at_ ≠ av) {f' : Nat → Int32} : is_pg V (rx_wr V h at_ (.inl (V.2.2.2.1 0, n, .inl f'))) a n al at_ av Le f' Va :=
  ⟨(rx_rd_wn hp.2.2.1 (rx_ne hp.1 hp.2.2.1 (fun z => by cases z))).trans hp.1, (rx_rd_wn hp.2.2.1 hd.1).trans hp.2.1, rx_rd_wr hp.2.2.1, (rx_rd_wn hp.2.2.1 (Ne.symm hd.2.2)).trans hp.2.2.2.1, hp.2.2.2.2⟩
theorem is_pg.va (hp : is_pg V h a n al at_ av Le Te Va) (hd : al ≠ at_ ∧ al ≠ av ∧ at_ ≠ av) {f' : Nat → Int32} : is_pg V (rx_wr V h av (.inl (V.2.2.2.1 0, 10 * n, .inl f'))) a n al at_ av Le Te f' :=
  ⟨(rx_rd_wn hp.2.2.2.1 (rx_ne hp.1 hp.2.2.2.1 (fun z => by cases z))).trans hp.1, (rx_rd_wn hp.2.2.2.1 hd.2.1).trans hp.2.1, (rx_rd_wn hp.2.2.2.1 hd.2.2).trans hp.2.2.1, rx_rd_wr hp.2.2.2.1, hp.2.2.2.2⟩
theorem c_shape (hp : is_pg V h a n al at_ av Le Te Va) (hd : al ≠ at_ ∧ al ≠ av ∧ at_ ≠ av) {b : Nat} (hb9 : b < n) (l t : Int32) : rx_C V (d + 1) kc ks m_Page_shape [.ref a, .int (nI b), .int l, .int t] h (fun r9 h' => r9 = .inl none ∧ is_pg V h' a n al at_ av (up Le b l) (up Te b t) Va ∧ rx_fr V h h' (fun x => x = al ∨ x = at_ ∨ x = av)) := by
  have hn : n ≤ 20 := hp.2.2.2.2
  refine rx_aload_nr d_Page_shape_0 (by rfl) ?_
  refine rx_iload_n d_Page_shape_1 (by rfl) ?_
  refine rx_cV d_Page_shape_2 (by rfl) ml_Page_31 im_Page_hasBar se_Page_hasBar (by exact c9_Page_hasBar) hp.1 (by rfl) (by exact Nat.le_of_ble_eq_true rfl) (c_hasBar hp (nI b)) ?_
  rw [pgh_nn hn hb9]
  refine rx_if_eq (tgt := 22) d_Page_shape_5 (by rfl) (fun z => absurd z (by decide)) (fun c5 => ?_)
  refine rx_aload_nr d_Page_shape_8 (by rfl) ?_
  refine rx_getfield d_Page_shape_9 fl_Page_15 hp.1 (by rfl) ?_
  refine rx_iload_n d_Page_shape_12 (by rfl) ?_
  refine rx_iload_n d_Page_shape_13 (by rfl) ?_
  refine rx_iastore d_Page_shape_14 (by rfl) hp.2.1 (vp_in_nI hb9 (by omega)) ?_
  rw [i_cl (by omega)]
  have hp1 := hp.le hd (f' := upd Le b l)
  refine rx_aload_nr d_Page_shape_15 (by rfl) ?_
  refine rx_getfield d_Page_shape_16 fl_Page_19 hp1.1 (by rfl) ?_
  refine rx_iload_n d_Page_shape_19 (by rfl) ?_
  refine rx_iload_n d_Page_shape_20 (by rfl) ?_
  refine rx_iastore d_Page_shape_21 (by rfl) hp1.2.2.1 (vp_in_nI hb9 (by omega)) ?_
  rw [i_cl (by omega)]
  refine rx_vreturn d_Page_shape_22 (by rfl) ?_
  exact ⟨rfl, hp1.te hd, (rx_fr.wr hp.2.1 (Or.inl rfl)).tr (rx_fr.wr hp1.2.2.1 (Or.inr (Or.inl rfl)))⟩
theorem c_put (hp : is_pg V h a n al at_ av Le Te Va) (hd : al ≠ at_ ∧ al ≠ av ∧ at_ ≠ av) {b k : Nat} (hb9 : b < n) (hk : k < 10) (v : Int32) : rx_C V (d + 2) kc ks m_Page_put [.ref a, .int (nI b), .int (nI k), .int v] h (fun r9 h' => r9 = .inl none ∧ is_pg V h' a n al at_ av Le Te (up Va (10 * b + k) v) ∧ rx_fr V h h' (fun x => x = al ∨ x = at_ ∨ x = av)) := by
  have hn : n ≤ 20 := hp.2.2.2.2
  have hw : ¬ iwn (nI k) 0 9 = 0 := by
    unfold iwn
    rw [if_pos ⟨nI_pos' (by omega), show nI k ≤ nI 9 from nI_le (by omega) (by omega)⟩]; decide
  have e : nI b * 10 + nI k = nI (10 * b + k) := by rw [show (10 : Int32) = nI 10 from rfl, pk_mul, nI_add, Nat.mul_comm]
  refine rx_aload_nr d_Page_put_0 (by rfl) ?_
  refine rx_iload_n d_Page_put_1 (by rfl) ?_
  refine rx_cV d_Page_put_2 (by rfl) ml_Page_31 im_Page_hasBar se_Page_hasBar (by exact c9_Page_hasBar) hp.1 (by rfl) (by exact Nat.le_of_ble_eq_true rfl) (c_hasBar hp (nI b)) ?_
  rw [pgh_nn hn hb9]
  refine rx_if_eq (tgt := 27) d_Page_put_5 (by rfl) (fun z => absurd z (by decide)) (fun c5 => ?_)
  refine rx_iload_n d_Page_put_8 (by rfl) ?_
  refine rx_cSN d_Page_put_9 ml_Page_35 st_SR_isKind (by exact c9_SR_isKind) (by rfl) (by exact Nat.le_of_ble_eq_true rfl) (c_isKind (nI k)) ?_
  refine rx_if_eq (tgt := 27) d_Page_put_12 (by rfl) (fun z => absurd z hw) (fun c12 => ?_)
  refine rx_aload_nr d_Page_put_15 (by rfl) ?_
  refine rx_getfield d_Page_put_16 fl_Page_22 hp.1 (by rfl) ?_
  refine rx_iload_n d_Page_put_19 (by rfl) ?_
  refine rx_bipush (v := 10) d_Page_put_20 (by decide) ?_
  refine rx_imul d_Page_put_22 ?_
  refine rx_iload_n d_Page_put_23 (by rfl) ?_
  refine rx_iadd d_Page_put_24 ?_
  rw [e]
  refine rx_iload_n d_Page_put_25 (by rfl) ?_
  refine rx_iastore d_Page_put_26 (by rfl) hp.2.2.2.1 (vp_in_nI (by omega) (by omega)) ?_
  rw [i_cl (by omega)]
  refine rx_vreturn d_Page_put_27 (by rfl) ?_
  exact ⟨rfl, hp.va hd, rx_fr.wr hp.2.2.2.1 (Or.inr (Or.inr rfl))⟩
def copen (n : Nat) (Va : Nat → Int32) (b : Int32) : Prop := (¬ pgv n Va b 0 = 0 ∨ ¬ pgv n Va b 2 = 0 ∨ ¬ pgv n Va b 3 = 0 ∨ ¬ pgv n Va b 4 = 0 ∨ ¬ pgv n Va b 8 = 0)
theorem c_opensCut (hp : is_pg V h a n al at_ av Le Te Va) (b : Int32) : rx_C V (d + 2) kc ks m_Page_opensCut [.ref a, .int b] h (rx_X (.inl (some (.int (bP (copen n Va b))))) h) := by
  refine rx_aload_nr d_Page_opensCut_0 (by rfl) ?_
  refine rx_iload_n d_Page_opensCut_1 (by rfl) ?_
  refine rx_iconst (v := 0) d_Page_opensCut_2 (by decide) ?_
  refine rx_cV d_Page_opensCut_3 (by rfl) ml_Page_63 im_Page_has se_Page_has (by exact c9_Page_has) hp.1 (by rfl) (by exact Nat.le_of_ble_eq_true rfl) (c_has hp b 0) ?_
  refine rx_if_ne (tgt := 46) d_Page_opensCut_6 (by rfl) (fun c6 => ?_) (fun c6 => ?_)
  · have z : copen n Va b := Or.inl (fun w => c6 (if_pos w))
    refine rx_iconst (v := 1) d_Page_opensCut_46 (by decide) ?_
    refine rx_goto (tgt := 51) d_Page_opensCut_47 (by rfl) ?_
    refine rx_zreturn d_Page_opensCut_51 (by rfl) (by rfl) ?_
    exact ⟨by first | (rw [bP_t z]; done) | (rw [bP_f z]; done), rfl⟩
  · refine rx_aload_nr d_Page_opensCut_9 (by rfl) ?_
    refine rx_iload_n d_Page_opensCut_10 (by rfl) ?_
    refine rx_iconst (v := 2) d_Page_opensCut_11 (by decide) ?_
    refine rx_cV d_Page_opensCut_12 (by rfl) ml_Page_63 im_Page_has se_Page_has (by exact c9_Page_has) hp.1 (by rfl) (by exact Nat.le_of_ble_eq_true rfl) (c_has hp b 2) ?_
    refine rx_if_ne (tgt := 46) d_Page_opensCut_15 (by rfl) (fun c15 => ?_) (fun c15 => ?_)
    · have z : copen n Va b := Or.inr (Or.inl (fun w => c15 (if_pos w)))
      refine rx_iconst (v := 1) d_Page_opensCut_46 (by decide) ?_
      refine rx_goto (tgt := 51) d_Page_opensCut_47 (by rfl) ?_
      refine rx_zreturn d_Page_opensCut_51 (by rfl) (by rfl) ?_
      exact ⟨by first | (rw [bP_t z]; done) | (rw [bP_f z]; done), rfl⟩
    · refine rx_aload_nr d_Page_opensCut_18 (by rfl) ?_
      refine rx_iload_n d_Page_opensCut_19 (by rfl) ?_
      refine rx_iconst (v := 3) d_Page_opensCut_20 (by decide) ?_
      refine rx_cV d_Page_opensCut_21 (by rfl) ml_Page_63 im_Page_has se_Page_has (by exact c9_Page_has) hp.1 (by rfl) (by exact Nat.le_of_ble_eq_true rfl) (c_has hp b 3) ?_
      refine rx_if_ne (tgt := 46) d_Page_opensCut_24 (by rfl) (fun c24 => ?_) (fun c24 => ?_)
      · have z : copen n Va b := Or.inr (Or.inr (Or.inl (fun w => c24 (if_pos w))))
        refine rx_iconst (v := 1) d_Page_opensCut_46 (by decide) ?_
        refine rx_goto (tgt := 51) d_Page_opensCut_47 (by rfl) ?_
        refine rx_zreturn d_Page_opensCut_51 (by rfl) (by rfl) ?_
        exact ⟨by first | (rw [bP_t z]; done) | (rw [bP_f z]; done), rfl⟩
      · refine rx_aload_nr d_Page_opensCut_27 (by rfl) ?_
        refine rx_iload_n d_Page_opensCut_28 (by rfl) ?_
        refine rx_iconst (v := 4) d_Page_opensCut_29 (by decide) ?_
        refine rx_cV d_Page_opensCut_30 (by rfl) ml_Page_63 im_Page_has se_Page_has (by exact c9_Page_has) hp.1 (by rfl) (by exact Nat.le_of_ble_eq_true rfl) (c_has hp b 4) ?_
        refine rx_if_ne (tgt := 46) d_Page_opensCut_33 (by rfl) (fun c33 => ?_) (fun c33 => ?_)
        · have z : copen n Va b := Or.inr (Or.inr (Or.inr (Or.inl (fun w => c33 (if_pos w)))))
          refine rx_iconst (v := 1) d_Page_opensCut_46 (by decide) ?_
          refine rx_goto (tgt := 51) d_Page_opensCut_47 (by rfl) ?_
          refine rx_zreturn d_Page_opensCut_51 (by rfl) (by rfl) ?_
          exact ⟨by first | (rw [bP_t z]; done) | (rw [bP_f z]; done), rfl⟩
        · refine rx_aload_nr d_Page_opensCut_36 (by rfl) ?_
          refine rx_iload_n d_Page_opensCut_37 (by rfl) ?_
          refine rx_bipush (v := 8) d_Page_opensCut_38 (by decide) ?_
          refine rx_cV d_Page_opensCut_40 (by rfl) ml_Page_63 im_Page_has se_Page_has (by exact c9_Page_has) hp.1 (by rfl) (by exact Nat.le_of_ble_eq_true rfl) (c_has hp b 8) ?_
          refine rx_if_eq (tgt := 50) d_Page_opensCut_43 (by rfl) (fun c43 => ?_) (fun c43 => ?_)
          · have z : ¬ copen n Va b := by
              rintro (w | w | w | w | w)
              · exact w (ite01.mp c6)
              · exact w (ite01.mp c15)
              · exact w (ite01.mp c24)
              · exact w (ite01.mp c33)
              · exact w (ite01.mp c43)
            refine rx_iconst (v := 0) d_Page_opensCut_50 (by decide) ?_
            refine rx_zreturn d_Page_opensCut_51 (by rfl) (by rfl) ?_
            exact ⟨by first | (rw [bP_t z]; done) | (rw [bP_f z]; done), rfl⟩
          · have z : copen n Va b := Or.inr (Or.inr (Or.inr (Or.inr ((fun w => c43 (if_pos w))))))
            refine rx_iconst (v := 1) d_Page_opensCut_46 (by decide) ?_
            refine rx_goto (tgt := 51) d_Page_opensCut_47 (by rfl) ?_
            refine rx_zreturn d_Page_opensCut_51 (by rfl) (by rfl) ?_
            exact ⟨by first | (rw [bP_t z]; done) | (rw [bP_f z]; done), rfl⟩
def cclos (n : Nat) (Va : Nat → Int32) (b : Int32) : Prop := (¬ pgv n Va b 1 = 0 ∨ ¬ pgv n Va b 5 = 0 ∨ ¬ pgv n Va b 6 = 0 ∨ ¬ pgv n Va b 7 = 0 ∨ ¬ pgv n Va b 9 = 0)
theorem c_closesCut (hp : is_pg V h a n al at_ av Le Te Va) (b : Int32) : rx_C V (d + 2) kc ks m_Page_closesCut [.ref a, .int b] h (rx_X (.inl (some (.int (bP (cclos n Va b))))) h) := by
  refine rx_aload_nr d_Page_closesCut_0 (by rfl) ?_
  refine rx_iload_n d_Page_closesCut_1 (by rfl) ?_
  refine rx_iconst (v := 1) d_Page_closesCut_2 (by decide) ?_
  refine rx_cV d_Page_closesCut_3 (by rfl) ml_Page_63 im_Page_has se_Page_has (by exact c9_Page_has) hp.1 (by rfl) (by exact Nat.le_of_ble_eq_true rfl) (c_has hp b 1) ?_
  refine rx_if_ne (tgt := 48) d_Page_closesCut_6 (by rfl) (fun c6 => ?_) (fun c6 => ?_)
  · have z : cclos n Va b := Or.inl (fun w => c6 (if_pos w))
    refine rx_iconst (v := 1) d_Page_closesCut_48 (by decide) ?_
    refine rx_goto (tgt := 53) d_Page_closesCut_49 (by rfl) ?_
    refine rx_zreturn d_Page_closesCut_53 (by rfl) (by rfl) ?_
    exact ⟨by first | (rw [bP_t z]; done) | (rw [bP_f z]; done), rfl⟩
  · refine rx_aload_nr d_Page_closesCut_9 (by rfl) ?_
    refine rx_iload_n d_Page_closesCut_10 (by rfl) ?_
    refine rx_iconst (v := 5) d_Page_closesCut_11 (by decide) ?_
    refine rx_cV d_Page_closesCut_12 (by rfl) ml_Page_63 im_Page_has se_Page_has (by exact c9_Page_has) hp.1 (by rfl) (by exact Nat.le_of_ble_eq_true rfl) (c_has hp b 5) ?_
    refine rx_if_ne (tgt := 48) d_Page_closesCut_15 (by rfl) (fun c15 => ?_) (fun c15 => ?_)
    · have z : cclos n Va b := Or.inr (Or.inl (fun w => c15 (if_pos w)))
      refine rx_iconst (v := 1) d_Page_closesCut_48 (by decide) ?_
      refine rx_goto (tgt := 53) d_Page_closesCut_49 (by rfl) ?_
      refine rx_zreturn d_Page_closesCut_53 (by rfl) (by rfl) ?_
      exact ⟨by first | (rw [bP_t z]; done) | (rw [bP_f z]; done), rfl⟩
    · refine rx_aload_nr d_Page_closesCut_18 (by rfl) ?_
      refine rx_iload_n d_Page_closesCut_19 (by rfl) ?_
      refine rx_bipush (v := 6) d_Page_closesCut_20 (by decide) ?_
      refine rx_cV d_Page_closesCut_22 (by rfl) ml_Page_63 im_Page_has se_Page_has (by exact c9_Page_has) hp.1 (by rfl) (by exact Nat.le_of_ble_eq_true rfl) (c_has hp b 6) ?_
      refine rx_if_ne (tgt := 48) d_Page_closesCut_25 (by rfl) (fun c25 => ?_) (fun c25 => ?_)
      · have z : cclos n Va b := Or.inr (Or.inr (Or.inl (fun w => c25 (if_pos w))))
        refine rx_iconst (v := 1) d_Page_closesCut_48 (by decide) ?_
        refine rx_goto (tgt := 53) d_Page_closesCut_49 (by rfl) ?_
        refine rx_zreturn d_Page_closesCut_53 (by rfl) (by rfl) ?_
        exact ⟨by first | (rw [bP_t z]; done) | (rw [bP_f z]; done), rfl⟩
      · refine rx_aload_nr d_Page_closesCut_28 (by rfl) ?_
        refine rx_iload_n d_Page_closesCut_29 (by rfl) ?_
        refine rx_bipush (v := 7) d_Page_closesCut_30 (by decide) ?_
        refine rx_cV d_Page_closesCut_32 (by rfl) ml_Page_63 im_Page_has se_Page_has (by exact c9_Page_has) hp.1 (by rfl) (by exact Nat.le_of_ble_eq_true rfl) (c_has hp b 7) ?_
        refine rx_if_ne (tgt := 48) d_Page_closesCut_35 (by rfl) (fun c35 => ?_) (fun c35 => ?_)
        · have z : cclos n Va b := Or.inr (Or.inr (Or.inr (Or.inl (fun w => c35 (if_pos w)))))
          refine rx_iconst (v := 1) d_Page_closesCut_48 (by decide) ?_
          refine rx_goto (tgt := 53) d_Page_closesCut_49 (by rfl) ?_
          refine rx_zreturn d_Page_closesCut_53 (by rfl) (by rfl) ?_
          exact ⟨by first | (rw [bP_t z]; done) | (rw [bP_f z]; done), rfl⟩
        · refine rx_aload_nr d_Page_closesCut_38 (by rfl) ?_
          refine rx_iload_n d_Page_closesCut_39 (by rfl) ?_
          refine rx_bipush (v := 9) d_Page_closesCut_40 (by decide) ?_
          refine rx_cV d_Page_closesCut_42 (by rfl) ml_Page_63 im_Page_has se_Page_has (by exact c9_Page_has) hp.1 (by rfl) (by exact Nat.le_of_ble_eq_true rfl) (c_has hp b 9) ?_
          refine rx_if_eq (tgt := 52) d_Page_closesCut_45 (by rfl) (fun c45 => ?_) (fun c45 => ?_)
          · have z : ¬ cclos n Va b := by
              rintro (w | w | w | w | w)
              · exact w (ite01.mp c6)
              · exact w (ite01.mp c15)
              · exact w (ite01.mp c25)
              · exact w (ite01.mp c35)
              · exact w (ite01.mp c45)
            refine rx_iconst (v := 0) d_Page_closesCut_52 (by decide) ?_
            refine rx_zreturn d_Page_closesCut_53 (by rfl) (by rfl) ?_
            exact ⟨by first | (rw [bP_t z]; done) | (rw [bP_f z]; done), rfl⟩
          · have z : cclos n Va b := Or.inr (Or.inr (Or.inr (Or.inr ((fun w => c45 (if_pos w))))))
            refine rx_iconst (v := 1) d_Page_closesCut_48 (by decide) ?_
            refine rx_goto (tgt := 53) d_Page_closesCut_49 (by rfl) ?_
            refine rx_zreturn d_Page_closesCut_53 (by rfl) (by rfl) ?_
            exact ⟨by first | (rw [bP_t z]; done) | (rw [bP_f z]; done), rfl⟩
theorem c_isCutBefore (hp : is_pg V h a n al at_ av Le Te Va) (b : Int32) : rx_C V (d + 3) kc ks m_Page_isCutBefore [.ref a, .int b] h (rx_X (.inl (some (.int (bP (copen n Va b ∨ cclos n Va (b - 1) ∨ ¬ pgl n Le b = pgl n Le (b - 1)))))) h) := by
  refine rx_aload_nr d_Page_isCutBefore_0 (by rfl) ?_
  refine rx_iload_n d_Page_isCutBefore_1 (by rfl) ?_
  refine rx_cV d_Page_isCutBefore_2 (by rfl) ml_Page_54 im_Page_opensCut se_Page_opensCut (by exact c9_Page_opensCut) hp.1 (by rfl) (by exact Nat.le_of_ble_eq_true rfl) (c_opensCut hp b) ?_
  refine rx_if_ne (tgt := 33) d_Page_isCutBefore_5 (by rfl) (fun c5 => ?_) (fun c5 => ?_)
  · have z : (copen n Va b ∨ cclos n Va (b - 1) ∨ ¬ pgl n Le b = pgl n Le (b - 1)) := Or.inl (bP_1.mp c5)
    refine rx_iconst (v := 1) d_Page_isCutBefore_33 (by decide) ?_
    refine rx_goto (tgt := 38) d_Page_isCutBefore_34 (by rfl) ?_
    refine rx_zreturn d_Page_isCutBefore_38 (by rfl) (by rfl) ?_
    exact ⟨by first | (rw [bP_t z]; done) | (rw [bP_f z]; done), rfl⟩
  · refine rx_aload_nr d_Page_isCutBefore_8 (by rfl) ?_
    refine rx_iload_n d_Page_isCutBefore_9 (by rfl) ?_
    refine rx_iconst (v := 1) d_Page_isCutBefore_10 (by decide) ?_
    refine rx_isub d_Page_isCutBefore_11 ?_
    refine rx_cV d_Page_isCutBefore_12 (by rfl) ml_Page_57 im_Page_closesCut se_Page_closesCut (by exact c9_Page_closesCut) hp.1 (by rfl) (by exact Nat.le_of_ble_eq_true rfl) (c_closesCut hp (b - 1)) ?_
    refine rx_if_ne (tgt := 33) d_Page_isCutBefore_15 (by rfl) (fun c15 => ?_) (fun c15 => ?_)
    · have z : (copen n Va b ∨ cclos n Va (b - 1) ∨ ¬ pgl n Le b = pgl n Le (b - 1)) := Or.inr (Or.inl (bP_1.mp c15))
      refine rx_iconst (v := 1) d_Page_isCutBefore_33 (by decide) ?_
      refine rx_goto (tgt := 38) d_Page_isCutBefore_34 (by rfl) ?_
      refine rx_zreturn d_Page_isCutBefore_38 (by rfl) (by rfl) ?_
      exact ⟨by first | (rw [bP_t z]; done) | (rw [bP_f z]; done), rfl⟩
    · refine rx_aload_nr d_Page_isCutBefore_18 (by rfl) ?_
      refine rx_iload_n d_Page_isCutBefore_19 (by rfl) ?_
      refine rx_cV d_Page_isCutBefore_20 (by rfl) ml_Page_60 im_Page_lengthOf se_Page_lengthOf (by exact c9_Page_lengthOf) hp.1 (by rfl) (by exact Nat.le_of_ble_eq_true rfl) (c_lengthOf hp b) ?_
      refine rx_aload_nr d_Page_isCutBefore_23 (by rfl) ?_
      refine rx_iload_n d_Page_isCutBefore_24 (by rfl) ?_
      refine rx_iconst (v := 1) d_Page_isCutBefore_25 (by decide) ?_
      refine rx_isub d_Page_isCutBefore_26 ?_
      refine rx_cV d_Page_isCutBefore_27 (by rfl) ml_Page_60 im_Page_lengthOf se_Page_lengthOf (by exact c9_Page_lengthOf) hp.1 (by rfl) (by exact Nat.le_of_ble_eq_true rfl) (c_lengthOf hp (b - 1)) ?_
      refine rx_icmp_eq (tgt := 37) d_Page_isCutBefore_30 (by rfl) (fun c30 => ?_) (fun c30 => ?_)
      · have z : ¬ (copen n Va b ∨ cclos n Va (b - 1) ∨ ¬ pgl n Le b = pgl n Le (b - 1)) := fun w => w.elim (bP_0.mp c5) (fun w => w.elim (bP_0.mp c15) (fun w => w c30))
        refine rx_iconst (v := 0) d_Page_isCutBefore_37 (by decide) ?_
        refine rx_zreturn d_Page_isCutBefore_38 (by rfl) (by rfl) ?_
        exact ⟨by first | (rw [bP_t z]; done) | (rw [bP_f z]; done), rfl⟩
      · have z : (copen n Va b ∨ cclos n Va (b - 1) ∨ ¬ pgl n Le b = pgl n Le (b - 1)) := Or.inr (Or.inr c30)
        refine rx_iconst (v := 1) d_Page_isCutBefore_33 (by decide) ?_
        refine rx_goto (tgt := 38) d_Page_isCutBefore_34 (by rfl) ?_
        refine rx_zreturn d_Page_isCutBefore_38 (by rfl) (by rfl) ?_
        exact ⟨by first | (rw [bP_t z]; done) | (rw [bP_f z]; done), rfl⟩
end N3
end
