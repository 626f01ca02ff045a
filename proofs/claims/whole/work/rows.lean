section
-- ===== PART A: goes FIRST, ahead of the names: the tables' words, and 'selects' of the private methods out of them =====
/-- a private method of a class that the tables say can be made, by its rows of tables_1 -/
def lw_okq (q : MethodName × Nat) : Prop := (q.1.cls ≠ "java/lang/invoke/MethodHandle" ∧ q.1.cls ≠ "java/lang/invoke/VarHandle") ∧ Cond.instantiable q.1.cls q.2 ∈ tables_1 ∧ Cond.privateMethod q.1 ∈ tables_1 ∧ Cond.instanceMethod q.1 ∈ tables_1
theorem lw_p0 : lw_okq (⟨"UnsaidBallast$Reader", "begin", "()V"⟩, 12) := ⟨⟨by decide +kernel, by decide +kernel⟩, List.mem_of_getElem? (i := 114) (by decide +kernel), List.mem_of_getElem? (i := 264) (by decide +kernel), List.mem_of_getElem? (i := 265) (by decide +kernel)⟩
theorem lw_p1 : lw_okq (⟨"UnsaidBallast$Reader", "nextToken", "()Z"⟩, 12) := ⟨⟨by decide +kernel, by decide +kernel⟩, List.mem_of_getElem? (i := 114) (by decide +kernel), List.mem_of_getElem? (i := 268) (by decide +kernel), List.mem_of_getElem? (i := 269) (by decide +kernel)⟩
theorem lw_p2 : lw_okq (⟨"UnsaidBallast$Reader", "endOfRun", "(II)I"⟩, 12) := ⟨⟨by decide +kernel, by decide +kernel⟩, List.mem_of_getElem? (i := 114) (by decide +kernel), List.mem_of_getElem? (i := 272) (by decide +kernel), List.mem_of_getElem? (i := 273) (by decide +kernel)⟩
theorem lw_p3 : lw_okq (⟨"UnsaidBallast$Reader", "valueOf", "(II)I"⟩, 12) := ⟨⟨by decide +kernel, by decide +kernel⟩, List.mem_of_getElem? (i := 114) (by decide +kernel), List.mem_of_getElem? (i := 276) (by decide +kernel), List.mem_of_getElem? (i := 277) (by decide +kernel)⟩
theorem lw_p4 : lw_okq (⟨"UnsaidBallast$Reader", "failAt", "(II)Z"⟩, 12) := ⟨⟨by decide +kernel, by decide +kernel⟩, List.mem_of_getElem? (i := 114) (by decide +kernel), List.mem_of_getElem? (i := 280) (by decide +kernel), List.mem_of_getElem? (i := 281) (by decide +kernel)⟩
theorem lw_p5 : lw_okq (⟨"UnsaidBallast$Reader", "readLine", "(LUnsaidBallast$Flight;)Z"⟩, 12) := ⟨⟨by decide +kernel, by decide +kernel⟩, List.mem_of_getElem? (i := 114) (by decide +kernel), List.mem_of_getElem? (i := 284) (by decide +kernel), List.mem_of_getElem? (i := 285) (by decide +kernel)⟩
theorem lw_p6 : lw_okq (⟨"UnsaidBallast$Reader", "lineOfName", "()I"⟩, 12) := ⟨⟨by decide +kernel, by decide +kernel⟩, List.mem_of_getElem? (i := 114) (by decide +kernel), List.mem_of_getElem? (i := 288) (by decide +kernel), List.mem_of_getElem? (i := 289) (by decide +kernel)⟩
theorem lw_p7 : lw_okq (⟨"UnsaidBallast$Reader", "nameIs", "(Ljava/lang/String;)Z"⟩, 12) := ⟨⟨by decide +kernel, by decide +kernel⟩, List.mem_of_getElem? (i := 114) (by decide +kernel), List.mem_of_getElem? (i := 302) (by decide +kernel), List.mem_of_getElem? (i := 303) (by decide +kernel)⟩
theorem lw_p8 : lw_okq (⟨"UnsaidBallast$Reader", "readThing", "(LUnsaidBallast$Flight;I)Z"⟩, 12) := ⟨⟨by decide +kernel, by decide +kernel⟩, List.mem_of_getElem? (i := 114) (by decide +kernel), List.mem_of_getElem? (i := 354) (by decide +kernel), List.mem_of_getElem? (i := 355) (by decide +kernel)⟩
theorem lw_p9 : lw_okq (⟨"UnsaidBallast$Reader", "readNumber", "(II)Z"⟩, 12) := ⟨⟨by decide +kernel, by decide +kernel⟩, List.mem_of_getElem? (i := 114) (by decide +kernel), List.mem_of_getElem? (i := 364) (by decide +kernel), List.mem_of_getElem? (i := 365) (by decide +kernel)⟩
theorem lw_p10 : lw_okq (⟨"UnsaidBallast$Reader", "readSemicolon", "()Z"⟩, 12) := ⟨⟨by decide +kernel, by decide +kernel⟩, List.mem_of_getElem? (i := 114) (by decide +kernel), List.mem_of_getElem? (i := 372) (by decide +kernel), List.mem_of_getElem? (i := 373) (by decide +kernel)⟩
theorem lw_p11 : lw_okq (⟨"UnsaidBallast$Reader", "readWind", "(LUnsaidBallast$Flight;)Z"⟩, 12) := ⟨⟨by decide +kernel, by decide +kernel⟩, List.mem_of_getElem? (i := 114) (by decide +kernel), List.mem_of_getElem? (i := 376) (by decide +kernel), List.mem_of_getElem? (i := 377) (by decide +kernel)⟩
theorem lw_p12 : lw_okq (⟨"UnsaidBallast$Reader", "readRate", "(LUnsaidBallast$Flight;)Z"⟩, 12) := ⟨⟨by decide +kernel, by decide +kernel⟩, List.mem_of_getElem? (i := 114) (by decide +kernel), List.mem_of_getElem? (i := 380) (by decide +kernel), List.mem_of_getElem? (i := 381) (by decide +kernel)⟩
theorem lw_p13 : lw_okq (⟨"UnsaidBallast$Reader", "readStart", "(LUnsaidBallast$Flight;)Z"⟩, 12) := ⟨⟨by decide +kernel, by decide +kernel⟩, List.mem_of_getElem? (i := 114) (by decide +kernel), List.mem_of_getElem? (i := 384) (by decide +kernel), List.mem_of_getElem? (i := 385) (by decide +kernel)⟩
theorem lw_p14 : lw_okq (⟨"UnsaidBallast", "forgetImages", "()V"⟩, 10) := ⟨⟨by decide +kernel, by decide +kernel⟩, List.mem_of_getElem? (i := 16) (by decide +kernel), List.mem_of_getElem? (i := 396) (by decide +kernel), List.mem_of_getElem? (i := 397) (by decide +kernel)⟩
theorem lw_p15 : lw_okq (⟨"UnsaidBallast", "restartTrial", "()V"⟩, 10) := ⟨⟨by decide +kernel, by decide +kernel⟩, List.mem_of_getElem? (i := 16) (by decide +kernel), List.mem_of_getElem? (i := 527) (by decide +kernel), List.mem_of_getElem? (i := 528) (by decide +kernel)⟩
def lw_privs_1 : List (MethodName × Nat) := [(⟨"UnsaidBallast$Reader", "begin", "()V"⟩, 12), (⟨"UnsaidBallast$Reader", "nextToken", "()Z"⟩, 12), (⟨"UnsaidBallast$Reader", "endOfRun", "(II)I"⟩, 12), (⟨"UnsaidBallast$Reader", "valueOf", "(II)I"⟩, 12), (⟨"UnsaidBallast$Reader", "failAt", "(II)Z"⟩, 12), (⟨"UnsaidBallast$Reader", "readLine", "(LUnsaidBallast$Flight;)Z"⟩, 12), (⟨"UnsaidBallast$Reader", "lineOfName", "()I"⟩, 12), (⟨"UnsaidBallast$Reader", "nameIs", "(Ljava/lang/String;)Z"⟩, 12), (⟨"UnsaidBallast$Reader", "readThing", "(LUnsaidBallast$Flight;I)Z"⟩, 12), (⟨"UnsaidBallast$Reader", "readNumber", "(II)Z"⟩, 12), (⟨"UnsaidBallast$Reader", "readSemicolon", "()Z"⟩, 12), (⟨"UnsaidBallast$Reader", "readWind", "(LUnsaidBallast$Flight;)Z"⟩, 12), (⟨"UnsaidBallast$Reader", "readRate", "(LUnsaidBallast$Flight;)Z"⟩, 12), (⟨"UnsaidBallast$Reader", "readStart", "(LUnsaidBallast$Flight;)Z"⟩, 12), (⟨"UnsaidBallast", "forgetImages", "()V"⟩, 10), (⟨"UnsaidBallast", "restartTrial", "()V"⟩, 10)]
theorem lw_r1 : ∀ q ∈ lw_privs_1, lw_okq q := List.forall_mem_cons.mpr ⟨lw_p0, List.forall_mem_cons.mpr ⟨lw_p1, List.forall_mem_cons.mpr ⟨lw_p2, List.forall_mem_cons.mpr ⟨lw_p3, List.forall_mem_cons.mpr ⟨lw_p4, List.forall_mem_cons.mpr ⟨lw_p5, List.forall_mem_cons.mpr ⟨lw_p6, List.forall_mem_cons.mpr ⟨lw_p7, List.forall_mem_cons.mpr ⟨lw_p8, List.forall_mem_cons.mpr ⟨lw_p9, List.forall_mem_cons.mpr ⟨lw_p10, List.forall_mem_cons.mpr ⟨lw_p11, List.forall_mem_cons.mpr ⟨lw_p12, List.forall_mem_cons.mpr ⟨lw_p13, List.forall_mem_cons.mpr ⟨lw_p14, List.forall_mem_cons.mpr ⟨lw_p15, fun _ h => absurd h List.not_mem_nil⟩⟩⟩⟩⟩⟩⟩⟩⟩⟩⟩⟩⟩⟩⟩⟩
theorem lw_p16 : lw_okq (⟨"UnsaidBallast", "oddsThatFail", "(II)J"⟩, 10) := ⟨⟨by decide +kernel, by decide +kernel⟩, List.mem_of_getElem? (i := 16) (by decide +kernel), List.mem_of_getElem? (i := 619) (by decide +kernel), List.mem_of_getElem? (i := 620) (by decide +kernel)⟩
theorem lw_p17 : lw_okq (⟨"UnsaidBallast", "tryWithout", "(II)V"⟩, 10) := ⟨⟨by decide +kernel, by decide +kernel⟩, List.mem_of_getElem? (i := 16) (by decide +kernel), List.mem_of_getElem? (i := 623) (by decide +kernel), List.mem_of_getElem? (i := 624) (by decide +kernel)⟩
theorem lw_p18 : lw_okq (⟨"UnsaidBallast", "allOdds", "()J"⟩, 10) := ⟨⟨by decide +kernel, by decide +kernel⟩, List.mem_of_getElem? (i := 16) (by decide +kernel), List.mem_of_getElem? (i := 627) (by decide +kernel), List.mem_of_getElem? (i := 628) (by decide +kernel)⟩
theorem lw_p19 : lw_okq (⟨"UnsaidBallast", "valuesAsSeen", "(II)I"⟩, 10) := ⟨⟨by decide +kernel, by decide +kernel⟩, List.mem_of_getElem? (i := 16) (by decide +kernel), List.mem_of_getElem? (i := 655) (by decide +kernel), List.mem_of_getElem? (i := 656) (by decide +kernel)⟩
theorem lw_p20 : lw_okq (⟨"UnsaidBallast", "foreseeHeightsByWeight", "(I)V"⟩, 10) := ⟨⟨by decide +kernel, by decide +kernel⟩, List.mem_of_getElem? (i := 16) (by decide +kernel), List.mem_of_getElem? (i := 679) (by decide +kernel), List.mem_of_getElem? (i := 680) (by decide +kernel)⟩
theorem lw_p21 : lw_okq (⟨"UnsaidBallast", "mostLeftByLooking", "(II)I"⟩, 10) := ⟨⟨by decide +kernel, by decide +kernel⟩, List.mem_of_getElem? (i := 16) (by decide +kernel), List.mem_of_getElem? (i := 690) (by decide +kernel), List.mem_of_getElem? (i := 691) (by decide +kernel)⟩
theorem lw_p22 : lw_okq (⟨"UnsaidBallast", "keptImages", "()I"⟩, 10) := ⟨⟨by decide +kernel, by decide +kernel⟩, List.mem_of_getElem? (i := 16) (by decide +kernel), List.mem_of_getElem? (i := 757) (by decide +kernel), List.mem_of_getElem? (i := 758) (by decide +kernel)⟩
theorem lw_p23 : lw_okq (⟨"UnsaidBallastModel", "firstDraft", "()V"⟩, 34) := ⟨⟨by decide +kernel, by decide +kernel⟩, List.mem_of_getElem? (i := 766) (by decide +kernel), List.mem_of_getElem? (i := 772) (by decide +kernel), List.mem_of_getElem? (i := 773) (by decide +kernel)⟩
theorem lw_p24 : lw_okq (⟨"UnsaidBallastModel", "keepDraft", "()V"⟩, 34) := ⟨⟨by decide +kernel, by decide +kernel⟩, List.mem_of_getElem? (i := 766) (by decide +kernel), List.mem_of_getElem? (i := 776) (by decide +kernel), List.mem_of_getElem? (i := 777) (by decide +kernel)⟩
theorem lw_p25 : lw_okq (⟨"UnsaidBallastModel", "takes", "()V"⟩, 34) := ⟨⟨by decide +kernel, by decide +kernel⟩, List.mem_of_getElem? (i := 766) (by decide +kernel), List.mem_of_getElem? (i := 899) (by decide +kernel), List.mem_of_getElem? (i := 900) (by decide +kernel)⟩
theorem lw_p26 : lw_okq (⟨"UnsaidBallastModel", "byteAt", "(I)I"⟩, 34) := ⟨⟨by decide +kernel, by decide +kernel⟩, List.mem_of_getElem? (i := 766) (by decide +kernel), List.mem_of_getElem? (i := 903) (by decide +kernel), List.mem_of_getElem? (i := 904) (by decide +kernel)⟩
theorem lw_p27 : lw_okq (⟨"UnsaidBallastModel", "needs", "(ZI)V"⟩, 34) := ⟨⟨by decide +kernel, by decide +kernel⟩, List.mem_of_getElem? (i := 766) (by decide +kernel), List.mem_of_getElem? (i := 911) (by decide +kernel), List.mem_of_getElem? (i := 912) (by decide +kernel)⟩
theorem lw_p28 : lw_okq (⟨"UnsaidBallastModel", "readLine", "()V"⟩, 34) := ⟨⟨by decide +kernel, by decide +kernel⟩, List.mem_of_getElem? (i := 766) (by decide +kernel), List.mem_of_getElem? (i := 915) (by decide +kernel), List.mem_of_getElem? (i := 916) (by decide +kernel)⟩
theorem lw_p29 : lw_okq (⟨"UnsaidBallastModel", "lineNow", "()I"⟩, 34) := ⟨⟨by decide +kernel, by decide +kernel⟩, List.mem_of_getElem? (i := 766) (by decide +kernel), List.mem_of_getElem? (i := 919) (by decide +kernel), List.mem_of_getElem? (i := 920) (by decide +kernel)⟩
theorem lw_p30 : lw_okq (⟨"UnsaidBallastModel", "is", "(IIIII)Z"⟩, 34) := ⟨⟨by decide +kernel, by decide +kernel⟩, List.mem_of_getElem? (i := 766) (by decide +kernel), List.mem_of_getElem? (i := 923) (by decide +kernel), List.mem_of_getElem? (i := 924) (by decide +kernel)⟩
theorem lw_p31 : lw_okq (⟨"UnsaidBallastModel", "ends", "(II)Z"⟩, 34) := ⟨⟨by decide +kernel, by decide +kernel⟩, List.mem_of_getElem? (i := 766) (by decide +kernel), List.mem_of_getElem? (i := 927) (by decide +kernel), List.mem_of_getElem? (i := 928) (by decide +kernel)⟩
def lw_privs_2 : List (MethodName × Nat) := [(⟨"UnsaidBallast", "oddsThatFail", "(II)J"⟩, 10), (⟨"UnsaidBallast", "tryWithout", "(II)V"⟩, 10), (⟨"UnsaidBallast", "allOdds", "()J"⟩, 10), (⟨"UnsaidBallast", "valuesAsSeen", "(II)I"⟩, 10), (⟨"UnsaidBallast", "foreseeHeightsByWeight", "(I)V"⟩, 10), (⟨"UnsaidBallast", "mostLeftByLooking", "(II)I"⟩, 10), (⟨"UnsaidBallast", "keptImages", "()I"⟩, 10), (⟨"UnsaidBallastModel", "firstDraft", "()V"⟩, 34), (⟨"UnsaidBallastModel", "keepDraft", "()V"⟩, 34), (⟨"UnsaidBallastModel", "takes", "()V"⟩, 34), (⟨"UnsaidBallastModel", "byteAt", "(I)I"⟩, 34), (⟨"UnsaidBallastModel", "needs", "(ZI)V"⟩, 34), (⟨"UnsaidBallastModel", "readLine", "()V"⟩, 34), (⟨"UnsaidBallastModel", "lineNow", "()I"⟩, 34), (⟨"UnsaidBallastModel", "is", "(IIIII)Z"⟩, 34), (⟨"UnsaidBallastModel", "ends", "(II)Z"⟩, 34)]
theorem lw_r2 : ∀ q ∈ lw_privs_2, lw_okq q := List.forall_mem_cons.mpr ⟨lw_p16, List.forall_mem_cons.mpr ⟨lw_p17, List.forall_mem_cons.mpr ⟨lw_p18, List.forall_mem_cons.mpr ⟨lw_p19, List.forall_mem_cons.mpr ⟨lw_p20, List.forall_mem_cons.mpr ⟨lw_p21, List.forall_mem_cons.mpr ⟨lw_p22, List.forall_mem_cons.mpr ⟨lw_p23, List.forall_mem_cons.mpr ⟨lw_p24, List.forall_mem_cons.mpr ⟨lw_p25, List.forall_mem_cons.mpr ⟨lw_p26, List.forall_mem_cons.mpr ⟨lw_p27, List.forall_mem_cons.mpr ⟨lw_p28, List.forall_mem_cons.mpr ⟨lw_p29, List.forall_mem_cons.mpr ⟨lw_p30, List.forall_mem_cons.mpr ⟨lw_p31, fun _ h => absurd h List.not_mem_nil⟩⟩⟩⟩⟩⟩⟩⟩⟩⟩⟩⟩⟩⟩⟩⟩
theorem lw_p32 : lw_okq (⟨"UnsaidBallastModel", "readLineOf", "(I)V"⟩, 34) := ⟨⟨by decide +kernel, by decide +kernel⟩, List.mem_of_getElem? (i := 766) (by decide +kernel), List.mem_of_getElem? (i := 931) (by decide +kernel), List.mem_of_getElem? (i := 932) (by decide +kernel)⟩
theorem lw_p33 : lw_okq (⟨"UnsaidBallastModel", "readWind", "()V"⟩, 34) := ⟨⟨by decide +kernel, by decide +kernel⟩, List.mem_of_getElem? (i := 766) (by decide +kernel), List.mem_of_getElem? (i := 935) (by decide +kernel), List.mem_of_getElem? (i := 936) (by decide +kernel)⟩
theorem lw_p34 : lw_okq (⟨"UnsaidBallastModel", "looked", "(II)I"⟩, 34) := ⟨⟨by decide +kernel, by decide +kernel⟩, List.mem_of_getElem? (i := 766) (by decide +kernel), List.mem_of_getElem? (i := 939) (by decide +kernel), List.mem_of_getElem? (i := 940) (by decide +kernel)⟩
theorem lw_p35 : lw_okq (⟨"UnsaidBallastModel", "readNumber", "(II)I"⟩, 34) := ⟨⟨by decide +kernel, by decide +kernel⟩, List.mem_of_getElem? (i := 766) (by decide +kernel), List.mem_of_getElem? (i := 943) (by decide +kernel), List.mem_of_getElem? (i := 944) (by decide +kernel)⟩
theorem lw_p36 : lw_okq (⟨"UnsaidBallastModel", "starts", "()V"⟩, 34) := ⟨⟨by decide +kernel, by decide +kernel⟩, List.mem_of_getElem? (i := 766) (by decide +kernel), List.mem_of_getElem? (i := 955) (by decide +kernel), List.mem_of_getElem? (i := 956) (by decide +kernel)⟩
theorem lw_p37 : lw_okq (⟨"UnsaidBallastModel", "liftNow", "()I"⟩, 34) := ⟨⟨by decide +kernel, by decide +kernel⟩, List.mem_of_getElem? (i := 766) (by decide +kernel), List.mem_of_getElem? (i := 959) (by decide +kernel), List.mem_of_getElem? (i := 960) (by decide +kernel)⟩
theorem lw_p38 : lw_okq (⟨"UnsaidBallastModel", "liftOf", "(I)I"⟩, 34) := ⟨⟨by decide +kernel, by decide +kernel⟩, List.mem_of_getElem? (i := 766) (by decide +kernel), List.mem_of_getElem? (i := 963) (by decide +kernel), List.mem_of_getElem? (i := 964) (by decide +kernel)⟩
theorem lw_p39 : lw_okq (⟨"UnsaidBallastModel", "of", "(II)I"⟩, 34) := ⟨⟨by decide +kernel, by decide +kernel⟩, List.mem_of_getElem? (i := 766) (by decide +kernel), List.mem_of_getElem? (i := 967) (by decide +kernel), List.mem_of_getElem? (i := 968) (by decide +kernel)⟩
theorem lw_p40 : lw_okq (⟨"UnsaidBallastModel", "saidNow", "()I"⟩, 34) := ⟨⟨by decide +kernel, by decide +kernel⟩, List.mem_of_getElem? (i := 766) (by decide +kernel), List.mem_of_getElem? (i := 974) (by decide +kernel), List.mem_of_getElem? (i := 975) (by decide +kernel)⟩
theorem lw_p41 : lw_okq (⟨"UnsaidBallastModel", "isThing", "(I)Z"⟩, 34) := ⟨⟨by decide +kernel, by decide +kernel⟩, List.mem_of_getElem? (i := 766) (by decide +kernel), List.mem_of_getElem? (i := 982) (by decide +kernel), List.mem_of_getElem? (i := 983) (by decide +kernel)⟩
theorem lw_p42 : lw_okq (⟨"UnsaidBallastModel", "becomes", "(II)I"⟩, 34) := ⟨⟨by decide +kernel, by decide +kernel⟩, List.mem_of_getElem? (i := 766) (by decide +kernel), List.mem_of_getElem? (i := 1007) (by decide +kernel), List.mem_of_getElem? (i := 1008) (by decide +kernel)⟩
theorem lw_p43 : lw_okq (⟨"UnsaidBallastModel", "saidBecomes", "(II)I"⟩, 34) := ⟨⟨by decide +kernel, by decide +kernel⟩, List.mem_of_getElem? (i := 766) (by decide +kernel), List.mem_of_getElem? (i := 1024) (by decide +kernel), List.mem_of_getElem? (i := 1025) (by decide +kernel)⟩
theorem lw_p44 : lw_okq (⟨"UnsaidBallastModel", "minutesGo", "(I)V"⟩, 34) := ⟨⟨by decide +kernel, by decide +kernel⟩, List.mem_of_getElem? (i := 766) (by decide +kernel), List.mem_of_getElem? (i := 1046) (by decide +kernel), List.mem_of_getElem? (i := 1047) (by decide +kernel)⟩
theorem lw_p45 : lw_okq (⟨"UnsaidBallastModel", "minuteGoes", "()V"⟩, 34) := ⟨⟨by decide +kernel, by decide +kernel⟩, List.mem_of_getElem? (i := 766) (by decide +kernel), List.mem_of_getElem? (i := 1050) (by decide +kernel), List.mem_of_getElem? (i := 1051) (by decide +kernel)⟩
theorem lw_p46 : lw_okq (⟨"UnsaidBallastModel", "becomesOf", "(III)V"⟩, 34) := ⟨⟨by decide +kernel, by decide +kernel⟩, List.mem_of_getElem? (i := 766) (by decide +kernel), List.mem_of_getElem? (i := 1054) (by decide +kernel), List.mem_of_getElem? (i := 1055) (by decide +kernel)⟩
theorem lw_p47 : lw_okq (⟨"UnsaidBallastModel", "settles", "()V"⟩, 34) := ⟨⟨by decide +kernel, by decide +kernel⟩, List.mem_of_getElem? (i := 766) (by decide +kernel), List.mem_of_getElem? (i := 1058) (by decide +kernel), List.mem_of_getElem? (i := 1059) (by decide +kernel)⟩
def lw_privs_3 : List (MethodName × Nat) := [(⟨"UnsaidBallastModel", "readLineOf", "(I)V"⟩, 34), (⟨"UnsaidBallastModel", "readWind", "()V"⟩, 34), (⟨"UnsaidBallastModel", "looked", "(II)I"⟩, 34), (⟨"UnsaidBallastModel", "readNumber", "(II)I"⟩, 34), (⟨"UnsaidBallastModel", "starts", "()V"⟩, 34), (⟨"UnsaidBallastModel", "liftNow", "()I"⟩, 34), (⟨"UnsaidBallastModel", "liftOf", "(I)I"⟩, 34), (⟨"UnsaidBallastModel", "of", "(II)I"⟩, 34), (⟨"UnsaidBallastModel", "saidNow", "()I"⟩, 34), (⟨"UnsaidBallastModel", "isThing", "(I)Z"⟩, 34), (⟨"UnsaidBallastModel", "becomes", "(II)I"⟩, 34), (⟨"UnsaidBallastModel", "saidBecomes", "(II)I"⟩, 34), (⟨"UnsaidBallastModel", "minutesGo", "(I)V"⟩, 34), (⟨"UnsaidBallastModel", "minuteGoes", "()V"⟩, 34), (⟨"UnsaidBallastModel", "becomesOf", "(III)V"⟩, 34), (⟨"UnsaidBallastModel", "settles", "()V"⟩, 34)]
theorem lw_r3 : ∀ q ∈ lw_privs_3, lw_okq q := List.forall_mem_cons.mpr ⟨lw_p32, List.forall_mem_cons.mpr ⟨lw_p33, List.forall_mem_cons.mpr ⟨lw_p34, List.forall_mem_cons.mpr ⟨lw_p35, List.forall_mem_cons.mpr ⟨lw_p36, List.forall_mem_cons.mpr ⟨lw_p37, List.forall_mem_cons.mpr ⟨lw_p38, List.forall_mem_cons.mpr ⟨lw_p39, List.forall_mem_cons.mpr ⟨lw_p40, List.forall_mem_cons.mpr ⟨lw_p41, List.forall_mem_cons.mpr ⟨lw_p42, List.forall_mem_cons.mpr ⟨lw_p43, List.forall_mem_cons.mpr ⟨lw_p44, List.forall_mem_cons.mpr ⟨lw_p45, List.forall_mem_cons.mpr ⟨lw_p46, List.forall_mem_cons.mpr ⟨lw_p47, fun _ h => absurd h List.not_mem_nil⟩⟩⟩⟩⟩⟩⟩⟩⟩⟩⟩⟩⟩⟩⟩⟩
theorem lw_p48 : lw_okq (⟨"UnsaidBallastModel", "minutesCount", "(I)V"⟩, 34) := ⟨⟨by decide +kernel, by decide +kernel⟩, List.mem_of_getElem? (i := 766) (by decide +kernel), List.mem_of_getElem? (i := 1070) (by decide +kernel), List.mem_of_getElem? (i := 1071) (by decide +kernel)⟩
theorem lw_p49 : lw_okq (⟨"UnsaidBallastModel", "minutesDown", "()I"⟩, 34) := ⟨⟨by decide +kernel, by decide +kernel⟩, List.mem_of_getElem? (i := 766) (by decide +kernel), List.mem_of_getElem? (i := 1081) (by decide +kernel), List.mem_of_getElem? (i := 1082) (by decide +kernel)⟩
theorem lw_p50 : lw_okq (⟨"UnsaidBallastModel", "minutesTo", "(I)I"⟩, 34) := ⟨⟨by decide +kernel, by decide +kernel⟩, List.mem_of_getElem? (i := 766) (by decide +kernel), List.mem_of_getElem? (i := 1092) (by decide +kernel), List.mem_of_getElem? (i := 1093) (by decide +kernel)⟩
theorem lw_p51 : lw_okq (⟨"UnsaidBallastModel", "startsJudging", "(I)V"⟩, 34) := ⟨⟨by decide +kernel, by decide +kernel⟩, List.mem_of_getElem? (i := 766) (by decide +kernel), List.mem_of_getElem? (i := 1101) (by decide +kernel), List.mem_of_getElem? (i := 1102) (by decide +kernel)⟩
theorem lw_p52 : lw_okq (⟨"UnsaidBallastModel", "isUnsaid", "(I)Z"⟩, 34) := ⟨⟨by decide +kernel, by decide +kernel⟩, List.mem_of_getElem? (i := 766) (by decide +kernel), List.mem_of_getElem? (i := 1105) (by decide +kernel), List.mem_of_getElem? (i := 1106) (by decide +kernel)⟩
theorem lw_p53 : lw_okq (⟨"UnsaidBallastModel", "judges", "(II)V"⟩, 34) := ⟨⟨by decide +kernel, by decide +kernel⟩, List.mem_of_getElem? (i := 766) (by decide +kernel), List.mem_of_getElem? (i := 1109) (by decide +kernel), List.mem_of_getElem? (i := 1110) (by decide +kernel)⟩
theorem lw_p54 : lw_okq (⟨"UnsaidBallastModel", "judged", "(I)I"⟩, 34) := ⟨⟨by decide +kernel, by decide +kernel⟩, List.mem_of_getElem? (i := 766) (by decide +kernel), List.mem_of_getElem? (i := 1113) (by decide +kernel), List.mem_of_getElem? (i := 1114) (by decide +kernel)⟩
theorem lw_p55 : lw_okq (⟨"UnsaidBallastModel", "offPlace", "(I)I"⟩, 34) := ⟨⟨by decide +kernel, by decide +kernel⟩, List.mem_of_getElem? (i := 766) (by decide +kernel), List.mem_of_getElem? (i := 1125) (by decide +kernel), List.mem_of_getElem? (i := 1126) (by decide +kernel)⟩
theorem lw_p56 : lw_okq (⟨"UnsaidBallastModel", "findOdds", "(III)V"⟩, 34) := ⟨⟨by decide +kernel, by decide +kernel⟩, List.mem_of_getElem? (i := 766) (by decide +kernel), List.mem_of_getElem? (i := 1151) (by decide +kernel), List.mem_of_getElem? (i := 1152) (by decide +kernel)⟩
theorem lw_p57 : lw_okq (⟨"UnsaidBallastModel", "isSoWith", "(III)Z"⟩, 34) := ⟨⟨by decide +kernel, by decide +kernel⟩, List.mem_of_getElem? (i := 766) (by decide +kernel), List.mem_of_getElem? (i := 1177) (by decide +kernel), List.mem_of_getElem? (i := 1178) (by decide +kernel)⟩
theorem lw_p58 : lw_okq (⟨"UnsaidBallastModel", "isSo", "()Z"⟩, 34) := ⟨⟨by decide +kernel, by decide +kernel⟩, List.mem_of_getElem? (i := 766) (by decide +kernel), List.mem_of_getElem? (i := 1181) (by decide +kernel), List.mem_of_getElem? (i := 1182) (by decide +kernel)⟩
theorem lw_p59 : lw_okq (⟨"UnsaidBallastModel", "copies", "(II)V"⟩, 34) := ⟨⟨by decide +kernel, by decide +kernel⟩, List.mem_of_getElem? (i := 766) (by decide +kernel), List.mem_of_getElem? (i := 1206) (by decide +kernel), List.mem_of_getElem? (i := 1207) (by decide +kernel)⟩
def lw_privs_4 : List (MethodName × Nat) := [(⟨"UnsaidBallastModel", "minutesCount", "(I)V"⟩, 34), (⟨"UnsaidBallastModel", "minutesDown", "()I"⟩, 34), (⟨"UnsaidBallastModel", "minutesTo", "(I)I"⟩, 34), (⟨"UnsaidBallastModel", "startsJudging", "(I)V"⟩, 34), (⟨"UnsaidBallastModel", "isUnsaid", "(I)Z"⟩, 34), (⟨"UnsaidBallastModel", "judges", "(II)V"⟩, 34), (⟨"UnsaidBallastModel", "judged", "(I)I"⟩, 34), (⟨"UnsaidBallastModel", "offPlace", "(I)I"⟩, 34), (⟨"UnsaidBallastModel", "findOdds", "(III)V"⟩, 34), (⟨"UnsaidBallastModel", "isSoWith", "(III)Z"⟩, 34), (⟨"UnsaidBallastModel", "isSo", "()Z"⟩, 34), (⟨"UnsaidBallastModel", "copies", "(II)V"⟩, 34)]
theorem lw_r4 : ∀ q ∈ lw_privs_4, lw_okq q := List.forall_mem_cons.mpr ⟨lw_p48, List.forall_mem_cons.mpr ⟨lw_p49, List.forall_mem_cons.mpr ⟨lw_p50, List.forall_mem_cons.mpr ⟨lw_p51, List.forall_mem_cons.mpr ⟨lw_p52, List.forall_mem_cons.mpr ⟨lw_p53, List.forall_mem_cons.mpr ⟨lw_p54, List.forall_mem_cons.mpr ⟨lw_p55, List.forall_mem_cons.mpr ⟨lw_p56, List.forall_mem_cons.mpr ⟨lw_p57, List.forall_mem_cons.mpr ⟨lw_p58, List.forall_mem_cons.mpr ⟨lw_p59, fun _ h => absurd h List.not_mem_nil⟩⟩⟩⟩⟩⟩⟩⟩⟩⟩⟩⟩
def lw_privs : List (MethodName × Nat) := lw_privs_1 ++ (lw_privs_2 ++ (lw_privs_3 ++ (lw_privs_4)))
def lw_tbl : List Cond := k2_sels lw_privs ++ tables_1
theorem lw_privs_ok : ∀ q ∈ lw_privs, lw_okq q := by
  show ∀ q ∈ lw_privs_1 ++ (lw_privs_2 ++ (lw_privs_3 ++ (lw_privs_4))), lw_okq q
  exact List.forall_mem_append.mpr ⟨lw_r1, List.forall_mem_append.mpr ⟨lw_r2, List.forall_mem_append.mpr ⟨lw_r3, lw_r4⟩⟩⟩
end
section
def RX0 : String := "UnsaidBallast$Choice"
def TX0 : u_T := fun k => match k with
  | 0 => ("UnsaidBallast$Choice", "key", "I", false)
  | 1 => ("UnsaidBallast$Choice", "value", "I", false)
  | _ => ("UnsaidBallast$Choice", "made", "Z", false)
def tyX0 : Nat → FieldType := fun k => match k with
  | 0 => .int
  | 1 => .int
  | _ => .boolean
abbrev wsX00 : List Cond := u_ws RX0 TX0 3
theorem nmX0 : ∀ a, a < 3 → ∀ b, b < 3 → a ≠ b → (TX0 a).2.1 ≠ (TX0 b).2.1 := by decide +kernel
theorem tyX0_ok : ∀ k, k < 3 → parseFieldDescriptor (TX0 k).2.2.1 = some (tyX0 k) := by decide +kernel
abbrev cX0_init : ByteArray := prog_2_method_1_code
def yX0_init : MethodName := ⟨RX0, "<init>", "()V"⟩
abbrev cX0_beginBelow : ByteArray := prog_2_method_2_code
def yX0_beginBelow : MethodName := ⟨RX0, "beginBelow", "(I)V"⟩
abbrev cX0_offer : ByteArray := prog_2_method_3_code
def yX0_offer : MethodName := ⟨RX0, "offer", "(II)V"⟩
abbrev cX0_answer : ByteArray := prog_2_method_4_code
def yX0_answer : MethodName := ⟨RX0, "answer", "(I)I"⟩
def RX1 : String := "UnsaidBallast$Flight"
def TX1 : u_T := fun k => match k with
  | 0 => ("UnsaidBallast$Flight", "kind", "[I", true)
  | 1 => ("UnsaidBallast$Flight", "weight", "[I", true)
  | 2 => ("UnsaidBallast$Flight", "whose", "[I", true)
  | 3 => ("UnsaidBallast$Flight", "strength", "[I", true)
  | 4 => ("UnsaidBallast$Flight", "sayings", "LUnsaidBallast$Pairs;", true)
  | 5 => ("UnsaidBallast$Flight", "seen", "LUnsaidBallast$Pairs;", true)
  | 6 => ("UnsaidBallast$Flight", "things", "I", false)
  | 7 => ("UnsaidBallast$Flight", "said", "I", false)
  | 8 => ("UnsaidBallast$Flight", "height", "I", false)
  | 9 => ("UnsaidBallast$Flight", "place", "I", false)
  | 10 => ("UnsaidBallast$Flight", "rate", "I", false)
  | _ => ("UnsaidBallast$Flight", "minute", "I", false)
def tyX1 : Nat → FieldType := fun k => match k with
  | 0 => .array .int
  | 1 => .array .int
  | 2 => .array .int
  | 3 => .array .int
  | 4 => .object "UnsaidBallast$Pairs"
  | 5 => .object "UnsaidBallast$Pairs"
  | 6 => .int
  | 7 => .int
  | 8 => .int
  | 9 => .int
  | 10 => .int
  | _ => .int
abbrev wsX10 : List Cond := u_ws RX1 TX1 12
theorem nmX1 : ∀ a, a < 12 → ∀ b, b < 12 → a ≠ b → (TX1 a).2.1 ≠ (TX1 b).2.1 := by decide +kernel
theorem tyX1_ok : ∀ k, k < 12 → parseFieldDescriptor (TX1 k).2.2.1 = some (tyX1 k) := by decide +kernel
abbrev cX1_init : ByteArray := prog_3_method_1_code
def yX1_init : MethodName := ⟨RX1, "<init>", "()V"⟩
abbrev cX1_clear : ByteArray := prog_3_method_2_code
def yX1_clear : MethodName := ⟨RX1, "clear", "()V"⟩
abbrev cX1_copyFrom : ByteArray := prog_3_method_3_code
def yX1_copyFrom : MethodName := ⟨RX1, "copyFrom", "(LUnsaidBallast$Flight;)V"⟩
abbrev cX1_hasThing : ByteArray := prog_3_method_4_code
def yX1_hasThing : MethodName := ⟨RX1, "hasThing", "(I)Z"⟩
abbrev cX1_addThing : ByteArray := prog_3_method_5_code
def yX1_addThing : MethodName := ⟨RX1, "addThing", "(III)Z"⟩
abbrev cX1_rowOf : ByteArray := prog_3_method_6_code
def yX1_rowOf : MethodName := ⟨RX1, "rowOf", "(I)[I"⟩
abbrev cX1_isSaid : ByteArray := prog_3_method_7_code
def yX1_isSaid : MethodName := ⟨RX1, "isSaid", "(I)Z"⟩
abbrev cX1_setSaid : ByteArray := prog_3_method_8_code
def yX1_setSaid : MethodName := ⟨RX1, "setSaid", "(IZ)V"⟩
abbrev cX1_addSaying : ByteArray := prog_3_method_9_code
def yX1_addSaying : MethodName := ⟨RX1, "addSaying", "(II)I"⟩
abbrev cX1_liftOf : ByteArray := prog_3_method_10_code
def yX1_liftOf : MethodName := ⟨RX1, "liftOf", "(I)I"⟩
abbrev cX1_lift : ByteArray := prog_3_method_11_code
def yX1_lift : MethodName := ⟨RX1, "lift", "()I"⟩
abbrev cX1_unsaidWeight : ByteArray := prog_3_method_12_code
def yX1_unsaidWeight : MethodName := ⟨RX1, "unsaidWeight", "(I)I"⟩
abbrev cX1_offFrom : ByteArray := prog_3_method_13_code
def yX1_offFrom : MethodName := ⟨RX1, "offFrom", "(I)I"⟩
abbrev cX1_pass : ByteArray := prog_3_method_14_code
def yX1_pass : MethodName := ⟨RX1, "pass", "()V"⟩
abbrev cX1_windAloft : ByteArray := prog_3_method_15_code
def yX1_windAloft : MethodName := ⟨RX1, "windAloft", "()I"⟩
abbrev cX1_passAll : ByteArray := prog_3_method_16_code
def yX1_passAll : MethodName := ⟨RX1, "passAll", "(I)V"⟩
abbrev cX1_greatestHeight : ByteArray := prog_3_method_17_code
def yX1_greatestHeight : MethodName := ⟨RX1, "greatestHeight", "(I)I"⟩
abbrev cX1_timesDown : ByteArray := prog_3_method_18_code
def yX1_timesDown : MethodName := ⟨RX1, "timesDown", "(I)I"⟩
abbrev cX1_firstDown : ByteArray := prog_3_method_19_code
def yX1_firstDown : MethodName := ⟨RX1, "firstDown", "()I"⟩
abbrev cX1_firstDownAt : ByteArray := prog_3_method_20_code
def yX1_firstDownAt : MethodName := ⟨RX1, "firstDownAt", "(I)I"⟩
abbrev cX1_goesAsSeen : ByteArray := prog_3_method_21_code
def yX1_goesAsSeen : MethodName := ⟨RX1, "goesAsSeen", "()Z"⟩
abbrev cX1_isAsSeenBehind : ByteArray := prog_3_method_22_code
def yX1_isAsSeenBehind : MethodName := ⟨RX1, "isAsSeenBehind", "(I)Z"⟩
def RX2 : String := "UnsaidBallast$Pairs"
def TX2 : u_T := fun k => match k with
  | 0 => ("UnsaidBallast$Pairs", "first", "[I", true)
  | 1 => ("UnsaidBallast$Pairs", "second", "[I", true)
  | _ => ("UnsaidBallast$Pairs", "size", "I", false)
def tyX2 : Nat → FieldType := fun k => match k with
  | 0 => .array .int
  | 1 => .array .int
  | _ => .int
abbrev wsX20 : List Cond := u_ws RX2 TX2 3
theorem nmX2 : ∀ a, a < 3 → ∀ b, b < 3 → a ≠ b → (TX2 a).2.1 ≠ (TX2 b).2.1 := by decide +kernel
theorem tyX2_ok : ∀ k, k < 3 → parseFieldDescriptor (TX2 k).2.2.1 = some (tyX2 k) := by decide +kernel
abbrev cX2_init : ByteArray := prog_4_method_1_code
def yX2_init : MethodName := ⟨RX2, "<init>", "(I)V"⟩
abbrev cX2_add : ByteArray := prog_4_method_2_code
def yX2_add : MethodName := ⟨RX2, "add", "(II)I"⟩
abbrev cX2_keepFirst : ByteArray := prog_4_method_3_code
def yX2_keepFirst : MethodName := ⟨RX2, "keepFirst", "(I)I"⟩
abbrev cX2_copyFrom : ByteArray := prog_4_method_4_code
def yX2_copyFrom : MethodName := ⟨RX2, "copyFrom", "(LUnsaidBallast$Pairs;)V"⟩
def RX3 : String := "UnsaidBallast$Reader"
def TX3 : u_T := fun k => match k with
  | 0 => ("UnsaidBallast$Reader", "bytes", "[I", true)
  | 1 => ("UnsaidBallast$Reader", "sorts", "[I", true)
  | 2 => ("UnsaidBallast$Reader", "length", "I", false)
  | 3 => ("UnsaidBallast$Reader", "fault", "I", false)
  | 4 => ("UnsaidBallast$Reader", "faultAt", "I", false)
  | 5 => ("UnsaidBallast$Reader", "next", "I", false)
  | 6 => ("UnsaidBallast$Reader", "token", "I", false)
  | 7 => ("UnsaidBallast$Reader", "tokenAt", "I", false)
  | 8 => ("UnsaidBallast$Reader", "value", "I", false)
  | 9 => ("UnsaidBallast$Reader", "windsTold", "I", false)
  | 10 => ("UnsaidBallast$Reader", "rateTold", "Z", false)
  | _ => ("UnsaidBallast$Reader", "startTold", "Z", false)
def tyX3 : Nat → FieldType := fun k => match k with
  | 0 => .array .int
  | 1 => .array .int
  | 2 => .int
  | 3 => .int
  | 4 => .int
  | 5 => .int
  | 6 => .int
  | 7 => .int
  | 8 => .int
  | 9 => .int
  | 10 => .boolean
  | _ => .boolean
abbrev wsX30 : List Cond := u_ws RX3 TX3 12
theorem nmX3 : ∀ a, a < 12 → ∀ b, b < 12 → a ≠ b → (TX3 a).2.1 ≠ (TX3 b).2.1 := by decide +kernel
theorem tyX3_ok : ∀ k, k < 12 → parseFieldDescriptor (TX3 k).2.2.1 = some (tyX3 k) := by decide +kernel
abbrev cX3_init : ByteArray := prog_5_method_1_code
def yX3_init : MethodName := ⟨RX3, "<init>", "()V"⟩
abbrev cX3_append : ByteArray := prog_5_method_2_code
def yX3_append : MethodName := ⟨RX3, "append", "(I)I"⟩
abbrev cX3_keepFirst : ByteArray := prog_5_method_3_code
def yX3_keepFirst : MethodName := ⟨RX3, "keepFirst", "(I)I"⟩
abbrev cX3_tell : ByteArray := prog_5_method_4_code
def yX3_tell : MethodName := ⟨RX3, "tell", "(LUnsaidBallast$Flight;)I"⟩
abbrev cX3_begin : ByteArray := prog_5_method_5_code
def yX3_begin : MethodName := ⟨RX3, "begin", "()V"⟩
abbrev cX3_failAt : ByteArray := prog_5_method_6_code
def yX3_failAt : MethodName := ⟨RX3, "failAt", "(II)Z"⟩
abbrev cX3_nextToken : ByteArray := prog_5_method_7_code
def yX3_nextToken : MethodName := ⟨RX3, "nextToken", "()Z"⟩
abbrev cX3_valueOf : ByteArray := prog_5_method_8_code
def yX3_valueOf : MethodName := ⟨RX3, "valueOf", "(II)I"⟩
abbrev cX3_endOfRun : ByteArray := prog_5_method_9_code
def yX3_endOfRun : MethodName := ⟨RX3, "endOfRun", "(II)I"⟩
abbrev cX3_sortOf : ByteArray := prog_5_method_10_code
def yX3_sortOf : MethodName := ⟨RX3, "sortOf", "(I)I"⟩
abbrev cX3_readLine : ByteArray := prog_5_method_11_code
def yX3_readLine : MethodName := ⟨RX3, "readLine", "(LUnsaidBallast$Flight;)Z"⟩
abbrev cX3_lineOfName : ByteArray := prog_5_method_12_code
def yX3_lineOfName : MethodName := ⟨RX3, "lineOfName", "()I"⟩
abbrev cX3_wordOf : ByteArray := prog_5_method_13_code
def yX3_wordOf : MethodName := ⟨RX3, "wordOf", "(I)Ljava/lang/String;"⟩
abbrev cX3_nameIs : ByteArray := prog_5_method_14_code
def yX3_nameIs : MethodName := ⟨RX3, "nameIs", "(Ljava/lang/String;)Z"⟩
abbrev cX3_readThing : ByteArray := prog_5_method_15_code
def yX3_readThing : MethodName := ⟨RX3, "readThing", "(LUnsaidBallast$Flight;I)Z"⟩
abbrev cX3_readWind : ByteArray := prog_5_method_16_code
def yX3_readWind : MethodName := ⟨RX3, "readWind", "(LUnsaidBallast$Flight;)Z"⟩
abbrev cX3_readRate : ByteArray := prog_5_method_17_code
def yX3_readRate : MethodName := ⟨RX3, "readRate", "(LUnsaidBallast$Flight;)Z"⟩
abbrev cX3_readStart : ByteArray := prog_5_method_18_code
def yX3_readStart : MethodName := ⟨RX3, "readStart", "(LUnsaidBallast$Flight;)Z"⟩
abbrev cX3_readNumber : ByteArray := prog_5_method_19_code
def yX3_readNumber : MethodName := ⟨RX3, "readNumber", "(II)Z"⟩
abbrev cX3_readSemicolon : ByteArray := prog_5_method_20_code
def yX3_readSemicolon : MethodName := ⟨RX3, "readSemicolon", "()Z"⟩
def RX4 : String := "UnsaidBallast$Sheet"
def TX4 : u_T := fun k => match k with
  | 0 => ("UnsaidBallast$Sheet", "cells", "[I", true)
  | 1 => ("UnsaidBallast$Sheet", "lane", "I", false)
  | _ => ("UnsaidBallast$Sheet", "size", "I", false)
def tyX4 : Nat → FieldType := fun k => match k with
  | 0 => .array .int
  | 1 => .int
  | _ => .int
abbrev wsX40 : List Cond := u_ws RX4 TX4 3
theorem nmX4 : ∀ a, a < 3 → ∀ b, b < 3 → a ≠ b → (TX4 a).2.1 ≠ (TX4 b).2.1 := by decide +kernel
theorem tyX4_ok : ∀ k, k < 3 → parseFieldDescriptor (TX4 k).2.2.1 = some (tyX4 k) := by decide +kernel
abbrev cX4_init : ByteArray := prog_6_method_1_code
def yX4_init : MethodName := ⟨RX4, "<init>", "()V"⟩
abbrev cX4_isNothing : ByteArray := prog_6_method_2_code
def yX4_isNothing : MethodName := ⟨RX4, "isNothing", "()Z"⟩
abbrev cX4_renew : ByteArray := prog_6_method_3_code
def yX4_renew : MethodName := ⟨RX4, "renew", "(II)V"⟩
abbrev cX4_faultAs : ByteArray := prog_6_method_4_code
def yX4_faultAs : MethodName := ⟨RX4, "faultAs", "(II)I"⟩
abbrev cX4_faultOfPair : ByteArray := prog_6_method_5_code
def yX4_faultOfPair : MethodName := ⟨RX4, "faultOfPair", "(II)I"⟩
abbrev cX4_put : ByteArray := prog_6_method_6_code
def yX4_put : MethodName := ⟨RX4, "put", "(II)V"⟩
def RX5 : String := "UnsaidBallast"
def TX5 : u_T := fun k => match k with
  | 0 => ("UnsaidBallast", "now", "LUnsaidBallast$Flight;", true)
  | 1 => ("UnsaidBallast", "trial", "LUnsaidBallast$Flight;", true)
  | 2 => ("UnsaidBallast", "images", "[LUnsaidBallast$Flight;", true)
  | 3 => ("UnsaidBallast", "kept", "[Z", true)
  | 4 => ("UnsaidBallast", "tape", "LUnsaidBallast$Reader;", true)
  | 5 => ("UnsaidBallast", "sheets", "[LUnsaidBallast$Sheet;", true)
  | 6 => ("UnsaidBallast", "choice", "LUnsaidBallast$Choice;", true)
  | 7 => ("UnsaidBallast", "heightByWeight", "[[I", true)
  | 8 => ("UnsaidBallast", "tally", "[I", true)
  | _ => ("UnsaidBallast", "torn", "I", false)
def tyX5 : Nat → FieldType := fun k => match k with
  | 0 => .object "UnsaidBallast$Flight"
  | 1 => .object "UnsaidBallast$Flight"
  | 2 => .array (.object "UnsaidBallast$Flight")
  | 3 => .array .boolean
  | 4 => .object "UnsaidBallast$Reader"
  | 5 => .array (.object "UnsaidBallast$Sheet")
  | 6 => .object "UnsaidBallast$Choice"
  | 7 => .array (.array .int)
  | 8 => .array .int
  | _ => .int
abbrev wsX50 : List Cond := u_ws RX5 TX5 10
theorem nmX5 : ∀ a, a < 10 → ∀ b, b < 10 → a ≠ b → (TX5 a).2.1 ≠ (TX5 b).2.1 := by decide +kernel
theorem tyX5_ok : ∀ k, k < 10 → parseFieldDescriptor (TX5 k).2.2.1 = some (tyX5 k) := by decide +kernel
abbrev cX5_init : ByteArray := prog_1_method_1_code
def yX5_init : MethodName := ⟨RX5, "<init>", "()V"⟩
abbrev cX5_feed : ByteArray := prog_1_method_2_code
def yX5_feed : MethodName := ⟨RX5, "feed", "(I)I"⟩
abbrev cX5_end : ByteArray := prog_1_method_3_code
def yX5_end : MethodName := ⟨RX5, "end", "(I)I"⟩
abbrev cX5_text : ByteArray := prog_1_method_4_code
def yX5_text : MethodName := ⟨RX5, "text", "()I"⟩
abbrev cX5_fault : ByteArray := prog_1_method_5_code
def yX5_fault : MethodName := ⟨RX5, "fault", "()I"⟩
abbrev cX5_rule : ByteArray := prog_1_method_6_code
def yX5_rule : MethodName := ⟨RX5, "rule", "(I)I"⟩
abbrev cX5_thing : ByteArray := prog_1_method_7_code
def yX5_thing : MethodName := ⟨RX5, "thing", "(II)I"⟩
abbrev cX5_wind : ByteArray := prog_1_method_8_code
def yX5_wind : MethodName := ⟨RX5, "wind", "(I)I"⟩
abbrev cX5_saying : ByteArray := prog_1_method_9_code
def yX5_saying : MethodName := ⟨RX5, "saying", "(II)I"⟩
abbrev cX5_alter : ByteArray := prog_1_method_10_code
def yX5_alter : MethodName := ⟨RX5, "alter", "(III)I"⟩
abbrev cX5_blow : ByteArray := prog_1_method_11_code
def yX5_blow : MethodName := ⟨RX5, "blow", "(II)I"⟩
abbrev cX5_rate : ByteArray := prog_1_method_12_code
def yX5_rate : MethodName := ⟨RX5, "rate", "(I)I"⟩
abbrev cX5_say : ByteArray := prog_1_method_13_code
def yX5_say : MethodName := ⟨RX5, "say", "(I)I"⟩
abbrev cX5_take : ByteArray := prog_1_method_14_code
def yX5_take : MethodName := ⟨RX5, "take", "(I)I"⟩
abbrev cX5_plan : ByteArray := prog_1_method_15_code
def yX5_plan : MethodName := ⟨RX5, "plan", "(II)I"⟩
abbrev cX5_cut : ByteArray := prog_1_method_16_code
def yX5_cut : MethodName := ⟨RX5, "cut", "(I)I"⟩
abbrev cX5_minutes : ByteArray := prog_1_method_17_code
def yX5_minutes : MethodName := ⟨RX5, "minutes", "(I)I"⟩
abbrev cX5_runs : ByteArray := prog_1_method_18_code
def yX5_runs : MethodName := ⟨RX5, "runs", "(II)I"⟩
abbrev cX5_falls : ByteArray := prog_1_method_19_code
def yX5_falls : MethodName := ⟨RX5, "falls", "()I"⟩
abbrev cX5_church : ByteArray := prog_1_method_20_code
def yX5_church : MethodName := ⟨RX5, "church", "(I)I"⟩
abbrev cX5_best : ByteArray := prog_1_method_21_code
def yX5_best : MethodName := ⟨RX5, "best", "(I)I"⟩
abbrev cX5_both : ByteArray := prog_1_method_22_code
def yX5_both : MethodName := ⟨RX5, "both", "(II)I"⟩
abbrev cX5_when : ByteArray := prog_1_method_23_code
def yX5_when : MethodName := ⟨RX5, "when", "(IIII)I"⟩
abbrev cX5_steer : ByteArray := prog_1_method_24_code
def yX5_steer : MethodName := ⟨RX5, "steer", "(IIII)I"⟩
abbrev cX5_hush : ByteArray := prog_1_method_25_code
def yX5_hush : MethodName := ⟨RX5, "hush", "(II)I"⟩
abbrev cX5_swap : ByteArray := prog_1_method_26_code
def yX5_swap : MethodName := ⟨RX5, "swap", "(I)I"⟩
abbrev cX5_need : ByteArray := prog_1_method_27_code
def yX5_need : MethodName := ⟨RX5, "need", "(III)I"⟩
abbrev cX5_luck : ByteArray := prog_1_method_28_code
def yX5_luck : MethodName := ⟨RX5, "luck", "(IIII)J"⟩
abbrev cX5_mean : ByteArray := prog_1_method_29_code
def yX5_mean : MethodName := ⟨RX5, "mean", "(III)J"⟩
abbrev cX5_oddsThatFail : ByteArray := prog_1_method_30_code
def yX5_oddsThatFail : MethodName := ⟨RX5, "oddsThatFail", "(II)J"⟩
abbrev cX5_allOdds : ByteArray := prog_1_method_31_code
def yX5_allOdds : MethodName := ⟨RX5, "allOdds", "()J"⟩
abbrev cX5_tryWithout : ByteArray := prog_1_method_32_code
def yX5_tryWithout : MethodName := ⟨RX5, "tryWithout", "(II)V"⟩
abbrev cX5_see : ByteArray := prog_1_method_33_code
def yX5_see : MethodName := ⟨RX5, "see", "(II)I"⟩
abbrev cX5_forget : ByteArray := prog_1_method_34_code
def yX5_forget : MethodName := ⟨RX5, "forget", "(I)I"⟩
abbrev cX5_kinds : ByteArray := prog_1_method_35_code
def yX5_kinds : MethodName := ⟨RX5, "kinds", "(I)I"⟩
abbrev cX5_weights : ByteArray := prog_1_method_36_code
def yX5_weights : MethodName := ⟨RX5, "weights", "(I)I"⟩
abbrev cX5_saids : ByteArray := prog_1_method_37_code
def yX5_saids : MethodName := ⟨RX5, "saids", "(I)I"⟩
abbrev cX5_ask : ByteArray := prog_1_method_38_code
def yX5_ask : MethodName := ⟨RX5, "ask", "(II)I"⟩
abbrev cX5_valuesAsSeen : ByteArray := prog_1_method_39_code
def yX5_valuesAsSeen : MethodName := ⟨RX5, "valuesAsSeen", "(II)I"⟩
abbrev cX5_foreseeHeightsByWeight : ByteArray := prog_1_method_40_code
def yX5_foreseeHeightsByWeight : MethodName := ⟨RX5, "foreseeHeightsByWeight", "(I)V"⟩
abbrev cX5_mostLeftByLooking : ByteArray := prog_1_method_41_code
def yX5_mostLeftByLooking : MethodName := ⟨RX5, "mostLeftByLooking", "(II)I"⟩
abbrev cX5_drift : ByteArray := prog_1_method_42_code
def yX5_drift : MethodName := ⟨RX5, "drift", "(III)I"⟩
abbrev cX5_keep : ByteArray := prog_1_method_43_code
def yX5_keep : MethodName := ⟨RX5, "keep", "(I)I"⟩
abbrev cX5_back : ByteArray := prog_1_method_44_code
def yX5_back : MethodName := ⟨RX5, "back", "(I)I"⟩
abbrev cX5_sheet : ByteArray := prog_1_method_45_code
def yX5_sheet : MethodName := ⟨RX5, "sheet", "(III)I"⟩
abbrev cX5_lay : ByteArray := prog_1_method_46_code
def yX5_lay : MethodName := ⟨RX5, "lay", "(III)I"⟩
abbrev cX5_read : ByteArray := prog_1_method_47_code
def yX5_read : MethodName := ⟨RX5, "read", "(IIII)I"⟩
abbrev cX5_torn : ByteArray := prog_1_method_48_code
def yX5_torn : MethodName := ⟨RX5, "torn", "()I"⟩
abbrev cX5_count : ByteArray := prog_1_method_49_code
def yX5_count : MethodName := ⟨RX5, "count", "(I)I"⟩
abbrev cX5_forgetImages : ByteArray := prog_1_method_50_code
def yX5_forgetImages : MethodName := ⟨RX5, "forgetImages", "()V"⟩
abbrev cX5_keptImages : ByteArray := prog_1_method_51_code
def yX5_keptImages : MethodName := ⟨RX5, "keptImages", "()I"⟩
abbrev cX5_restartTrial : ByteArray := prog_1_method_52_code
def yX5_restartTrial : MethodName := ⟨RX5, "restartTrial", "()V"⟩
abbrev cX5_isIn : ByteArray := prog_1_method_53_code
def yX5_isIn : MethodName := ⟨RX5, "isIn", "(III)Z"⟩
abbrev cX5_isPlace : ByteArray := prog_1_method_54_code
def yX5_isPlace : MethodName := ⟨RX5, "isPlace", "(I)Z"⟩
abbrev cX5_isHeight : ByteArray := prog_1_method_55_code
def yX5_isHeight : MethodName := ⟨RX5, "isHeight", "(I)Z"⟩
abbrev cX5_isForecast : ByteArray := prog_1_method_56_code
def yX5_isForecast : MethodName := ⟨RX5, "isForecast", "(I)Z"⟩
abbrev cX5_isWind : ByteArray := prog_1_method_57_code
def yX5_isWind : MethodName := ⟨RX5, "isWind", "(I)Z"⟩
abbrev cX5_isSheet : ByteArray := prog_1_method_58_code
def yX5_isSheet : MethodName := ⟨RX5, "isSheet", "(I)Z"⟩
abbrev cX5_isLane : ByteArray := prog_1_method_59_code
def yX5_isLane : MethodName := ⟨RX5, "isLane", "(I)Z"⟩
abbrev cX5_leastOf : ByteArray := prog_1_method_60_code
def yX5_leastOf : MethodName := ⟨RX5, "leastOf", "(I)I"⟩
abbrev cX5_greatestOf : ByteArray := prog_1_method_61_code
def yX5_greatestOf : MethodName := ⟨RX5, "greatestOf", "(I)I"⟩
abbrev cX5_orNone : ByteArray := prog_1_method_62_code
def yX5_orNone : MethodName := ⟨RX5, "orNone", "(I)I"⟩
abbrev cX5_bounded : ByteArray := prog_1_method_63_code
def yX5_bounded : MethodName := ⟨RX5, "bounded", "(III)I"⟩
abbrev cX5_inLowestTerms : ByteArray := prog_1_method_64_code
def yX5_inLowestTerms : MethodName := ⟨RX5, "inLowestTerms", "(JJI)J"⟩
abbrev cX5_commonDivisor : ByteArray := prog_1_method_65_code
def yX5_commonDivisor : MethodName := ⟨RX5, "commonDivisor", "(JJ)J"⟩
def RX6 : String := "UnsaidBallastModel"
def TX6 : u_T := fun k => match k with
  | 0 => ("UnsaidBallastModel", "st", "[I", true)
  | 1 => ("UnsaidBallastModel", "now", "[I", true)
  | 2 => ("UnsaidBallastModel", "isKept", "[Z", true)
  | 3 => ("UnsaidBallastModel", "things", "I", false)
  | 4 => ("UnsaidBallastModel", "draft", "[I", true)
  | 5 => ("UnsaidBallastModel", "dThings", "I", false)
  | 6 => ("UnsaidBallastModel", "toldWinds", "I", false)
  | 7 => ("UnsaidBallastModel", "hasRate", "Z", false)
  | 8 => ("UnsaidBallastModel", "hasStart", "Z", false)
  | 9 => ("UnsaidBallastModel", "tape", "[I", true)
  | 10 => ("UnsaidBallastModel", "taped", "I", false)
  | 11 => ("UnsaidBallastModel", "pos", "I", false)
  | 12 => ("UnsaidBallastModel", "begun", "I", false)
  | 13 => ("UnsaidBallastModel", "sort", "I", false)
  | 14 => ("UnsaidBallastModel", "value", "I", false)
  | 15 => ("UnsaidBallastModel", "fault", "I", false)
  | 16 => ("UnsaidBallastModel", "wrongAt", "I", false)
  | 17 => ("UnsaidBallastModel", "failing", "I", false)
  | 18 => ("UnsaidBallastModel", "later", "I", false)
  | 19 => ("UnsaidBallastModel", "laterAt", "I", false)
  | 20 => ("UnsaidBallastModel", "greatest", "I", false)
  | 21 => ("UnsaidBallastModel", "downs", "I", false)
  | 22 => ("UnsaidBallastModel", "bestCode", "I", false)
  | 23 => ("UnsaidBallastModel", "bestMuch", "I", false)
  | 24 => ("UnsaidBallastModel", "lowSum", "J", false)
  | 25 => ("UnsaidBallastModel", "heightSum", "J", false)
  | 26 => ("UnsaidBallastModel", "allWays", "J", false)
  | 27 => ("UnsaidBallastModel", "heights", "[I", true)
  | 28 => ("UnsaidBallastModel", "byWeight", "[I", true)
  | 29 => ("UnsaidBallastModel", "lanes", "[I", true)
  | 30 => ("UnsaidBallastModel", "sizes", "[I", true)
  | 31 => ("UnsaidBallastModel", "cells", "[I", true)
  | 32 => ("UnsaidBallastModel", "torn", "I", false)
  | _ => ("UnsaidBallastModel", "before", "[I", true)
def tyX6 : Nat → FieldType := fun k => match k with
  | 0 => .array .int
  | 1 => .array .int
  | 2 => .array .boolean
  | 3 => .int
  | 4 => .array .int
  | 5 => .int
  | 6 => .int
  | 7 => .boolean
  | 8 => .boolean
  | 9 => .array .int
  | 10 => .int
  | 11 => .int
  | 12 => .int
  | 13 => .int
  | 14 => .int
  | 15 => .int
  | 16 => .int
  | 17 => .int
  | 18 => .int
  | 19 => .int
  | 20 => .int
  | 21 => .int
  | 22 => .int
  | 23 => .int
  | 24 => .long
  | 25 => .long
  | 26 => .long
  | 27 => .array .int
  | 28 => .array .int
  | 29 => .array .int
  | 30 => .array .int
  | 31 => .array .int
  | 32 => .int
  | _ => .array .int
abbrev wsX60 : List Cond := u_ws RX6 TX6 34
theorem nmX6 : ∀ a, a < 34 → ∀ b, b < 34 → a ≠ b → (TX6 a).2.1 ≠ (TX6 b).2.1 := by decide +kernel
theorem tyX6_ok : ∀ k, k < 34 → parseFieldDescriptor (TX6 k).2.2.1 = some (tyX6 k) := by decide +kernel
abbrev cX6_init : ByteArray := prog_8_method_1_code
def yX6_init : MethodName := ⟨RX6, "<init>", "()V"⟩
abbrev cX6_in : ByteArray := prog_8_method_3_code
def yX6_in : MethodName := ⟨RX6, "in", "(JJJ)Z"⟩
abbrev cX6_flag : ByteArray := prog_8_method_4_code
def yX6_flag : MethodName := ⟨RX6, "flag", "(Z)I"⟩
abbrev cX6_within : ByteArray := prog_8_method_6_code
def yX6_within : MethodName := ⟨RX6, "within", "(III)I"⟩
abbrev cX6_firstDraft : ByteArray := prog_8_method_7_code
def yX6_firstDraft : MethodName := ⟨RX6, "firstDraft", "()V"⟩
abbrev cX6_keepDraft : ByteArray := prog_8_method_8_code
def yX6_keepDraft : MethodName := ⟨RX6, "keepDraft", "()V"⟩
abbrev cX6_feed : ByteArray := prog_8_method_9_code
def yX6_feed : MethodName := ⟨RX6, "feed", "(I)I"⟩
abbrev cX6_end : ByteArray := prog_8_method_10_code
def yX6_end : MethodName := ⟨RX6, "end", "(I)I"⟩
abbrev cX6_needs : ByteArray := prog_8_method_11_code
def yX6_needs : MethodName := ⟨RX6, "needs", "(ZI)V"⟩
abbrev cX6_byteAt : ByteArray := prog_8_method_12_code
def yX6_byteAt : MethodName := ⟨RX6, "byteAt", "(I)I"⟩
abbrev cX6_is : ByteArray := prog_8_method_13_code
def yX6_is : MethodName := ⟨RX6, "is", "(IIIII)Z"⟩
abbrev cX6_ends : ByteArray := prog_8_method_14_code
def yX6_ends : MethodName := ⟨RX6, "ends", "(II)Z"⟩
abbrev cX6_lineNow : ByteArray := prog_8_method_15_code
def yX6_lineNow : MethodName := ⟨RX6, "lineNow", "()I"⟩
abbrev cX6_takes : ByteArray := prog_8_method_16_code
def yX6_takes : MethodName := ⟨RX6, "takes", "()V"⟩
abbrev cX6_looked : ByteArray := prog_8_method_17_code
def yX6_looked : MethodName := ⟨RX6, "looked", "(II)I"⟩
abbrev cX6_readNumber : ByteArray := prog_8_method_18_code
def yX6_readNumber : MethodName := ⟨RX6, "readNumber", "(II)I"⟩
abbrev cX6_readWind : ByteArray := prog_8_method_19_code
def yX6_readWind : MethodName := ⟨RX6, "readWind", "()V"⟩
abbrev cX6_readLineOf : ByteArray := prog_8_method_20_code
def yX6_readLineOf : MethodName := ⟨RX6, "readLineOf", "(I)V"⟩
abbrev cX6_readLine : ByteArray := prog_8_method_21_code
def yX6_readLine : MethodName := ⟨RX6, "readLine", "()V"⟩
abbrev cX6_text : ByteArray := prog_8_method_22_code
def yX6_text : MethodName := ⟨RX6, "text", "()I"⟩
abbrev cX6_fault : ByteArray := prog_8_method_23_code
def yX6_fault : MethodName := ⟨RX6, "fault", "()I"⟩
abbrev cX6_isThing : ByteArray := prog_8_method_24_code
def yX6_isThing : MethodName := ⟨RX6, "isThing", "(I)Z"⟩
abbrev cX6_isWind : ByteArray := prog_8_method_25_code
def yX6_isWind : MethodName := ⟨RX6, "isWind", "(I)Z"⟩
abbrev cX6_isPlace : ByteArray := prog_8_method_26_code
def yX6_isPlace : MethodName := ⟨RX6, "isPlace", "(I)Z"⟩
abbrev cX6_isPart : ByteArray := prog_8_method_27_code
def yX6_isPart : MethodName := ⟨RX6, "isPart", "(I)Z"⟩
abbrev cX6_starts : ByteArray := prog_8_method_28_code
def yX6_starts : MethodName := ⟨RX6, "starts", "()V"⟩
abbrev cX6_settles : ByteArray := prog_8_method_29_code
def yX6_settles : MethodName := ⟨RX6, "settles", "()V"⟩
abbrev cX6_of : ByteArray := prog_8_method_30_code
def yX6_of : MethodName := ⟨RX6, "of", "(II)I"⟩
abbrev cX6_becomesOf : ByteArray := prog_8_method_31_code
def yX6_becomesOf : MethodName := ⟨RX6, "becomesOf", "(III)V"⟩
abbrev cX6_liftOf : ByteArray := prog_8_method_32_code
def yX6_liftOf : MethodName := ⟨RX6, "liftOf", "(I)I"⟩
abbrev cX6_liftNow : ByteArray := prog_8_method_33_code
def yX6_liftNow : MethodName := ⟨RX6, "liftNow", "()I"⟩
abbrev cX6_saidNow : ByteArray := prog_8_method_34_code
def yX6_saidNow : MethodName := ⟨RX6, "saidNow", "()I"⟩
abbrev cX6_minuteGoes : ByteArray := prog_8_method_35_code
def yX6_minuteGoes : MethodName := ⟨RX6, "minuteGoes", "()V"⟩
abbrev cX6_minutesGo : ByteArray := prog_8_method_36_code
def yX6_minutesGo : MethodName := ⟨RX6, "minutesGo", "(I)V"⟩
abbrev cX6_offPlace : ByteArray := prog_8_method_37_code
def yX6_offPlace : MethodName := ⟨RX6, "offPlace", "(I)I"⟩
abbrev cX6_rule : ByteArray := prog_8_method_38_code
def yX6_rule : MethodName := ⟨RX6, "rule", "(I)I"⟩
abbrev cX6_thing : ByteArray := prog_8_method_39_code
def yX6_thing : MethodName := ⟨RX6, "thing", "(II)I"⟩
abbrev cX6_wind : ByteArray := prog_8_method_40_code
def yX6_wind : MethodName := ⟨RX6, "wind", "(I)I"⟩
abbrev cX6_saying : ByteArray := prog_8_method_41_code
def yX6_saying : MethodName := ⟨RX6, "saying", "(II)I"⟩
abbrev cX6_becomes : ByteArray := prog_8_method_42_code
def yX6_becomes : MethodName := ⟨RX6, "becomes", "(II)I"⟩
abbrev cX6_alter : ByteArray := prog_8_method_43_code
def yX6_alter : MethodName := ⟨RX6, "alter", "(III)I"⟩
abbrev cX6_blow : ByteArray := prog_8_method_44_code
def yX6_blow : MethodName := ⟨RX6, "blow", "(II)I"⟩
abbrev cX6_rate : ByteArray := prog_8_method_45_code
def yX6_rate : MethodName := ⟨RX6, "rate", "(I)I"⟩
abbrev cX6_saidBecomes : ByteArray := prog_8_method_46_code
def yX6_saidBecomes : MethodName := ⟨RX6, "saidBecomes", "(II)I"⟩
abbrev cX6_say : ByteArray := prog_8_method_47_code
def yX6_say : MethodName := ⟨RX6, "say", "(I)I"⟩
abbrev cX6_take : ByteArray := prog_8_method_48_code
def yX6_take : MethodName := ⟨RX6, "take", "(I)I"⟩
abbrev cX6_plan : ByteArray := prog_8_method_49_code
def yX6_plan : MethodName := ⟨RX6, "plan", "(II)I"⟩
abbrev cX6_cut : ByteArray := prog_8_method_50_code
def yX6_cut : MethodName := ⟨RX6, "cut", "(I)I"⟩
abbrev cX6_minutes : ByteArray := prog_8_method_51_code
def yX6_minutes : MethodName := ⟨RX6, "minutes", "(I)I"⟩
abbrev cX6_isFar : ByteArray := prog_8_method_52_code
def yX6_isFar : MethodName := ⟨RX6, "isFar", "(I)Z"⟩
abbrev cX6_minutesCount : ByteArray := prog_8_method_53_code
def yX6_minutesCount : MethodName := ⟨RX6, "minutesCount", "(I)V"⟩
abbrev cX6_runs : ByteArray := prog_8_method_54_code
def yX6_runs : MethodName := ⟨RX6, "runs", "(II)I"⟩
abbrev cX6_minutesDown : ByteArray := prog_8_method_55_code
def yX6_minutesDown : MethodName := ⟨RX6, "minutesDown", "()I"⟩
abbrev cX6_minutesTo : ByteArray := prog_8_method_56_code
def yX6_minutesTo : MethodName := ⟨RX6, "minutesTo", "(I)I"⟩
abbrev cX6_falls : ByteArray := prog_8_method_57_code
def yX6_falls : MethodName := ⟨RX6, "falls", "()I"⟩
abbrev cX6_church : ByteArray := prog_8_method_58_code
def yX6_church : MethodName := ⟨RX6, "church", "(I)I"⟩
abbrev cX6_startsJudging : ByteArray := prog_8_method_59_code
def yX6_startsJudging : MethodName := ⟨RX6, "startsJudging", "(I)V"⟩
abbrev cX6_judges : ByteArray := prog_8_method_60_code
def yX6_judges : MethodName := ⟨RX6, "judges", "(II)V"⟩
abbrev cX6_judged : ByteArray := prog_8_method_61_code
def yX6_judged : MethodName := ⟨RX6, "judged", "(I)I"⟩
abbrev cX6_isUnsaid : ByteArray := prog_8_method_62_code
def yX6_isUnsaid : MethodName := ⟨RX6, "isUnsaid", "(I)Z"⟩
abbrev cX6_best : ByteArray := prog_8_method_63_code
def yX6_best : MethodName := ⟨RX6, "best", "(I)I"⟩
abbrev cX6_both : ByteArray := prog_8_method_64_code
def yX6_both : MethodName := ⟨RX6, "both", "(II)I"⟩
abbrev cX6_when : ByteArray := prog_8_method_65_code
def yX6_when : MethodName := ⟨RX6, "when", "(IIII)I"⟩
abbrev cX6_steer : ByteArray := prog_8_method_66_code
def yX6_steer : MethodName := ⟨RX6, "steer", "(IIII)I"⟩
abbrev cX6_hush : ByteArray := prog_8_method_67_code
def yX6_hush : MethodName := ⟨RX6, "hush", "(II)I"⟩
abbrev cX6_swap : ByteArray := prog_8_method_68_code
def yX6_swap : MethodName := ⟨RX6, "swap", "(I)I"⟩
abbrev cX6_need : ByteArray := prog_8_method_69_code
def yX6_need : MethodName := ⟨RX6, "need", "(III)I"⟩
abbrev cX6_common : ByteArray := prog_8_method_70_code
def yX6_common : MethodName := ⟨RX6, "common", "(JJ)J"⟩
abbrev cX6_told : ByteArray := prog_8_method_71_code
def yX6_told : MethodName := ⟨RX6, "told", "(JJI)J"⟩
abbrev cX6_findOdds : ByteArray := prog_8_method_72_code
def yX6_findOdds : MethodName := ⟨RX6, "findOdds", "(III)V"⟩
abbrev cX6_luck : ByteArray := prog_8_method_73_code
def yX6_luck : MethodName := ⟨RX6, "luck", "(IIII)J"⟩
abbrev cX6_mean : ByteArray := prog_8_method_74_code
def yX6_mean : MethodName := ⟨RX6, "mean", "(III)J"⟩
abbrev cX6_see : ByteArray := prog_8_method_75_code
def yX6_see : MethodName := ⟨RX6, "see", "(II)I"⟩
abbrev cX6_forget : ByteArray := prog_8_method_76_code
def yX6_forget : MethodName := ⟨RX6, "forget", "(I)I"⟩
abbrev cX6_isSo : ByteArray := prog_8_method_77_code
def yX6_isSo : MethodName := ⟨RX6, "isSo", "()Z"⟩
abbrev cX6_isSoWith : ByteArray := prog_8_method_78_code
def yX6_isSoWith : MethodName := ⟨RX6, "isSoWith", "(III)Z"⟩
abbrev cX6_kinds : ByteArray := prog_8_method_79_code
def yX6_kinds : MethodName := ⟨RX6, "kinds", "(I)I"⟩
abbrev cX6_weights : ByteArray := prog_8_method_80_code
def yX6_weights : MethodName := ⟨RX6, "weights", "(I)I"⟩
abbrev cX6_saids : ByteArray := prog_8_method_81_code
def yX6_saids : MethodName := ⟨RX6, "saids", "(I)I"⟩
abbrev cX6_ask : ByteArray := prog_8_method_82_code
def yX6_ask : MethodName := ⟨RX6, "ask", "(II)I"⟩
abbrev cX6_drift : ByteArray := prog_8_method_83_code
def yX6_drift : MethodName := ⟨RX6, "drift", "(III)I"⟩
abbrev cX6_copies : ByteArray := prog_8_method_84_code
def yX6_copies : MethodName := ⟨RX6, "copies", "(II)V"⟩
abbrev cX6_keep : ByteArray := prog_8_method_85_code
def yX6_keep : MethodName := ⟨RX6, "keep", "(I)I"⟩
abbrev cX6_back : ByteArray := prog_8_method_86_code
def yX6_back : MethodName := ⟨RX6, "back", "(I)I"⟩
abbrev cX6_isSheet : ByteArray := prog_8_method_87_code
def yX6_isSheet : MethodName := ⟨RX6, "isSheet", "(II)Z"⟩
abbrev cX6_sheet : ByteArray := prog_8_method_88_code
def yX6_sheet : MethodName := ⟨RX6, "sheet", "(III)I"⟩
abbrev cX6_lay : ByteArray := prog_8_method_89_code
def yX6_lay : MethodName := ⟨RX6, "lay", "(III)I"⟩
abbrev cX6_read : ByteArray := prog_8_method_90_code
def yX6_read : MethodName := ⟨RX6, "read", "(IIII)I"⟩
abbrev cX6_torn : ByteArray := prog_8_method_91_code
def yX6_torn : MethodName := ⟨RX6, "torn", "()I"⟩
abbrev cX6_count : ByteArray := prog_8_method_92_code
def yX6_count : MethodName := ⟨RX6, "count", "(I)I"⟩
def RJx145de : String := "java/io/Serializable"
def TJx145de : u_T := fun k => match k with
  | _ => ("", "", "", false)
def tyJx145de : Nat → FieldType := fun k => match k with
  | _ => .int
abbrev wsJx145de0 : List Cond := u_ws RJx145de TJx145de 0
theorem nmJx145de : ∀ a, a < 0 → ∀ b, b < 0 → a ≠ b → (TJx145de a).2.1 ≠ (TJx145de b).2.1 := by decide +kernel
theorem tyJx145de_ok : ∀ k, k < 0 → parseFieldDescriptor (TJx145de k).2.2.1 = some (tyJx145de k) := by decide +kernel
def RJx9f9b0 : String := "java/lang/CharSequence"
def TJx9f9b0 : u_T := fun k => match k with
  | _ => ("", "", "", false)
def tyJx9f9b0 : Nat → FieldType := fun k => match k with
  | _ => .int
abbrev wsJx9f9b00 : List Cond := u_ws RJx9f9b0 TJx9f9b0 0
theorem nmJx9f9b0 : ∀ a, a < 0 → ∀ b, b < 0 → a ≠ b → (TJx9f9b0 a).2.1 ≠ (TJx9f9b0 b).2.1 := by decide +kernel
theorem tyJx9f9b0_ok : ∀ k, k < 0 → parseFieldDescriptor (TJx9f9b0 k).2.2.1 = some (tyJx9f9b0 k) := by decide +kernel
def RJxb160c : String := "java/lang/Comparable"
def TJxb160c : u_T := fun k => match k with
  | _ => ("", "", "", false)
def tyJxb160c : Nat → FieldType := fun k => match k with
  | _ => .int
abbrev wsJxb160c0 : List Cond := u_ws RJxb160c TJxb160c 0
theorem nmJxb160c : ∀ a, a < 0 → ∀ b, b < 0 → a ≠ b → (TJxb160c a).2.1 ≠ (TJxb160c b).2.1 := by decide +kernel
theorem tyJxb160c_ok : ∀ k, k < 0 → parseFieldDescriptor (TJxb160c k).2.2.1 = some (tyJxb160c k) := by decide +kernel
def RJ6 : String := "java/lang/Integer"
def TJ6 : u_T := fun k => match k with
  | _ => ("", "", "", false)
def tyJ6 : Nat → FieldType := fun k => match k with
  | _ => .int
abbrev wsJ60 : List Cond := u_ws RJ6 TJ6 0
theorem nmJ6 : ∀ a, a < 0 → ∀ b, b < 0 → a ≠ b → (TJ6 a).2.1 ≠ (TJ6 b).2.1 := by decide +kernel
theorem tyJ6_ok : ∀ k, k < 0 → parseFieldDescriptor (TJ6 k).2.2.1 = some (tyJ6 k) := by decide +kernel
abbrev cJ6_bitCount_0f7a4 : ByteArray := prog_9_method_49_code
def yJ6_bitCount_0f7a4 : MethodName := ⟨RJ6, "bitCount", "(I)I"⟩
def RJ9 : String := "java/lang/Math"
def TJ9 : u_T := fun k => match k with
  | _ => ("", "", "", false)
def tyJ9 : Nat → FieldType := fun k => match k with
  | _ => .int
abbrev wsJ90 : List Cond := u_ws RJ9 TJ9 0
theorem nmJ9 : ∀ a, a < 0 → ∀ b, b < 0 → a ≠ b → (TJ9 a).2.1 ≠ (TJ9 b).2.1 := by decide +kernel
theorem tyJ9_ok : ∀ k, k < 0 → parseFieldDescriptor (TJ9 k).2.2.1 = some (tyJ9 k) := by decide +kernel
abbrev cJ9_abs_0f7a4 : ByteArray := prog_10_method_59_code
def yJ9_abs_0f7a4 : MethodName := ⟨RJ9, "abs", "(I)I"⟩
abbrev cJ9_max_7cf53 : ByteArray := prog_10_method_65_code
def yJ9_max_7cf53 : MethodName := ⟨RJ9, "max", "(II)I"⟩
abbrev cJ9_min_7cf53 : ByteArray := prog_10_method_69_code
def yJ9_min_7cf53 : MethodName := ⟨RJ9, "min", "(II)I"⟩
def RJ0 : String := "java/lang/String"
def TJ0 : u_T := fun k => match k with
  | _ => ("", "", "", false)
def tyJ0 : Nat → FieldType := fun k => match k with
  | _ => .int
abbrev wsJ00 : List Cond := u_ws RJ0 TJ0 0
theorem nmJ0 : ∀ a, a < 0 → ∀ b, b < 0 → a ≠ b → (TJ0 a).2.1 ≠ (TJ0 b).2.1 := by decide +kernel
theorem tyJ0_ok : ∀ k, k < 0 → parseFieldDescriptor (TJ0 k).2.2.1 = some (tyJ0 k) := by decide +kernel
abbrev cJ0_length_8abf5 : ByteArray := prog_11_method_54_code
def yJ0_length_8abf5 : MethodName := ⟨RJ0, "length", "()I"⟩
abbrev cJ0_charAt_5068e : ByteArray := prog_11_method_56_code
def yJ0_charAt_5068e : MethodName := ⟨RJ0, "charAt", "(I)C"⟩
abbrev cJ0_coder_7d493 : ByteArray := prog_11_method_152_code
def yJ0_coder_7d493 : MethodName := ⟨RJ0, "coder", "()B"⟩
abbrev cJ0_isLatin1_aae02 : ByteArray := prog_11_method_154_code
def yJ0_isLatin1_aae02 : MethodName := ⟨RJ0, "isLatin1", "()Z"⟩
abbrev cJ0_checkIndex_df160 : ByteArray := prog_11_method_155_code
def yJ0_checkIndex_df160 : MethodName := ⟨RJ0, "checkIndex", "(II)V"⟩
def RJ1 : String := "java/lang/StringLatin1"
def TJ1 : u_T := fun k => match k with
  | _ => ("", "", "", false)
def tyJ1 : Nat → FieldType := fun k => match k with
  | _ => .int
abbrev wsJ10 : List Cond := u_ws RJ1 TJ1 0
theorem nmJ1 : ∀ a, a < 0 → ∀ b, b < 0 → a ≠ b → (TJ1 a).2.1 ≠ (TJ1 b).2.1 := by decide +kernel
theorem tyJ1_ok : ∀ k, k < 0 → parseFieldDescriptor (TJ1 k).2.2.1 = some (tyJ1 k) := by decide +kernel
abbrev cJ1_charAt_3b067 : ByteArray := prog_12_method_2_code
def yJ1_charAt_3b067 : MethodName := ⟨RJ1, "charAt", "([BI)C"⟩
def RJ2 : String := "java/lang/StringUTF16"
def TJ2 : u_T := fun k => match k with
  | _ => ("", "", "", false)
def tyJ2 : Nat → FieldType := fun k => match k with
  | _ => .int
abbrev wsJ20 : List Cond := u_ws RJ2 TJ2 0
theorem nmJ2 : ∀ a, a < 0 → ∀ b, b < 0 → a ≠ b → (TJ2 a).2.1 ≠ (TJ2 b).2.1 := by decide +kernel
theorem tyJ2_ok : ∀ k, k < 0 → parseFieldDescriptor (TJ2 k).2.2.1 = some (tyJ2 k) := by decide +kernel
abbrev cJ2_getChar_3b067 : ByteArray := prog_13_method_5_code
def yJ2_getChar_3b067 : MethodName := ⟨RJ2, "getChar", "([BI)C"⟩
abbrev cJ2_length_9d52b : ByteArray := prog_13_method_6_code
def yJ2_length_9d52b : MethodName := ⟨RJ2, "length", "([B)I"⟩
abbrev cJ2_charAt_3b067 : ByteArray := prog_13_method_83_code
def yJ2_charAt_3b067 : MethodName := ⟨RJ2, "charAt", "([BI)C"⟩
abbrev cJ2_checkIndex_2214a : ByteArray := prog_13_method_91_code
def yJ2_checkIndex_2214a : MethodName := ⟨RJ2, "checkIndex", "(I[B)V"⟩
def RJxfd54e : String := "java/lang/constant/Constable"
def TJxfd54e : u_T := fun k => match k with
  | _ => ("", "", "", false)
def tyJxfd54e : Nat → FieldType := fun k => match k with
  | _ => .int
abbrev wsJxfd54e0 : List Cond := u_ws RJxfd54e TJxfd54e 0
theorem nmJxfd54e : ∀ a, a < 0 → ∀ b, b < 0 → a ≠ b → (TJxfd54e a).2.1 ≠ (TJxfd54e b).2.1 := by decide +kernel
theorem tyJxfd54e_ok : ∀ k, k < 0 → parseFieldDescriptor (TJxfd54e k).2.2.1 = some (tyJxfd54e k) := by decide +kernel
def RJx3cf43 : String := "java/lang/constant/ConstantDesc"
def TJx3cf43 : u_T := fun k => match k with
  | _ => ("", "", "", false)
def tyJx3cf43 : Nat → FieldType := fun k => match k with
  | _ => .int
abbrev wsJx3cf430 : List Cond := u_ws RJx3cf43 TJx3cf43 0
theorem nmJx3cf43 : ∀ a, a < 0 → ∀ b, b < 0 → a ≠ b → (TJx3cf43 a).2.1 ≠ (TJx3cf43 b).2.1 := by decide +kernel
theorem tyJx3cf43_ok : ∀ k, k < 0 → parseFieldDescriptor (TJx3cf43 k).2.2.1 = some (tyJx3cf43 k) := by decide +kernel
def RJ7 : String := "java/util/Arrays"
def TJ7 : u_T := fun k => match k with
  | _ => ("", "", "", false)
def tyJ7 : Nat → FieldType := fun k => match k with
  | _ => .int
abbrev wsJ70 : List Cond := u_ws RJ7 TJ7 0
theorem nmJ7 : ∀ a, a < 0 → ∀ b, b < 0 → a ≠ b → (TJ7 a).2.1 ≠ (TJ7 b).2.1 := by decide +kernel
theorem tyJ7_ok : ∀ k, k < 0 → parseFieldDescriptor (TJ7 k).2.2.1 = some (tyJ7 k) := by decide +kernel
abbrev cJ7_fill_53178 : ByteArray := prog_14_method_103_code
def yJ7_fill_53178 : MethodName := ⟨RJ7, "fill", "([II)V"⟩
def RJ3 : String := "jdk/internal/util/Preconditions"
def TJ3 : u_T := fun k => match k with
  | _ => ("", "", "", false)
def tyJ3 : Nat → FieldType := fun k => match k with
  | _ => .int
abbrev wsJ30 : List Cond := u_ws RJ3 TJ3 0
theorem nmJ3 : ∀ a, a < 0 → ∀ b, b < 0 → a ≠ b → (TJ3 a).2.1 ≠ (TJ3 b).2.1 := by decide +kernel
theorem tyJ3_ok : ∀ k, k < 0 → parseFieldDescriptor (TJ3 k).2.2.1 = some (tyJ3 k) := by decide +kernel
abbrev cJ3_checkIndex_8e157 : ByteArray := prog_15_method_11_code
def yJ3_checkIndex_8e157 : MethodName := ⟨RJ3, "checkIndex", "(IILjava/util/function/BiFunction;)I"⟩
def RL : String := "UnsaidBallastLaw"
abbrev cL_law : ByteArray := code
def yL_law : MethodName := ⟨RL, "law", "([I)Z"⟩
abbrev vwCl : List vw_C := [(RX0, TX0, 3), (RX1, TX1, 12), (RX2, TX2, 3), (RX3, TX3, 12), (RX4, TX4, 3), (RX5, TX5, 10), (RX6, TX6, 34)]
end
section
theorem dX0_init_0 : decode cX0_init 0 = .ok (.aload_n 0, 1) := by decide +kernel
theorem dX0_init_1 : decode cX0_init 1 = .ok (.invokespecial 3, 3) := by decide +kernel
theorem dX0_init_4 : decode cX0_init 4 = .ok (.return_, 1) := by decide +kernel
theorem dX0_beginBelow_0 : decode cX0_beginBelow 0 = .ok (.aload_n 0, 1) := by decide +kernel
theorem dX0_beginBelow_1 : decode cX0_beginBelow 1 = .ok (.iload_n 1, 1) := by decide +kernel
theorem dX0_beginBelow_2 : decode cX0_beginBelow 2 = .ok (.putfield 9, 3) := by decide +kernel
theorem dX0_beginBelow_5 : decode cX0_beginBelow 5 = .ok (.aload_n 0, 1) := by decide +kernel
theorem dX0_beginBelow_6 : decode cX0_beginBelow 6 = .ok (.iconst 0, 1) := by decide +kernel
theorem dX0_beginBelow_7 : decode cX0_beginBelow 7 = .ok (.putfield 15, 3) := by decide +kernel
theorem dX0_beginBelow_10 : decode cX0_beginBelow 10 = .ok (.return_, 1) := by decide +kernel
theorem dX0_offer_0 : decode cX0_offer 0 = .ok (.iload_n 2, 1) := by decide +kernel
theorem dX0_offer_1 : decode cX0_offer 1 = .ok (.aload_n 0, 1) := by decide +kernel
theorem dX0_offer_2 : decode cX0_offer 2 = .ok (.getfield 9, 3) := by decide +kernel
theorem dX0_offer_5 : decode cX0_offer 5 = .ok (.if_icmp .ge 18, 3) := by decide +kernel
theorem dX0_offer_8 : decode cX0_offer 8 = .ok (.aload_n 0, 1) := by decide +kernel
theorem dX0_offer_9 : decode cX0_offer 9 = .ok (.iload_n 1, 1) := by decide +kernel
theorem dX0_offer_10 : decode cX0_offer 10 = .ok (.putfield 19, 3) := by decide +kernel
theorem dX0_offer_13 : decode cX0_offer 13 = .ok (.aload_n 0, 1) := by decide +kernel
theorem dX0_offer_14 : decode cX0_offer 14 = .ok (.iload_n 2, 1) := by decide +kernel
theorem dX0_offer_15 : decode cX0_offer 15 = .ok (.putfield 9, 3) := by decide +kernel
theorem dX0_offer_18 : decode cX0_offer 18 = .ok (.aload_n 0, 1) := by decide +kernel
theorem dX0_offer_19 : decode cX0_offer 19 = .ok (.iconst 1, 1) := by decide +kernel
theorem dX0_offer_20 : decode cX0_offer 20 = .ok (.putfield 15, 3) := by decide +kernel
theorem dX0_offer_23 : decode cX0_offer 23 = .ok (.return_, 1) := by decide +kernel
theorem dX0_answer_0 : decode cX0_answer 0 = .ok (.aload_n 0, 1) := by decide +kernel
theorem dX0_answer_1 : decode cX0_answer 1 = .ok (.getfield 15, 3) := by decide +kernel
theorem dX0_answer_4 : decode cX0_answer 4 = .ok (.ifCond .ne 6, 3) := by decide +kernel
theorem dX0_answer_7 : decode cX0_answer 7 = .ok (.bipush (-4), 2) := by decide +kernel
theorem dX0_answer_9 : decode cX0_answer 9 = .ok (.ireturn, 1) := by decide +kernel
theorem dX0_answer_10 : decode cX0_answer 10 = .ok (.iload_n 1, 1) := by decide +kernel
theorem dX0_answer_11 : decode cX0_answer 11 = .ok (.ifCond .ne 10, 3) := by decide +kernel
theorem dX0_answer_14 : decode cX0_answer 14 = .ok (.aload_n 0, 1) := by decide +kernel
theorem dX0_answer_15 : decode cX0_answer 15 = .ok (.getfield 19, 3) := by decide +kernel
theorem dX0_answer_18 : decode cX0_answer 18 = .ok (.goto 7, 3) := by decide +kernel
theorem dX0_answer_21 : decode cX0_answer 21 = .ok (.aload_n 0, 1) := by decide +kernel
theorem dX0_answer_22 : decode cX0_answer 22 = .ok (.getfield 9, 3) := by decide +kernel
theorem dX0_answer_25 : decode cX0_answer 25 = .ok (.ireturn, 1) := by decide +kernel
theorem dX1_init_0 : decode cX1_init 0 = .ok (.aload_n 0, 1) := by decide +kernel
theorem dX1_init_1 : decode cX1_init 1 = .ok (.invokespecial 3, 3) := by decide +kernel
theorem dX1_init_4 : decode cX1_init 4 = .ok (.aload_n 0, 1) := by decide +kernel
theorem dX1_init_5 : decode cX1_init 5 = .ok (.bipush 6, 2) := by decide +kernel
theorem dX1_init_7 : decode cX1_init 7 = .ok (.newarray .int, 2) := by decide +kernel
theorem dX1_init_9 : decode cX1_init 9 = .ok (.putfield 9, 3) := by decide +kernel
theorem dX1_init_12 : decode cX1_init 12 = .ok (.aload_n 0, 1) := by decide +kernel
theorem dX1_init_13 : decode cX1_init 13 = .ok (.bipush 6, 2) := by decide +kernel
theorem dX1_init_15 : decode cX1_init 15 = .ok (.newarray .int, 2) := by decide +kernel
theorem dX1_init_17 : decode cX1_init 17 = .ok (.putfield 15, 3) := by decide +kernel
theorem dX1_init_20 : decode cX1_init 20 = .ok (.aload_n 0, 1) := by decide +kernel
theorem dX1_init_21 : decode cX1_init 21 = .ok (.bipush 6, 2) := by decide +kernel
theorem dX1_init_23 : decode cX1_init 23 = .ok (.newarray .int, 2) := by decide +kernel
theorem dX1_init_25 : decode cX1_init 25 = .ok (.putfield 18, 3) := by decide +kernel
theorem dX1_init_28 : decode cX1_init 28 = .ok (.aload_n 0, 1) := by decide +kernel
theorem dX1_init_29 : decode cX1_init 29 = .ok (.iconst 5, 1) := by decide +kernel
theorem dX1_init_30 : decode cX1_init 30 = .ok (.newarray .int, 2) := by decide +kernel
theorem dX1_init_32 : decode cX1_init 32 = .ok (.putfield 21, 3) := by decide +kernel
theorem dX1_init_35 : decode cX1_init 35 = .ok (.aload_n 0, 1) := by decide +kernel
theorem dX1_init_36 : decode cX1_init 36 = .ok (.new 24, 3) := by decide +kernel
theorem dX1_init_39 : decode cX1_init 39 = .ok (.dup, 1) := by decide +kernel
theorem dX1_init_40 : decode cX1_init 40 = .ok (.bipush 8, 2) := by decide +kernel
theorem dX1_init_42 : decode cX1_init 42 = .ok (.invokespecial 26, 3) := by decide +kernel
theorem dX1_init_45 : decode cX1_init 45 = .ok (.putfield 29, 3) := by decide +kernel
theorem dX1_init_48 : decode cX1_init 48 = .ok (.aload_n 0, 1) := by decide +kernel
theorem dX1_init_49 : decode cX1_init 49 = .ok (.new 24, 3) := by decide +kernel
theorem dX1_init_52 : decode cX1_init 52 = .ok (.dup, 1) := by decide +kernel
theorem dX1_init_53 : decode cX1_init 53 = .ok (.bipush 6, 2) := by decide +kernel
theorem dX1_init_55 : decode cX1_init 55 = .ok (.invokespecial 26, 3) := by decide +kernel
theorem dX1_init_58 : decode cX1_init 58 = .ok (.putfield 33, 3) := by decide +kernel
theorem dX1_init_61 : decode cX1_init 61 = .ok (.aload_n 0, 1) := by decide +kernel
theorem dX1_init_62 : decode cX1_init 62 = .ok (.iconst 1, 1) := by decide +kernel
theorem dX1_init_63 : decode cX1_init 63 = .ok (.putfield 36, 3) := by decide +kernel
theorem dX1_init_66 : decode cX1_init 66 = .ok (.aload_n 0, 1) := by decide +kernel
theorem dX1_init_67 : decode cX1_init 67 = .ok (.getfield 21, 3) := by decide +kernel
theorem dX1_init_70 : decode cX1_init 70 = .ok (.iconst 4, 1) := by decide +kernel
theorem dX1_init_71 : decode cX1_init 71 = .ok (.invokestatic 40, 3) := by decide +kernel
theorem dX1_init_74 : decode cX1_init 74 = .ok (.return_, 1) := by decide +kernel
theorem dX1_clear_0 : decode cX1_clear 0 = .ok (.aload_n 0, 1) := by decide +kernel
theorem dX1_clear_1 : decode cX1_clear 1 = .ok (.iconst 0, 1) := by decide +kernel
theorem dX1_clear_2 : decode cX1_clear 2 = .ok (.putfield 46, 3) := by decide +kernel
theorem dX1_clear_5 : decode cX1_clear 5 = .ok (.aload_n 0, 1) := by decide +kernel
theorem dX1_clear_6 : decode cX1_clear 6 = .ok (.iconst 0, 1) := by decide +kernel
theorem dX1_clear_7 : decode cX1_clear 7 = .ok (.putfield 49, 3) := by decide +kernel
theorem dX1_clear_10 : decode cX1_clear 10 = .ok (.aload_n 0, 1) := by decide +kernel
theorem dX1_clear_11 : decode cX1_clear 11 = .ok (.iconst 0, 1) := by decide +kernel
theorem dX1_clear_12 : decode cX1_clear 12 = .ok (.putfield 52, 3) := by decide +kernel
theorem dX1_clear_15 : decode cX1_clear 15 = .ok (.aload_n 0, 1) := by decide +kernel
theorem dX1_clear_16 : decode cX1_clear 16 = .ok (.iconst 0, 1) := by decide +kernel
theorem dX1_clear_17 : decode cX1_clear 17 = .ok (.putfield 55, 3) := by decide +kernel
theorem dX1_clear_20 : decode cX1_clear 20 = .ok (.aload_n 0, 1) := by decide +kernel
theorem dX1_clear_21 : decode cX1_clear 21 = .ok (.iconst 1, 1) := by decide +kernel
theorem dX1_clear_22 : decode cX1_clear 22 = .ok (.putfield 36, 3) := by decide +kernel
theorem dX1_clear_25 : decode cX1_clear 25 = .ok (.aload_n 0, 1) := by decide +kernel
theorem dX1_clear_26 : decode cX1_clear 26 = .ok (.iconst 0, 1) := by decide +kernel
theorem dX1_clear_27 : decode cX1_clear 27 = .ok (.putfield 58, 3) := by decide +kernel
theorem dX1_clear_30 : decode cX1_clear 30 = .ok (.aload_n 0, 1) := by decide +kernel
theorem dX1_clear_31 : decode cX1_clear 31 = .ok (.getfield 21, 3) := by decide +kernel
theorem dX1_clear_34 : decode cX1_clear 34 = .ok (.iconst 4, 1) := by decide +kernel
theorem dX1_clear_35 : decode cX1_clear 35 = .ok (.invokestatic 40, 3) := by decide +kernel
theorem dX1_clear_38 : decode cX1_clear 38 = .ok (.aload_n 0, 1) := by decide +kernel
theorem dX1_clear_39 : decode cX1_clear 39 = .ok (.getfield 29, 3) := by decide +kernel
theorem dX1_clear_42 : decode cX1_clear 42 = .ok (.iconst 0, 1) := by decide +kernel
theorem dX1_clear_43 : decode cX1_clear 43 = .ok (.putfield 61, 3) := by decide +kernel
theorem dX1_clear_46 : decode cX1_clear 46 = .ok (.aload_n 0, 1) := by decide +kernel
theorem dX1_clear_47 : decode cX1_clear 47 = .ok (.getfield 33, 3) := by decide +kernel
theorem dX1_clear_50 : decode cX1_clear 50 = .ok (.iconst 0, 1) := by decide +kernel
theorem dX1_clear_51 : decode cX1_clear 51 = .ok (.putfield 61, 3) := by decide +kernel
theorem dX1_clear_54 : decode cX1_clear 54 = .ok (.return_, 1) := by decide +kernel
theorem dX1_copyFrom_0 : decode cX1_copyFrom 0 = .ok (.aload_n 0, 1) := by decide +kernel
theorem dX1_copyFrom_1 : decode cX1_copyFrom 1 = .ok (.aload_n 1, 1) := by decide +kernel
theorem dX1_copyFrom_2 : decode cX1_copyFrom 2 = .ok (.getfield 46, 3) := by decide +kernel
theorem dX1_copyFrom_5 : decode cX1_copyFrom 5 = .ok (.putfield 46, 3) := by decide +kernel
theorem dX1_copyFrom_8 : decode cX1_copyFrom 8 = .ok (.iconst 0, 1) := by decide +kernel
theorem dX1_copyFrom_9 : decode cX1_copyFrom 9 = .ok (.istore_n 2, 1) := by decide +kernel
theorem dX1_copyFrom_10 : decode cX1_copyFrom 10 = .ok (.iload_n 2, 1) := by decide +kernel
theorem dX1_copyFrom_11 : decode cX1_copyFrom 11 = .ok (.aload_n 0, 1) := by decide +kernel
theorem dX1_copyFrom_12 : decode cX1_copyFrom 12 = .ok (.getfield 46, 3) := by decide +kernel
theorem dX1_copyFrom_15 : decode cX1_copyFrom 15 = .ok (.if_icmp .ge 45, 3) := by decide +kernel
theorem dX1_copyFrom_18 : decode cX1_copyFrom 18 = .ok (.aload_n 0, 1) := by decide +kernel
theorem dX1_copyFrom_19 : decode cX1_copyFrom 19 = .ok (.getfield 9, 3) := by decide +kernel
theorem dX1_copyFrom_22 : decode cX1_copyFrom 22 = .ok (.iload_n 2, 1) := by decide +kernel
theorem dX1_copyFrom_23 : decode cX1_copyFrom 23 = .ok (.aload_n 1, 1) := by decide +kernel
theorem dX1_copyFrom_24 : decode cX1_copyFrom 24 = .ok (.getfield 9, 3) := by decide +kernel
theorem dX1_copyFrom_27 : decode cX1_copyFrom 27 = .ok (.iload_n 2, 1) := by decide +kernel
theorem dX1_copyFrom_28 : decode cX1_copyFrom 28 = .ok (.iaload, 1) := by decide +kernel
theorem dX1_copyFrom_29 : decode cX1_copyFrom 29 = .ok (.iastore, 1) := by decide +kernel
theorem dX1_copyFrom_30 : decode cX1_copyFrom 30 = .ok (.aload_n 0, 1) := by decide +kernel
theorem dX1_copyFrom_31 : decode cX1_copyFrom 31 = .ok (.getfield 15, 3) := by decide +kernel
theorem dX1_copyFrom_34 : decode cX1_copyFrom 34 = .ok (.iload_n 2, 1) := by decide +kernel
theorem dX1_copyFrom_35 : decode cX1_copyFrom 35 = .ok (.aload_n 1, 1) := by decide +kernel
theorem dX1_copyFrom_36 : decode cX1_copyFrom 36 = .ok (.getfield 15, 3) := by decide +kernel
theorem dX1_copyFrom_39 : decode cX1_copyFrom 39 = .ok (.iload_n 2, 1) := by decide +kernel
theorem dX1_copyFrom_40 : decode cX1_copyFrom 40 = .ok (.iaload, 1) := by decide +kernel
theorem dX1_copyFrom_41 : decode cX1_copyFrom 41 = .ok (.iastore, 1) := by decide +kernel
theorem dX1_copyFrom_42 : decode cX1_copyFrom 42 = .ok (.aload_n 0, 1) := by decide +kernel
theorem dX1_copyFrom_43 : decode cX1_copyFrom 43 = .ok (.getfield 18, 3) := by decide +kernel
theorem dX1_copyFrom_46 : decode cX1_copyFrom 46 = .ok (.iload_n 2, 1) := by decide +kernel
theorem dX1_copyFrom_47 : decode cX1_copyFrom 47 = .ok (.aload_n 1, 1) := by decide +kernel
theorem dX1_copyFrom_48 : decode cX1_copyFrom 48 = .ok (.getfield 18, 3) := by decide +kernel
theorem dX1_copyFrom_51 : decode cX1_copyFrom 51 = .ok (.iload_n 2, 1) := by decide +kernel
theorem dX1_copyFrom_52 : decode cX1_copyFrom 52 = .ok (.iaload, 1) := by decide +kernel
theorem dX1_copyFrom_53 : decode cX1_copyFrom 53 = .ok (.iastore, 1) := by decide +kernel
theorem dX1_copyFrom_54 : decode cX1_copyFrom 54 = .ok (.iinc 2 1, 3) := by decide +kernel
theorem dX1_copyFrom_57 : decode cX1_copyFrom 57 = .ok (.goto (-47), 3) := by decide +kernel
theorem dX1_copyFrom_60 : decode cX1_copyFrom 60 = .ok (.iconst 0, 1) := by decide +kernel
theorem dX1_copyFrom_61 : decode cX1_copyFrom 61 = .ok (.istore_n 2, 1) := by decide +kernel
theorem dX1_copyFrom_62 : decode cX1_copyFrom 62 = .ok (.iload_n 2, 1) := by decide +kernel
theorem dX1_copyFrom_63 : decode cX1_copyFrom 63 = .ok (.iconst 5, 1) := by decide +kernel
theorem dX1_copyFrom_64 : decode cX1_copyFrom 64 = .ok (.if_icmp .ge 21, 3) := by decide +kernel
theorem dX1_copyFrom_67 : decode cX1_copyFrom 67 = .ok (.aload_n 0, 1) := by decide +kernel
theorem dX1_copyFrom_68 : decode cX1_copyFrom 68 = .ok (.getfield 21, 3) := by decide +kernel
theorem dX1_copyFrom_71 : decode cX1_copyFrom 71 = .ok (.iload_n 2, 1) := by decide +kernel
theorem dX1_copyFrom_72 : decode cX1_copyFrom 72 = .ok (.aload_n 1, 1) := by decide +kernel
theorem dX1_copyFrom_73 : decode cX1_copyFrom 73 = .ok (.getfield 21, 3) := by decide +kernel
theorem dX1_copyFrom_76 : decode cX1_copyFrom 76 = .ok (.iload_n 2, 1) := by decide +kernel
theorem dX1_copyFrom_77 : decode cX1_copyFrom 77 = .ok (.iaload, 1) := by decide +kernel
theorem dX1_copyFrom_78 : decode cX1_copyFrom 78 = .ok (.iastore, 1) := by decide +kernel
theorem dX1_copyFrom_79 : decode cX1_copyFrom 79 = .ok (.iinc 2 1, 3) := by decide +kernel
theorem dX1_copyFrom_82 : decode cX1_copyFrom 82 = .ok (.goto (-20), 3) := by decide +kernel
theorem dX1_copyFrom_85 : decode cX1_copyFrom 85 = .ok (.aload_n 0, 1) := by decide +kernel
theorem dX1_copyFrom_86 : decode cX1_copyFrom 86 = .ok (.getfield 29, 3) := by decide +kernel
theorem dX1_copyFrom_89 : decode cX1_copyFrom 89 = .ok (.aload_n 1, 1) := by decide +kernel
theorem dX1_copyFrom_90 : decode cX1_copyFrom 90 = .ok (.getfield 29, 3) := by decide +kernel
theorem dX1_copyFrom_93 : decode cX1_copyFrom 93 = .ok (.invokevirtual 64, 3) := by decide +kernel
theorem dX1_copyFrom_96 : decode cX1_copyFrom 96 = .ok (.aload_n 0, 1) := by decide +kernel
theorem dX1_copyFrom_97 : decode cX1_copyFrom 97 = .ok (.getfield 33, 3) := by decide +kernel
theorem dX1_copyFrom_100 : decode cX1_copyFrom 100 = .ok (.aload_n 1, 1) := by decide +kernel
theorem dX1_copyFrom_101 : decode cX1_copyFrom 101 = .ok (.getfield 33, 3) := by decide +kernel
theorem dX1_copyFrom_104 : decode cX1_copyFrom 104 = .ok (.invokevirtual 64, 3) := by decide +kernel
theorem dX1_copyFrom_107 : decode cX1_copyFrom 107 = .ok (.aload_n 0, 1) := by decide +kernel
theorem dX1_copyFrom_108 : decode cX1_copyFrom 108 = .ok (.aload_n 1, 1) := by decide +kernel
theorem dX1_copyFrom_109 : decode cX1_copyFrom 109 = .ok (.getfield 49, 3) := by decide +kernel
theorem dX1_copyFrom_112 : decode cX1_copyFrom 112 = .ok (.putfield 49, 3) := by decide +kernel
theorem dX1_copyFrom_115 : decode cX1_copyFrom 115 = .ok (.aload_n 0, 1) := by decide +kernel
theorem dX1_copyFrom_116 : decode cX1_copyFrom 116 = .ok (.aload_n 1, 1) := by decide +kernel
theorem dX1_copyFrom_117 : decode cX1_copyFrom 117 = .ok (.getfield 52, 3) := by decide +kernel
theorem dX1_copyFrom_120 : decode cX1_copyFrom 120 = .ok (.putfield 52, 3) := by decide +kernel
theorem dX1_copyFrom_123 : decode cX1_copyFrom 123 = .ok (.aload_n 0, 1) := by decide +kernel
theorem dX1_copyFrom_124 : decode cX1_copyFrom 124 = .ok (.aload_n 1, 1) := by decide +kernel
theorem dX1_copyFrom_125 : decode cX1_copyFrom 125 = .ok (.getfield 55, 3) := by decide +kernel
theorem dX1_copyFrom_128 : decode cX1_copyFrom 128 = .ok (.putfield 55, 3) := by decide +kernel
theorem dX1_copyFrom_131 : decode cX1_copyFrom 131 = .ok (.aload_n 0, 1) := by decide +kernel
theorem dX1_copyFrom_132 : decode cX1_copyFrom 132 = .ok (.aload_n 1, 1) := by decide +kernel
theorem dX1_copyFrom_133 : decode cX1_copyFrom 133 = .ok (.getfield 36, 3) := by decide +kernel
theorem dX1_copyFrom_136 : decode cX1_copyFrom 136 = .ok (.putfield 36, 3) := by decide +kernel
theorem dX1_copyFrom_139 : decode cX1_copyFrom 139 = .ok (.aload_n 0, 1) := by decide +kernel
theorem dX1_copyFrom_140 : decode cX1_copyFrom 140 = .ok (.aload_n 1, 1) := by decide +kernel
theorem dX1_copyFrom_141 : decode cX1_copyFrom 141 = .ok (.getfield 58, 3) := by decide +kernel
theorem dX1_copyFrom_144 : decode cX1_copyFrom 144 = .ok (.putfield 58, 3) := by decide +kernel
theorem dX1_copyFrom_147 : decode cX1_copyFrom 147 = .ok (.return_, 1) := by decide +kernel
theorem dX1_hasThing_0 : decode cX1_hasThing 0 = .ok (.iload_n 1, 1) := by decide +kernel
theorem dX1_hasThing_1 : decode cX1_hasThing 1 = .ok (.iconst 0, 1) := by decide +kernel
theorem dX1_hasThing_2 : decode cX1_hasThing 2 = .ok (.aload_n 0, 1) := by decide +kernel
theorem dX1_hasThing_3 : decode cX1_hasThing 3 = .ok (.getfield 46, 3) := by decide +kernel
theorem dX1_hasThing_6 : decode cX1_hasThing 6 = .ok (.iconst 1, 1) := by decide +kernel
theorem dX1_hasThing_7 : decode cX1_hasThing 7 = .ok (.isub, 1) := by decide +kernel
theorem dX1_hasThing_8 : decode cX1_hasThing 8 = .ok (.invokestatic 68, 3) := by decide +kernel
theorem dX1_hasThing_11 : decode cX1_hasThing 11 = .ok (.ireturn, 1) := by decide +kernel
theorem dX1_addThing_0 : decode cX1_addThing 0 = .ok (.aload_n 0, 1) := by decide +kernel
theorem dX1_addThing_1 : decode cX1_addThing 1 = .ok (.getfield 46, 3) := by decide +kernel
theorem dX1_addThing_4 : decode cX1_addThing 4 = .ok (.bipush 6, 2) := by decide +kernel
theorem dX1_addThing_6 : decode cX1_addThing 6 = .ok (.if_icmp .lt 5, 3) := by decide +kernel
theorem dX1_addThing_9 : decode cX1_addThing 9 = .ok (.iconst 0, 1) := by decide +kernel
theorem dX1_addThing_10 : decode cX1_addThing 10 = .ok (.ireturn, 1) := by decide +kernel
theorem dX1_addThing_11 : decode cX1_addThing 11 = .ok (.aload_n 0, 1) := by decide +kernel
theorem dX1_addThing_12 : decode cX1_addThing 12 = .ok (.getfield 9, 3) := by decide +kernel
theorem dX1_addThing_15 : decode cX1_addThing 15 = .ok (.aload_n 0, 1) := by decide +kernel
theorem dX1_addThing_16 : decode cX1_addThing 16 = .ok (.getfield 46, 3) := by decide +kernel
theorem dX1_addThing_19 : decode cX1_addThing 19 = .ok (.iload_n 1, 1) := by decide +kernel
theorem dX1_addThing_20 : decode cX1_addThing 20 = .ok (.iastore, 1) := by decide +kernel
theorem dX1_addThing_21 : decode cX1_addThing 21 = .ok (.aload_n 0, 1) := by decide +kernel
theorem dX1_addThing_22 : decode cX1_addThing 22 = .ok (.getfield 15, 3) := by decide +kernel
theorem dX1_addThing_25 : decode cX1_addThing 25 = .ok (.aload_n 0, 1) := by decide +kernel
theorem dX1_addThing_26 : decode cX1_addThing 26 = .ok (.getfield 46, 3) := by decide +kernel
theorem dX1_addThing_29 : decode cX1_addThing 29 = .ok (.iload_n 2, 1) := by decide +kernel
theorem dX1_addThing_30 : decode cX1_addThing 30 = .ok (.iastore, 1) := by decide +kernel
theorem dX1_addThing_31 : decode cX1_addThing 31 = .ok (.aload_n 0, 1) := by decide +kernel
theorem dX1_addThing_32 : decode cX1_addThing 32 = .ok (.getfield 18, 3) := by decide +kernel
theorem dX1_addThing_35 : decode cX1_addThing 35 = .ok (.aload_n 0, 1) := by decide +kernel
theorem dX1_addThing_36 : decode cX1_addThing 36 = .ok (.getfield 46, 3) := by decide +kernel
theorem dX1_addThing_39 : decode cX1_addThing 39 = .ok (.iload_n 3, 1) := by decide +kernel
theorem dX1_addThing_40 : decode cX1_addThing 40 = .ok (.iastore, 1) := by decide +kernel
theorem dX1_addThing_41 : decode cX1_addThing 41 = .ok (.aload_n 0, 1) := by decide +kernel
theorem dX1_addThing_42 : decode cX1_addThing 42 = .ok (.dup, 1) := by decide +kernel
theorem dX1_addThing_43 : decode cX1_addThing 43 = .ok (.getfield 46, 3) := by decide +kernel
theorem dX1_addThing_46 : decode cX1_addThing 46 = .ok (.iconst 1, 1) := by decide +kernel
theorem dX1_addThing_47 : decode cX1_addThing 47 = .ok (.iadd, 1) := by decide +kernel
theorem dX1_addThing_48 : decode cX1_addThing 48 = .ok (.putfield 46, 3) := by decide +kernel
theorem dX1_addThing_51 : decode cX1_addThing 51 = .ok (.iconst 1, 1) := by decide +kernel
theorem dX1_addThing_52 : decode cX1_addThing 52 = .ok (.ireturn, 1) := by decide +kernel
theorem dX1_rowOf_0 : decode cX1_rowOf 0 = .ok (.iload_n 1, 1) := by decide +kernel
theorem dX1_rowOf_1 : decode cX1_rowOf 1 = .ok (.ifCond .ne 10, 3) := by decide +kernel
theorem dX1_rowOf_4 : decode cX1_rowOf 4 = .ok (.aload_n 0, 1) := by decide +kernel
theorem dX1_rowOf_5 : decode cX1_rowOf 5 = .ok (.getfield 9, 3) := by decide +kernel
theorem dX1_rowOf_8 : decode cX1_rowOf 8 = .ok (.goto 19, 3) := by decide +kernel
theorem dX1_rowOf_11 : decode cX1_rowOf 11 = .ok (.iload_n 1, 1) := by decide +kernel
theorem dX1_rowOf_12 : decode cX1_rowOf 12 = .ok (.iconst 1, 1) := by decide +kernel
theorem dX1_rowOf_13 : decode cX1_rowOf 13 = .ok (.if_icmp .ne 10, 3) := by decide +kernel
theorem dX1_rowOf_16 : decode cX1_rowOf 16 = .ok (.aload_n 0, 1) := by decide +kernel
theorem dX1_rowOf_17 : decode cX1_rowOf 17 = .ok (.getfield 15, 3) := by decide +kernel
theorem dX1_rowOf_20 : decode cX1_rowOf 20 = .ok (.goto 7, 3) := by decide +kernel
theorem dX1_rowOf_23 : decode cX1_rowOf 23 = .ok (.aload_n 0, 1) := by decide +kernel
theorem dX1_rowOf_24 : decode cX1_rowOf 24 = .ok (.getfield 18, 3) := by decide +kernel
theorem dX1_rowOf_27 : decode cX1_rowOf 27 = .ok (.areturn, 1) := by decide +kernel
theorem dX1_isSaid_0 : decode cX1_isSaid 0 = .ok (.aload_n 0, 1) := by decide +kernel
theorem dX1_isSaid_1 : decode cX1_isSaid 1 = .ok (.getfield 49, 3) := by decide +kernel
theorem dX1_isSaid_4 : decode cX1_isSaid 4 = .ok (.iload_n 1, 1) := by decide +kernel
theorem dX1_isSaid_5 : decode cX1_isSaid 5 = .ok (.ishr, 1) := by decide +kernel
theorem dX1_isSaid_6 : decode cX1_isSaid 6 = .ok (.iconst 1, 1) := by decide +kernel
theorem dX1_isSaid_7 : decode cX1_isSaid 7 = .ok (.iand, 1) := by decide +kernel
theorem dX1_isSaid_8 : decode cX1_isSaid 8 = .ok (.iconst 1, 1) := by decide +kernel
theorem dX1_isSaid_9 : decode cX1_isSaid 9 = .ok (.if_icmp .ne 7, 3) := by decide +kernel
theorem dX1_isSaid_12 : decode cX1_isSaid 12 = .ok (.iconst 1, 1) := by decide +kernel
theorem dX1_isSaid_13 : decode cX1_isSaid 13 = .ok (.goto 4, 3) := by decide +kernel
theorem dX1_isSaid_16 : decode cX1_isSaid 16 = .ok (.iconst 0, 1) := by decide +kernel
theorem dX1_isSaid_17 : decode cX1_isSaid 17 = .ok (.ireturn, 1) := by decide +kernel
theorem dX1_setSaid_0 : decode cX1_setSaid 0 = .ok (.aload_n 0, 1) := by decide +kernel
theorem dX1_setSaid_1 : decode cX1_setSaid 1 = .ok (.iload_n 2, 1) := by decide +kernel
theorem dX1_setSaid_2 : decode cX1_setSaid 2 = .ok (.ifCond .eq 14, 3) := by decide +kernel
theorem dX1_setSaid_5 : decode cX1_setSaid 5 = .ok (.aload_n 0, 1) := by decide +kernel
theorem dX1_setSaid_6 : decode cX1_setSaid 6 = .ok (.getfield 49, 3) := by decide +kernel
theorem dX1_setSaid_9 : decode cX1_setSaid 9 = .ok (.iconst 1, 1) := by decide +kernel
theorem dX1_setSaid_10 : decode cX1_setSaid 10 = .ok (.iload_n 1, 1) := by decide +kernel
theorem dX1_setSaid_11 : decode cX1_setSaid 11 = .ok (.ishl, 1) := by decide +kernel
theorem dX1_setSaid_12 : decode cX1_setSaid 12 = .ok (.ior, 1) := by decide +kernel
theorem dX1_setSaid_13 : decode cX1_setSaid 13 = .ok (.goto 13, 3) := by decide +kernel
theorem dX1_setSaid_16 : decode cX1_setSaid 16 = .ok (.aload_n 0, 1) := by decide +kernel
theorem dX1_setSaid_17 : decode cX1_setSaid 17 = .ok (.getfield 49, 3) := by decide +kernel
theorem dX1_setSaid_20 : decode cX1_setSaid 20 = .ok (.iconst 1, 1) := by decide +kernel
theorem dX1_setSaid_21 : decode cX1_setSaid 21 = .ok (.iload_n 1, 1) := by decide +kernel
theorem dX1_setSaid_22 : decode cX1_setSaid 22 = .ok (.ishl, 1) := by decide +kernel
theorem dX1_setSaid_23 : decode cX1_setSaid 23 = .ok (.iconst (-1), 1) := by decide +kernel
theorem dX1_setSaid_24 : decode cX1_setSaid 24 = .ok (.ixor, 1) := by decide +kernel
theorem dX1_setSaid_25 : decode cX1_setSaid 25 = .ok (.iand, 1) := by decide +kernel
theorem dX1_setSaid_26 : decode cX1_setSaid 26 = .ok (.putfield 49, 3) := by decide +kernel
theorem dX1_setSaid_29 : decode cX1_setSaid 29 = .ok (.return_, 1) := by decide +kernel
theorem dX1_addSaying_0 : decode cX1_addSaying 0 = .ok (.iload_n 1, 1) := by decide +kernel
theorem dX1_addSaying_1 : decode cX1_addSaying 1 = .ok (.iconst 0, 1) := by decide +kernel
theorem dX1_addSaying_2 : decode cX1_addSaying 2 = .ok (.bipush 99, 2) := by decide +kernel
theorem dX1_addSaying_4 : decode cX1_addSaying 4 = .ok (.invokestatic 68, 3) := by decide +kernel
theorem dX1_addSaying_7 : decode cX1_addSaying 7 = .ok (.ifCond .eq 11, 3) := by decide +kernel
theorem dX1_addSaying_10 : decode cX1_addSaying 10 = .ok (.aload_n 0, 1) := by decide +kernel
theorem dX1_addSaying_11 : decode cX1_addSaying 11 = .ok (.iload_n 2, 1) := by decide +kernel
theorem dX1_addSaying_12 : decode cX1_addSaying 12 = .ok (.invokevirtual 72, 3) := by decide +kernel
theorem dX1_addSaying_15 : decode cX1_addSaying 15 = .ok (.ifCond .ne 5, 3) := by decide +kernel
theorem dX1_addSaying_18 : decode cX1_addSaying 18 = .ok (.iconst (-1), 1) := by decide +kernel
theorem dX1_addSaying_19 : decode cX1_addSaying 19 = .ok (.ireturn, 1) := by decide +kernel
theorem dX1_addSaying_20 : decode cX1_addSaying 20 = .ok (.aload_n 0, 1) := by decide +kernel
theorem dX1_addSaying_21 : decode cX1_addSaying 21 = .ok (.getfield 29, 3) := by decide +kernel
theorem dX1_addSaying_24 : decode cX1_addSaying 24 = .ok (.iload_n 1, 1) := by decide +kernel
theorem dX1_addSaying_25 : decode cX1_addSaying 25 = .ok (.iload_n 2, 1) := by decide +kernel
theorem dX1_addSaying_26 : decode cX1_addSaying 26 = .ok (.invokevirtual 76, 3) := by decide +kernel
theorem dX1_addSaying_29 : decode cX1_addSaying 29 = .ok (.ireturn, 1) := by decide +kernel
theorem dX1_liftOf_0 : decode cX1_liftOf 0 = .ok (.aload_n 0, 1) := by decide +kernel
theorem dX1_liftOf_1 : decode cX1_liftOf 1 = .ok (.getfield 15, 3) := by decide +kernel
theorem dX1_liftOf_4 : decode cX1_liftOf 4 = .ok (.iload_n 1, 1) := by decide +kernel
theorem dX1_liftOf_5 : decode cX1_liftOf 5 = .ok (.iaload, 1) := by decide +kernel
theorem dX1_liftOf_6 : decode cX1_liftOf 6 = .ok (.istore_n 2, 1) := by decide +kernel
theorem dX1_liftOf_7 : decode cX1_liftOf 7 = .ok (.aload_n 0, 1) := by decide +kernel
theorem dX1_liftOf_8 : decode cX1_liftOf 8 = .ok (.iload_n 1, 1) := by decide +kernel
theorem dX1_liftOf_9 : decode cX1_liftOf 9 = .ok (.invokevirtual 80, 3) := by decide +kernel
theorem dX1_liftOf_12 : decode cX1_liftOf 12 = .ok (.ifCond .ne 21, 3) := by decide +kernel
theorem dX1_liftOf_15 : decode cX1_liftOf 15 = .ok (.aload_n 0, 1) := by decide +kernel
theorem dX1_liftOf_16 : decode cX1_liftOf 16 = .ok (.getfield 9, 3) := by decide +kernel
theorem dX1_liftOf_19 : decode cX1_liftOf 19 = .ok (.iload_n 1, 1) := by decide +kernel
theorem dX1_liftOf_20 : decode cX1_liftOf 20 = .ok (.iaload, 1) := by decide +kernel
theorem dX1_liftOf_21 : decode cX1_liftOf 21 = .ok (.iconst 2, 1) := by decide +kernel
theorem dX1_liftOf_22 : decode cX1_liftOf 22 = .ok (.if_icmp .ne 9, 3) := by decide +kernel
theorem dX1_liftOf_25 : decode cX1_liftOf 25 = .ok (.iconst 2, 1) := by decide +kernel
theorem dX1_liftOf_26 : decode cX1_liftOf 26 = .ok (.iload_n 2, 1) := by decide +kernel
theorem dX1_liftOf_27 : decode cX1_liftOf 27 = .ok (.imul, 1) := by decide +kernel
theorem dX1_liftOf_28 : decode cX1_liftOf 28 = .ok (.goto 4, 3) := by decide +kernel
theorem dX1_liftOf_31 : decode cX1_liftOf 31 = .ok (.iload_n 2, 1) := by decide +kernel
theorem dX1_liftOf_32 : decode cX1_liftOf 32 = .ok (.ireturn, 1) := by decide +kernel
theorem dX1_liftOf_33 : decode cX1_liftOf 33 = .ok (.aload_n 0, 1) := by decide +kernel
theorem dX1_liftOf_34 : decode cX1_liftOf 34 = .ok (.getfield 9, 3) := by decide +kernel
theorem dX1_liftOf_37 : decode cX1_liftOf 37 = .ok (.iload_n 1, 1) := by decide +kernel
theorem dX1_liftOf_38 : decode cX1_liftOf 38 = .ok (.iaload, 1) := by decide +kernel
theorem dX1_liftOf_39 : decode cX1_liftOf 39 = .ok (.lookupswitch 34 #[(1, 25), (3, 29)], 25) := by decide +kernel
theorem dX1_liftOf_64 : decode cX1_liftOf 64 = .ok (.iload_n 2, 1) := by decide +kernel
theorem dX1_liftOf_65 : decode cX1_liftOf 65 = .ok (.iconst 2, 1) := by decide +kernel
theorem dX1_liftOf_66 : decode cX1_liftOf 66 = .ok (.idiv, 1) := by decide +kernel
theorem dX1_liftOf_67 : decode cX1_liftOf 67 = .ok (.ireturn, 1) := by decide +kernel
theorem dX1_liftOf_68 : decode cX1_liftOf 68 = .ok (.iload_n 2, 1) := by decide +kernel
theorem dX1_liftOf_69 : decode cX1_liftOf 69 = .ok (.iconst 2, 1) := by decide +kernel
theorem dX1_liftOf_70 : decode cX1_liftOf 70 = .ok (.idiv, 1) := by decide +kernel
theorem dX1_liftOf_71 : decode cX1_liftOf 71 = .ok (.ineg, 1) := by decide +kernel
theorem dX1_liftOf_72 : decode cX1_liftOf 72 = .ok (.ireturn, 1) := by decide +kernel
theorem dX1_liftOf_73 : decode cX1_liftOf 73 = .ok (.iconst 0, 1) := by decide +kernel
theorem dX1_liftOf_74 : decode cX1_liftOf 74 = .ok (.ireturn, 1) := by decide +kernel
theorem dX1_lift_0 : decode cX1_lift 0 = .ok (.iconst 0, 1) := by decide +kernel
theorem dX1_lift_1 : decode cX1_lift 1 = .ok (.istore_n 1, 1) := by decide +kernel
theorem dX1_lift_2 : decode cX1_lift 2 = .ok (.iconst 0, 1) := by decide +kernel
theorem dX1_lift_3 : decode cX1_lift 3 = .ok (.istore_n 2, 1) := by decide +kernel
theorem dX1_lift_4 : decode cX1_lift 4 = .ok (.iload_n 2, 1) := by decide +kernel
theorem dX1_lift_5 : decode cX1_lift 5 = .ok (.aload_n 0, 1) := by decide +kernel
theorem dX1_lift_6 : decode cX1_lift 6 = .ok (.getfield 46, 3) := by decide +kernel
theorem dX1_lift_9 : decode cX1_lift 9 = .ok (.if_icmp .ge 17, 3) := by decide +kernel
theorem dX1_lift_12 : decode cX1_lift 12 = .ok (.iload_n 1, 1) := by decide +kernel
theorem dX1_lift_13 : decode cX1_lift 13 = .ok (.aload_n 0, 1) := by decide +kernel
theorem dX1_lift_14 : decode cX1_lift 14 = .ok (.iload_n 2, 1) := by decide +kernel
theorem dX1_lift_15 : decode cX1_lift 15 = .ok (.invokevirtual 83, 3) := by decide +kernel
theorem dX1_lift_18 : decode cX1_lift 18 = .ok (.iadd, 1) := by decide +kernel
theorem dX1_lift_19 : decode cX1_lift 19 = .ok (.istore_n 1, 1) := by decide +kernel
theorem dX1_lift_20 : decode cX1_lift 20 = .ok (.iinc 2 1, 3) := by decide +kernel
theorem dX1_lift_23 : decode cX1_lift 23 = .ok (.goto (-19), 3) := by decide +kernel
theorem dX1_lift_26 : decode cX1_lift 26 = .ok (.iload_n 1, 1) := by decide +kernel
theorem dX1_lift_27 : decode cX1_lift 27 = .ok (.iconst 0, 1) := by decide +kernel
theorem dX1_lift_28 : decode cX1_lift 28 = .ok (.bipush 60, 2) := by decide +kernel
theorem dX1_lift_30 : decode cX1_lift 30 = .ok (.invokestatic 87, 3) := by decide +kernel
theorem dX1_lift_33 : decode cX1_lift 33 = .ok (.ireturn, 1) := by decide +kernel
theorem dX1_unsaidWeight_0 : decode cX1_unsaidWeight 0 = .ok (.iconst 0, 1) := by decide +kernel
theorem dX1_unsaidWeight_1 : decode cX1_unsaidWeight 1 = .ok (.istore_n 2, 1) := by decide +kernel
theorem dX1_unsaidWeight_2 : decode cX1_unsaidWeight 2 = .ok (.iconst 0, 1) := by decide +kernel
theorem dX1_unsaidWeight_3 : decode cX1_unsaidWeight 3 = .ok (.istore_n 3, 1) := by decide +kernel
theorem dX1_unsaidWeight_4 : decode cX1_unsaidWeight 4 = .ok (.iload_n 3, 1) := by decide +kernel
theorem dX1_unsaidWeight_5 : decode cX1_unsaidWeight 5 = .ok (.aload_n 0, 1) := by decide +kernel
theorem dX1_unsaidWeight_6 : decode cX1_unsaidWeight 6 = .ok (.getfield 46, 3) := by decide +kernel
theorem dX1_unsaidWeight_9 : decode cX1_unsaidWeight 9 = .ok (.if_icmp .ge 36, 3) := by decide +kernel
theorem dX1_unsaidWeight_12 : decode cX1_unsaidWeight 12 = .ok (.aload_n 0, 1) := by decide +kernel
theorem dX1_unsaidWeight_13 : decode cX1_unsaidWeight 13 = .ok (.getfield 18, 3) := by decide +kernel
theorem dX1_unsaidWeight_16 : decode cX1_unsaidWeight 16 = .ok (.iload_n 3, 1) := by decide +kernel
theorem dX1_unsaidWeight_17 : decode cX1_unsaidWeight 17 = .ok (.iaload, 1) := by decide +kernel
theorem dX1_unsaidWeight_18 : decode cX1_unsaidWeight 18 = .ok (.iload_n 1, 1) := by decide +kernel
theorem dX1_unsaidWeight_19 : decode cX1_unsaidWeight 19 = .ok (.if_icmp .ne 20, 3) := by decide +kernel
theorem dX1_unsaidWeight_22 : decode cX1_unsaidWeight 22 = .ok (.aload_n 0, 1) := by decide +kernel
theorem dX1_unsaidWeight_23 : decode cX1_unsaidWeight 23 = .ok (.iload_n 3, 1) := by decide +kernel
theorem dX1_unsaidWeight_24 : decode cX1_unsaidWeight 24 = .ok (.invokevirtual 80, 3) := by decide +kernel
theorem dX1_unsaidWeight_27 : decode cX1_unsaidWeight 27 = .ok (.ifCond .ne 12, 3) := by decide +kernel
theorem dX1_unsaidWeight_30 : decode cX1_unsaidWeight 30 = .ok (.iload_n 2, 1) := by decide +kernel
theorem dX1_unsaidWeight_31 : decode cX1_unsaidWeight 31 = .ok (.aload_n 0, 1) := by decide +kernel
theorem dX1_unsaidWeight_32 : decode cX1_unsaidWeight 32 = .ok (.getfield 15, 3) := by decide +kernel
theorem dX1_unsaidWeight_35 : decode cX1_unsaidWeight 35 = .ok (.iload_n 3, 1) := by decide +kernel
theorem dX1_unsaidWeight_36 : decode cX1_unsaidWeight 36 = .ok (.iaload, 1) := by decide +kernel
theorem dX1_unsaidWeight_37 : decode cX1_unsaidWeight 37 = .ok (.iadd, 1) := by decide +kernel
theorem dX1_unsaidWeight_38 : decode cX1_unsaidWeight 38 = .ok (.istore_n 2, 1) := by decide +kernel
theorem dX1_unsaidWeight_39 : decode cX1_unsaidWeight 39 = .ok (.iinc 3 1, 3) := by decide +kernel
theorem dX1_unsaidWeight_42 : decode cX1_unsaidWeight 42 = .ok (.goto (-38), 3) := by decide +kernel
theorem dX1_unsaidWeight_45 : decode cX1_unsaidWeight 45 = .ok (.iload_n 2, 1) := by decide +kernel
theorem dX1_unsaidWeight_46 : decode cX1_unsaidWeight 46 = .ok (.ireturn, 1) := by decide +kernel
theorem dX1_offFrom_0 : decode cX1_offFrom 0 = .ok (.aload_n 0, 1) := by decide +kernel
theorem dX1_offFrom_1 : decode cX1_offFrom 1 = .ok (.getfield 55, 3) := by decide +kernel
theorem dX1_offFrom_4 : decode cX1_offFrom 4 = .ok (.iload_n 1, 1) := by decide +kernel
theorem dX1_offFrom_5 : decode cX1_offFrom 5 = .ok (.isub, 1) := by decide +kernel
theorem dX1_offFrom_6 : decode cX1_offFrom 6 = .ok (.invokestatic 91, 3) := by decide +kernel
theorem dX1_offFrom_9 : decode cX1_offFrom 9 = .ok (.ireturn, 1) := by decide +kernel
theorem dX1_pass_0 : decode cX1_pass 0 = .ok (.iconst 0, 1) := by decide +kernel
theorem dX1_pass_1 : decode cX1_pass 1 = .ok (.istore_n 1, 1) := by decide +kernel
theorem dX1_pass_2 : decode cX1_pass 2 = .ok (.iload_n 1, 1) := by decide +kernel
theorem dX1_pass_3 : decode cX1_pass 3 = .ok (.aload_n 0, 1) := by decide +kernel
theorem dX1_pass_4 : decode cX1_pass 4 = .ok (.getfield 29, 3) := by decide +kernel
theorem dX1_pass_7 : decode cX1_pass 7 = .ok (.getfield 61, 3) := by decide +kernel
theorem dX1_pass_10 : decode cX1_pass 10 = .ok (.if_icmp .ge 39, 3) := by decide +kernel
theorem dX1_pass_13 : decode cX1_pass 13 = .ok (.aload_n 0, 1) := by decide +kernel
theorem dX1_pass_14 : decode cX1_pass 14 = .ok (.getfield 29, 3) := by decide +kernel
theorem dX1_pass_17 : decode cX1_pass 17 = .ok (.getfield 96, 3) := by decide +kernel
theorem dX1_pass_20 : decode cX1_pass 20 = .ok (.iload_n 1, 1) := by decide +kernel
theorem dX1_pass_21 : decode cX1_pass 21 = .ok (.iaload, 1) := by decide +kernel
theorem dX1_pass_22 : decode cX1_pass 22 = .ok (.aload_n 0, 1) := by decide +kernel
theorem dX1_pass_23 : decode cX1_pass 23 = .ok (.getfield 58, 3) := by decide +kernel
theorem dX1_pass_26 : decode cX1_pass 26 = .ok (.if_icmp .ne 17, 3) := by decide +kernel
theorem dX1_pass_29 : decode cX1_pass 29 = .ok (.aload_n 0, 1) := by decide +kernel
theorem dX1_pass_30 : decode cX1_pass 30 = .ok (.aload_n 0, 1) := by decide +kernel
theorem dX1_pass_31 : decode cX1_pass 31 = .ok (.getfield 29, 3) := by decide +kernel
theorem dX1_pass_34 : decode cX1_pass 34 = .ok (.getfield 99, 3) := by decide +kernel
theorem dX1_pass_37 : decode cX1_pass 37 = .ok (.iload_n 1, 1) := by decide +kernel
theorem dX1_pass_38 : decode cX1_pass 38 = .ok (.iaload, 1) := by decide +kernel
theorem dX1_pass_39 : decode cX1_pass 39 = .ok (.iconst 1, 1) := by decide +kernel
theorem dX1_pass_40 : decode cX1_pass 40 = .ok (.invokevirtual 102, 3) := by decide +kernel
theorem dX1_pass_43 : decode cX1_pass 43 = .ok (.iinc 1 1, 3) := by decide +kernel
theorem dX1_pass_46 : decode cX1_pass 46 = .ok (.goto (-44), 3) := by decide +kernel
theorem dX1_pass_49 : decode cX1_pass 49 = .ok (.aload_n 0, 1) := by decide +kernel
theorem dX1_pass_50 : decode cX1_pass 50 = .ok (.dup, 1) := by decide +kernel
theorem dX1_pass_51 : decode cX1_pass 51 = .ok (.getfield 52, 3) := by decide +kernel
theorem dX1_pass_54 : decode cX1_pass 54 = .ok (.aload_n 0, 1) := by decide +kernel
theorem dX1_pass_55 : decode cX1_pass 55 = .ok (.invokevirtual 106, 3) := by decide +kernel
theorem dX1_pass_58 : decode cX1_pass 58 = .ok (.aload_n 0, 1) := by decide +kernel
theorem dX1_pass_59 : decode cX1_pass 59 = .ok (.getfield 52, 3) := by decide +kernel
theorem dX1_pass_62 : decode cX1_pass 62 = .ok (.isub, 1) := by decide +kernel
theorem dX1_pass_63 : decode cX1_pass 63 = .ok (.aload_n 0, 1) := by decide +kernel
theorem dX1_pass_64 : decode cX1_pass 64 = .ok (.getfield 36, 3) := by decide +kernel
theorem dX1_pass_67 : decode cX1_pass 67 = .ok (.ineg, 1) := by decide +kernel
theorem dX1_pass_68 : decode cX1_pass 68 = .ok (.aload_n 0, 1) := by decide +kernel
theorem dX1_pass_69 : decode cX1_pass 69 = .ok (.getfield 36, 3) := by decide +kernel
theorem dX1_pass_72 : decode cX1_pass 72 = .ok (.invokestatic 87, 3) := by decide +kernel
theorem dX1_pass_75 : decode cX1_pass 75 = .ok (.iadd, 1) := by decide +kernel
theorem dX1_pass_76 : decode cX1_pass 76 = .ok (.putfield 52, 3) := by decide +kernel
theorem dX1_pass_79 : decode cX1_pass 79 = .ok (.aload_n 0, 1) := by decide +kernel
theorem dX1_pass_80 : decode cX1_pass 80 = .ok (.aload_n 0, 1) := by decide +kernel
theorem dX1_pass_81 : decode cX1_pass 81 = .ok (.getfield 55, 3) := by decide +kernel
theorem dX1_pass_84 : decode cX1_pass 84 = .ok (.aload_n 0, 1) := by decide +kernel
theorem dX1_pass_85 : decode cX1_pass 85 = .ok (.getfield 21, 3) := by decide +kernel
theorem dX1_pass_88 : decode cX1_pass 88 = .ok (.aload_n 0, 1) := by decide +kernel
theorem dX1_pass_89 : decode cX1_pass 89 = .ok (.invokevirtual 110, 3) := by decide +kernel
theorem dX1_pass_92 : decode cX1_pass 92 = .ok (.iaload, 1) := by decide +kernel
theorem dX1_pass_93 : decode cX1_pass 93 = .ok (.iadd, 1) := by decide +kernel
theorem dX1_pass_94 : decode cX1_pass 94 = .ok (.iconst 4, 1) := by decide +kernel
theorem dX1_pass_95 : decode cX1_pass 95 = .ok (.isub, 1) := by decide +kernel
theorem dX1_pass_96 : decode cX1_pass 96 = .ok (.iconst 0, 1) := by decide +kernel
theorem dX1_pass_97 : decode cX1_pass 97 = .ok (.bipush 99, 2) := by decide +kernel
theorem dX1_pass_99 : decode cX1_pass 99 = .ok (.invokestatic 87, 3) := by decide +kernel
theorem dX1_pass_102 : decode cX1_pass 102 = .ok (.putfield 55, 3) := by decide +kernel
theorem dX1_pass_105 : decode cX1_pass 105 = .ok (.aload_n 0, 1) := by decide +kernel
theorem dX1_pass_106 : decode cX1_pass 106 = .ok (.dup, 1) := by decide +kernel
theorem dX1_pass_107 : decode cX1_pass 107 = .ok (.getfield 58, 3) := by decide +kernel
theorem dX1_pass_110 : decode cX1_pass 110 = .ok (.iconst 1, 1) := by decide +kernel
theorem dX1_pass_111 : decode cX1_pass 111 = .ok (.iadd, 1) := by decide +kernel
theorem dX1_pass_112 : decode cX1_pass 112 = .ok (.putfield 58, 3) := by decide +kernel
theorem dX1_pass_115 : decode cX1_pass 115 = .ok (.return_, 1) := by decide +kernel
theorem dX1_windAloft_0 : decode cX1_windAloft 0 = .ok (.aload_n 0, 1) := by decide +kernel
theorem dX1_windAloft_1 : decode cX1_windAloft 1 = .ok (.getfield 52, 3) := by decide +kernel
theorem dX1_windAloft_4 : decode cX1_windAloft 4 = .ok (.bipush 10, 2) := by decide +kernel
theorem dX1_windAloft_6 : decode cX1_windAloft 6 = .ok (.idiv, 1) := by decide +kernel
theorem dX1_windAloft_7 : decode cX1_windAloft 7 = .ok (.iconst 0, 1) := by decide +kernel
theorem dX1_windAloft_8 : decode cX1_windAloft 8 = .ok (.iconst 4, 1) := by decide +kernel
theorem dX1_windAloft_9 : decode cX1_windAloft 9 = .ok (.invokestatic 87, 3) := by decide +kernel
theorem dX1_windAloft_12 : decode cX1_windAloft 12 = .ok (.ireturn, 1) := by decide +kernel
theorem dX1_passAll_0 : decode cX1_passAll 0 = .ok (.iconst 0, 1) := by decide +kernel
theorem dX1_passAll_1 : decode cX1_passAll 1 = .ok (.istore_n 2, 1) := by decide +kernel
theorem dX1_passAll_2 : decode cX1_passAll 2 = .ok (.iload_n 2, 1) := by decide +kernel
theorem dX1_passAll_3 : decode cX1_passAll 3 = .ok (.iload_n 1, 1) := by decide +kernel
theorem dX1_passAll_4 : decode cX1_passAll 4 = .ok (.if_icmp .ge 13, 3) := by decide +kernel
theorem dX1_passAll_7 : decode cX1_passAll 7 = .ok (.aload_n 0, 1) := by decide +kernel
theorem dX1_passAll_8 : decode cX1_passAll 8 = .ok (.invokevirtual 113, 3) := by decide +kernel
theorem dX1_passAll_11 : decode cX1_passAll 11 = .ok (.iinc 2 1, 3) := by decide +kernel
theorem dX1_passAll_14 : decode cX1_passAll 14 = .ok (.goto (-12), 3) := by decide +kernel
theorem dX1_passAll_17 : decode cX1_passAll 17 = .ok (.return_, 1) := by decide +kernel
theorem dX1_greatestHeight_0 : decode cX1_greatestHeight 0 = .ok (.aload_n 0, 1) := by decide +kernel
theorem dX1_greatestHeight_1 : decode cX1_greatestHeight 1 = .ok (.getfield 52, 3) := by decide +kernel
theorem dX1_greatestHeight_4 : decode cX1_greatestHeight 4 = .ok (.istore_n 2, 1) := by decide +kernel
theorem dX1_greatestHeight_5 : decode cX1_greatestHeight 5 = .ok (.iconst 0, 1) := by decide +kernel
theorem dX1_greatestHeight_6 : decode cX1_greatestHeight 6 = .ok (.istore_n 3, 1) := by decide +kernel
theorem dX1_greatestHeight_7 : decode cX1_greatestHeight 7 = .ok (.iload_n 3, 1) := by decide +kernel
theorem dX1_greatestHeight_8 : decode cX1_greatestHeight 8 = .ok (.iload_n 1, 1) := by decide +kernel
theorem dX1_greatestHeight_9 : decode cX1_greatestHeight 9 = .ok (.if_icmp .ge 22, 3) := by decide +kernel
theorem dX1_greatestHeight_12 : decode cX1_greatestHeight 12 = .ok (.aload_n 0, 1) := by decide +kernel
theorem dX1_greatestHeight_13 : decode cX1_greatestHeight 13 = .ok (.invokevirtual 113, 3) := by decide +kernel
theorem dX1_greatestHeight_16 : decode cX1_greatestHeight 16 = .ok (.iload_n 2, 1) := by decide +kernel
theorem dX1_greatestHeight_17 : decode cX1_greatestHeight 17 = .ok (.aload_n 0, 1) := by decide +kernel
theorem dX1_greatestHeight_18 : decode cX1_greatestHeight 18 = .ok (.getfield 52, 3) := by decide +kernel
theorem dX1_greatestHeight_21 : decode cX1_greatestHeight 21 = .ok (.invokestatic 116, 3) := by decide +kernel
theorem dX1_greatestHeight_24 : decode cX1_greatestHeight 24 = .ok (.istore_n 2, 1) := by decide +kernel
theorem dX1_greatestHeight_25 : decode cX1_greatestHeight 25 = .ok (.iinc 3 1, 3) := by decide +kernel
theorem dX1_greatestHeight_28 : decode cX1_greatestHeight 28 = .ok (.goto (-21), 3) := by decide +kernel
theorem dX1_greatestHeight_31 : decode cX1_greatestHeight 31 = .ok (.iload_n 2, 1) := by decide +kernel
theorem dX1_greatestHeight_32 : decode cX1_greatestHeight 32 = .ok (.ireturn, 1) := by decide +kernel
theorem dX1_timesDown_0 : decode cX1_timesDown 0 = .ok (.iconst 0, 1) := by decide +kernel
theorem dX1_timesDown_1 : decode cX1_timesDown 1 = .ok (.istore_n 2, 1) := by decide +kernel
theorem dX1_timesDown_2 : decode cX1_timesDown 2 = .ok (.iconst 0, 1) := by decide +kernel
theorem dX1_timesDown_3 : decode cX1_timesDown 3 = .ok (.istore_n 3, 1) := by decide +kernel
theorem dX1_timesDown_4 : decode cX1_timesDown 4 = .ok (.iload_n 3, 1) := by decide +kernel
theorem dX1_timesDown_5 : decode cX1_timesDown 5 = .ok (.iload_n 1, 1) := by decide +kernel
theorem dX1_timesDown_6 : decode cX1_timesDown 6 = .ok (.if_icmp .ge 28, 3) := by decide +kernel
theorem dX1_timesDown_9 : decode cX1_timesDown 9 = .ok (.aload_n 0, 1) := by decide +kernel
theorem dX1_timesDown_10 : decode cX1_timesDown 10 = .ok (.invokevirtual 113, 3) := by decide +kernel
theorem dX1_timesDown_13 : decode cX1_timesDown 13 = .ok (.iload_n 2, 1) := by decide +kernel
theorem dX1_timesDown_14 : decode cX1_timesDown 14 = .ok (.aload_n 0, 1) := by decide +kernel
theorem dX1_timesDown_15 : decode cX1_timesDown 15 = .ok (.getfield 52, 3) := by decide +kernel
theorem dX1_timesDown_18 : decode cX1_timesDown 18 = .ok (.ifCond .ne 7, 3) := by decide +kernel
theorem dX1_timesDown_21 : decode cX1_timesDown 21 = .ok (.iconst 1, 1) := by decide +kernel
theorem dX1_timesDown_22 : decode cX1_timesDown 22 = .ok (.goto 4, 3) := by decide +kernel
theorem dX1_timesDown_25 : decode cX1_timesDown 25 = .ok (.iconst 0, 1) := by decide +kernel
theorem dX1_timesDown_26 : decode cX1_timesDown 26 = .ok (.iadd, 1) := by decide +kernel
theorem dX1_timesDown_27 : decode cX1_timesDown 27 = .ok (.istore_n 2, 1) := by decide +kernel
theorem dX1_timesDown_28 : decode cX1_timesDown 28 = .ok (.iinc 3 1, 3) := by decide +kernel
theorem dX1_timesDown_31 : decode cX1_timesDown 31 = .ok (.goto (-27), 3) := by decide +kernel
theorem dX1_timesDown_34 : decode cX1_timesDown 34 = .ok (.iload_n 2, 1) := by decide +kernel
theorem dX1_timesDown_35 : decode cX1_timesDown 35 = .ok (.ireturn, 1) := by decide +kernel
theorem dX1_firstDown_0 : decode cX1_firstDown 0 = .ok (.iconst 1, 1) := by decide +kernel
theorem dX1_firstDown_1 : decode cX1_firstDown 1 = .ok (.istore_n 1, 1) := by decide +kernel
theorem dX1_firstDown_2 : decode cX1_firstDown 2 = .ok (.iload_n 1, 1) := by decide +kernel
theorem dX1_firstDown_3 : decode cX1_firstDown 3 = .ok (.bipush 60, 2) := by decide +kernel
theorem dX1_firstDown_5 : decode cX1_firstDown 5 = .ok (.if_icmp .gt 22, 3) := by decide +kernel
theorem dX1_firstDown_8 : decode cX1_firstDown 8 = .ok (.aload_n 0, 1) := by decide +kernel
theorem dX1_firstDown_9 : decode cX1_firstDown 9 = .ok (.invokevirtual 113, 3) := by decide +kernel
theorem dX1_firstDown_12 : decode cX1_firstDown 12 = .ok (.aload_n 0, 1) := by decide +kernel
theorem dX1_firstDown_13 : decode cX1_firstDown 13 = .ok (.getfield 52, 3) := by decide +kernel
theorem dX1_firstDown_16 : decode cX1_firstDown 16 = .ok (.ifCond .ne 5, 3) := by decide +kernel
theorem dX1_firstDown_19 : decode cX1_firstDown 19 = .ok (.iload_n 1, 1) := by decide +kernel
theorem dX1_firstDown_20 : decode cX1_firstDown 20 = .ok (.ireturn, 1) := by decide +kernel
theorem dX1_firstDown_21 : decode cX1_firstDown 21 = .ok (.iinc 1 1, 3) := by decide +kernel
theorem dX1_firstDown_24 : decode cX1_firstDown 24 = .ok (.goto (-22), 3) := by decide +kernel
theorem dX1_firstDown_27 : decode cX1_firstDown 27 = .ok (.ldc 119, 2) := by decide +kernel
theorem dX1_firstDown_29 : decode cX1_firstDown 29 = .ok (.ireturn, 1) := by decide +kernel
theorem dX1_firstDownAt_0 : decode cX1_firstDownAt 0 = .ok (.iconst 0, 1) := by decide +kernel
theorem dX1_firstDownAt_1 : decode cX1_firstDownAt 1 = .ok (.istore_n 2, 1) := by decide +kernel
theorem dX1_firstDownAt_2 : decode cX1_firstDownAt 2 = .ok (.iload_n 2, 1) := by decide +kernel
theorem dX1_firstDownAt_3 : decode cX1_firstDownAt 3 = .ok (.bipush 60, 2) := by decide +kernel
theorem dX1_firstDownAt_5 : decode cX1_firstDownAt 5 = .ok (.if_icmp .gt 30, 3) := by decide +kernel
theorem dX1_firstDownAt_8 : decode cX1_firstDownAt 8 = .ok (.aload_n 0, 1) := by decide +kernel
theorem dX1_firstDownAt_9 : decode cX1_firstDownAt 9 = .ok (.getfield 52, 3) := by decide +kernel
theorem dX1_firstDownAt_12 : decode cX1_firstDownAt 12 = .ok (.ifCond .ne 13, 3) := by decide +kernel
theorem dX1_firstDownAt_15 : decode cX1_firstDownAt 15 = .ok (.aload_n 0, 1) := by decide +kernel
theorem dX1_firstDownAt_16 : decode cX1_firstDownAt 16 = .ok (.getfield 55, 3) := by decide +kernel
theorem dX1_firstDownAt_19 : decode cX1_firstDownAt 19 = .ok (.iload_n 1, 1) := by decide +kernel
theorem dX1_firstDownAt_20 : decode cX1_firstDownAt 20 = .ok (.if_icmp .ne 5, 3) := by decide +kernel
theorem dX1_firstDownAt_23 : decode cX1_firstDownAt 23 = .ok (.iload_n 2, 1) := by decide +kernel
theorem dX1_firstDownAt_24 : decode cX1_firstDownAt 24 = .ok (.ireturn, 1) := by decide +kernel
theorem dX1_firstDownAt_25 : decode cX1_firstDownAt 25 = .ok (.aload_n 0, 1) := by decide +kernel
theorem dX1_firstDownAt_26 : decode cX1_firstDownAt 26 = .ok (.invokevirtual 113, 3) := by decide +kernel
theorem dX1_firstDownAt_29 : decode cX1_firstDownAt 29 = .ok (.iinc 2 1, 3) := by decide +kernel
theorem dX1_firstDownAt_32 : decode cX1_firstDownAt 32 = .ok (.goto (-30), 3) := by decide +kernel
theorem dX1_firstDownAt_35 : decode cX1_firstDownAt 35 = .ok (.ldc 119, 2) := by decide +kernel
theorem dX1_firstDownAt_37 : decode cX1_firstDownAt 37 = .ok (.ireturn, 1) := by decide +kernel
theorem dX1_goesAsSeen_0 : decode cX1_goesAsSeen 0 = .ok (.iconst 0, 1) := by decide +kernel
theorem dX1_goesAsSeen_1 : decode cX1_goesAsSeen 1 = .ok (.istore_n 1, 1) := by decide +kernel
theorem dX1_goesAsSeen_2 : decode cX1_goesAsSeen 2 = .ok (.iload_n 1, 1) := by decide +kernel
theorem dX1_goesAsSeen_3 : decode cX1_goesAsSeen 3 = .ok (.bipush 30, 2) := by decide +kernel
theorem dX1_goesAsSeen_5 : decode cX1_goesAsSeen 5 = .ok (.if_icmp .gt 23, 3) := by decide +kernel
theorem dX1_goesAsSeen_8 : decode cX1_goesAsSeen 8 = .ok (.aload_n 0, 1) := by decide +kernel
theorem dX1_goesAsSeen_9 : decode cX1_goesAsSeen 9 = .ok (.iload_n 1, 1) := by decide +kernel
theorem dX1_goesAsSeen_10 : decode cX1_goesAsSeen 10 = .ok (.invokevirtual 120, 3) := by decide +kernel
theorem dX1_goesAsSeen_13 : decode cX1_goesAsSeen 13 = .ok (.ifCond .ne 5, 3) := by decide +kernel
theorem dX1_goesAsSeen_16 : decode cX1_goesAsSeen 16 = .ok (.iconst 0, 1) := by decide +kernel
theorem dX1_goesAsSeen_17 : decode cX1_goesAsSeen 17 = .ok (.ireturn, 1) := by decide +kernel
theorem dX1_goesAsSeen_18 : decode cX1_goesAsSeen 18 = .ok (.aload_n 0, 1) := by decide +kernel
theorem dX1_goesAsSeen_19 : decode cX1_goesAsSeen 19 = .ok (.invokevirtual 113, 3) := by decide +kernel
theorem dX1_goesAsSeen_22 : decode cX1_goesAsSeen 22 = .ok (.iinc 1 1, 3) := by decide +kernel
theorem dX1_goesAsSeen_25 : decode cX1_goesAsSeen 25 = .ok (.goto (-23), 3) := by decide +kernel
theorem dX1_goesAsSeen_28 : decode cX1_goesAsSeen 28 = .ok (.iconst 1, 1) := by decide +kernel
theorem dX1_goesAsSeen_29 : decode cX1_goesAsSeen 29 = .ok (.ireturn, 1) := by decide +kernel
theorem dX1_isAsSeenBehind_0 : decode cX1_isAsSeenBehind 0 = .ok (.iconst 0, 1) := by decide +kernel
theorem dX1_isAsSeenBehind_1 : decode cX1_isAsSeenBehind 1 = .ok (.istore_n 2, 1) := by decide +kernel
theorem dX1_isAsSeenBehind_2 : decode cX1_isAsSeenBehind 2 = .ok (.iload_n 2, 1) := by decide +kernel
theorem dX1_isAsSeenBehind_3 : decode cX1_isAsSeenBehind 3 = .ok (.aload_n 0, 1) := by decide +kernel
theorem dX1_isAsSeenBehind_4 : decode cX1_isAsSeenBehind 4 = .ok (.getfield 33, 3) := by decide +kernel
theorem dX1_isAsSeenBehind_7 : decode cX1_isAsSeenBehind 7 = .ok (.getfield 61, 3) := by decide +kernel
theorem dX1_isAsSeenBehind_10 : decode cX1_isAsSeenBehind 10 = .ok (.if_icmp .ge 40, 3) := by decide +kernel
theorem dX1_isAsSeenBehind_13 : decode cX1_isAsSeenBehind 13 = .ok (.aload_n 0, 1) := by decide +kernel
theorem dX1_isAsSeenBehind_14 : decode cX1_isAsSeenBehind 14 = .ok (.getfield 33, 3) := by decide +kernel
theorem dX1_isAsSeenBehind_17 : decode cX1_isAsSeenBehind 17 = .ok (.getfield 96, 3) := by decide +kernel
theorem dX1_isAsSeenBehind_20 : decode cX1_isAsSeenBehind 20 = .ok (.iload_n 2, 1) := by decide +kernel
theorem dX1_isAsSeenBehind_21 : decode cX1_isAsSeenBehind 21 = .ok (.iaload, 1) := by decide +kernel
theorem dX1_isAsSeenBehind_22 : decode cX1_isAsSeenBehind 22 = .ok (.iload_n 1, 1) := by decide +kernel
theorem dX1_isAsSeenBehind_23 : decode cX1_isAsSeenBehind 23 = .ok (.if_icmp .ne 21, 3) := by decide +kernel
theorem dX1_isAsSeenBehind_26 : decode cX1_isAsSeenBehind 26 = .ok (.aload_n 0, 1) := by decide +kernel
theorem dX1_isAsSeenBehind_27 : decode cX1_isAsSeenBehind 27 = .ok (.getfield 33, 3) := by decide +kernel
theorem dX1_isAsSeenBehind_30 : decode cX1_isAsSeenBehind 30 = .ok (.getfield 99, 3) := by decide +kernel
theorem dX1_isAsSeenBehind_33 : decode cX1_isAsSeenBehind 33 = .ok (.iload_n 2, 1) := by decide +kernel
theorem dX1_isAsSeenBehind_34 : decode cX1_isAsSeenBehind 34 = .ok (.iaload, 1) := by decide +kernel
theorem dX1_isAsSeenBehind_35 : decode cX1_isAsSeenBehind 35 = .ok (.aload_n 0, 1) := by decide +kernel
theorem dX1_isAsSeenBehind_36 : decode cX1_isAsSeenBehind 36 = .ok (.getfield 52, 3) := by decide +kernel
theorem dX1_isAsSeenBehind_39 : decode cX1_isAsSeenBehind 39 = .ok (.if_icmp .eq 5, 3) := by decide +kernel
theorem dX1_isAsSeenBehind_42 : decode cX1_isAsSeenBehind 42 = .ok (.iconst 0, 1) := by decide +kernel
theorem dX1_isAsSeenBehind_43 : decode cX1_isAsSeenBehind 43 = .ok (.ireturn, 1) := by decide +kernel
theorem dX1_isAsSeenBehind_44 : decode cX1_isAsSeenBehind 44 = .ok (.iinc 2 1, 3) := by decide +kernel
theorem dX1_isAsSeenBehind_47 : decode cX1_isAsSeenBehind 47 = .ok (.goto (-45), 3) := by decide +kernel
theorem dX1_isAsSeenBehind_50 : decode cX1_isAsSeenBehind 50 = .ok (.iconst 1, 1) := by decide +kernel
theorem dX1_isAsSeenBehind_51 : decode cX1_isAsSeenBehind 51 = .ok (.ireturn, 1) := by decide +kernel
theorem dX2_init_0 : decode cX2_init 0 = .ok (.aload_n 0, 1) := by decide +kernel
theorem dX2_init_1 : decode cX2_init 1 = .ok (.invokespecial 3, 3) := by decide +kernel
theorem dX2_init_4 : decode cX2_init 4 = .ok (.iconst 0, 1) := by decide +kernel
theorem dX2_init_5 : decode cX2_init 5 = .ok (.iload_n 1, 1) := by decide +kernel
theorem dX2_init_6 : decode cX2_init 6 = .ok (.invokestatic 9, 3) := by decide +kernel
theorem dX2_init_9 : decode cX2_init 9 = .ok (.istore_n 2, 1) := by decide +kernel
theorem dX2_init_10 : decode cX2_init 10 = .ok (.aload_n 0, 1) := by decide +kernel
theorem dX2_init_11 : decode cX2_init 11 = .ok (.iload_n 2, 1) := by decide +kernel
theorem dX2_init_12 : decode cX2_init 12 = .ok (.newarray .int, 2) := by decide +kernel
theorem dX2_init_14 : decode cX2_init 14 = .ok (.putfield 15, 3) := by decide +kernel
theorem dX2_init_17 : decode cX2_init 17 = .ok (.aload_n 0, 1) := by decide +kernel
theorem dX2_init_18 : decode cX2_init 18 = .ok (.iload_n 2, 1) := by decide +kernel
theorem dX2_init_19 : decode cX2_init 19 = .ok (.newarray .int, 2) := by decide +kernel
theorem dX2_init_21 : decode cX2_init 21 = .ok (.putfield 21, 3) := by decide +kernel
theorem dX2_init_24 : decode cX2_init 24 = .ok (.return_, 1) := by decide +kernel
theorem dX2_add_0 : decode cX2_add 0 = .ok (.aload_n 0, 1) := by decide +kernel
theorem dX2_add_1 : decode cX2_add 1 = .ok (.getfield 24, 3) := by decide +kernel
theorem dX2_add_4 : decode cX2_add 4 = .ok (.aload_n 0, 1) := by decide +kernel
theorem dX2_add_5 : decode cX2_add 5 = .ok (.getfield 15, 3) := by decide +kernel
theorem dX2_add_8 : decode cX2_add 8 = .ok (.arraylength, 1) := by decide +kernel
theorem dX2_add_9 : decode cX2_add 9 = .ok (.if_icmp .lt 6, 3) := by decide +kernel
theorem dX2_add_12 : decode cX2_add 12 = .ok (.bipush (-3), 2) := by decide +kernel
theorem dX2_add_14 : decode cX2_add 14 = .ok (.ireturn, 1) := by decide +kernel
theorem dX2_add_15 : decode cX2_add 15 = .ok (.aload_n 0, 1) := by decide +kernel
theorem dX2_add_16 : decode cX2_add 16 = .ok (.getfield 15, 3) := by decide +kernel
theorem dX2_add_19 : decode cX2_add 19 = .ok (.aload_n 0, 1) := by decide +kernel
theorem dX2_add_20 : decode cX2_add 20 = .ok (.getfield 24, 3) := by decide +kernel
theorem dX2_add_23 : decode cX2_add 23 = .ok (.iload_n 1, 1) := by decide +kernel
theorem dX2_add_24 : decode cX2_add 24 = .ok (.iastore, 1) := by decide +kernel
theorem dX2_add_25 : decode cX2_add 25 = .ok (.aload_n 0, 1) := by decide +kernel
theorem dX2_add_26 : decode cX2_add 26 = .ok (.getfield 21, 3) := by decide +kernel
theorem dX2_add_29 : decode cX2_add 29 = .ok (.aload_n 0, 1) := by decide +kernel
theorem dX2_add_30 : decode cX2_add 30 = .ok (.getfield 24, 3) := by decide +kernel
theorem dX2_add_33 : decode cX2_add 33 = .ok (.iload_n 2, 1) := by decide +kernel
theorem dX2_add_34 : decode cX2_add 34 = .ok (.iastore, 1) := by decide +kernel
theorem dX2_add_35 : decode cX2_add 35 = .ok (.aload_n 0, 1) := by decide +kernel
theorem dX2_add_36 : decode cX2_add 36 = .ok (.dup, 1) := by decide +kernel
theorem dX2_add_37 : decode cX2_add 37 = .ok (.getfield 24, 3) := by decide +kernel
theorem dX2_add_40 : decode cX2_add 40 = .ok (.iconst 1, 1) := by decide +kernel
theorem dX2_add_41 : decode cX2_add 41 = .ok (.iadd, 1) := by decide +kernel
theorem dX2_add_42 : decode cX2_add 42 = .ok (.putfield 24, 3) := by decide +kernel
theorem dX2_add_45 : decode cX2_add 45 = .ok (.aload_n 0, 1) := by decide +kernel
theorem dX2_add_46 : decode cX2_add 46 = .ok (.getfield 24, 3) := by decide +kernel
theorem dX2_add_49 : decode cX2_add 49 = .ok (.ireturn, 1) := by decide +kernel
theorem dX2_keepFirst_0 : decode cX2_keepFirst 0 = .ok (.iload_n 1, 1) := by decide +kernel
theorem dX2_keepFirst_1 : decode cX2_keepFirst 1 = .ok (.iconst 0, 1) := by decide +kernel
theorem dX2_keepFirst_2 : decode cX2_keepFirst 2 = .ok (.aload_n 0, 1) := by decide +kernel
theorem dX2_keepFirst_3 : decode cX2_keepFirst 3 = .ok (.getfield 24, 3) := by decide +kernel
theorem dX2_keepFirst_6 : decode cX2_keepFirst 6 = .ok (.invokestatic 28, 3) := by decide +kernel
theorem dX2_keepFirst_9 : decode cX2_keepFirst 9 = .ok (.ifCond .ne 5, 3) := by decide +kernel
theorem dX2_keepFirst_12 : decode cX2_keepFirst 12 = .ok (.iconst (-1), 1) := by decide +kernel
theorem dX2_keepFirst_13 : decode cX2_keepFirst 13 = .ok (.ireturn, 1) := by decide +kernel
theorem dX2_keepFirst_14 : decode cX2_keepFirst 14 = .ok (.aload_n 0, 1) := by decide +kernel
theorem dX2_keepFirst_15 : decode cX2_keepFirst 15 = .ok (.getfield 24, 3) := by decide +kernel
theorem dX2_keepFirst_18 : decode cX2_keepFirst 18 = .ok (.istore_n 2, 1) := by decide +kernel
theorem dX2_keepFirst_19 : decode cX2_keepFirst 19 = .ok (.aload_n 0, 1) := by decide +kernel
theorem dX2_keepFirst_20 : decode cX2_keepFirst 20 = .ok (.iload_n 1, 1) := by decide +kernel
theorem dX2_keepFirst_21 : decode cX2_keepFirst 21 = .ok (.putfield 24, 3) := by decide +kernel
theorem dX2_keepFirst_24 : decode cX2_keepFirst 24 = .ok (.iload_n 2, 1) := by decide +kernel
theorem dX2_keepFirst_25 : decode cX2_keepFirst 25 = .ok (.ireturn, 1) := by decide +kernel
theorem dX2_copyFrom_0 : decode cX2_copyFrom 0 = .ok (.aload_n 0, 1) := by decide +kernel
theorem dX2_copyFrom_1 : decode cX2_copyFrom 1 = .ok (.aload_n 1, 1) := by decide +kernel
theorem dX2_copyFrom_2 : decode cX2_copyFrom 2 = .ok (.getfield 24, 3) := by decide +kernel
theorem dX2_copyFrom_5 : decode cX2_copyFrom 5 = .ok (.putfield 24, 3) := by decide +kernel
theorem dX2_copyFrom_8 : decode cX2_copyFrom 8 = .ok (.iconst 0, 1) := by decide +kernel
theorem dX2_copyFrom_9 : decode cX2_copyFrom 9 = .ok (.istore_n 2, 1) := by decide +kernel
theorem dX2_copyFrom_10 : decode cX2_copyFrom 10 = .ok (.iload_n 2, 1) := by decide +kernel
theorem dX2_copyFrom_11 : decode cX2_copyFrom 11 = .ok (.aload_n 0, 1) := by decide +kernel
theorem dX2_copyFrom_12 : decode cX2_copyFrom 12 = .ok (.getfield 24, 3) := by decide +kernel
theorem dX2_copyFrom_15 : decode cX2_copyFrom 15 = .ok (.if_icmp .ge 33, 3) := by decide +kernel
theorem dX2_copyFrom_18 : decode cX2_copyFrom 18 = .ok (.aload_n 0, 1) := by decide +kernel
theorem dX2_copyFrom_19 : decode cX2_copyFrom 19 = .ok (.getfield 15, 3) := by decide +kernel
theorem dX2_copyFrom_22 : decode cX2_copyFrom 22 = .ok (.iload_n 2, 1) := by decide +kernel
theorem dX2_copyFrom_23 : decode cX2_copyFrom 23 = .ok (.aload_n 1, 1) := by decide +kernel
theorem dX2_copyFrom_24 : decode cX2_copyFrom 24 = .ok (.getfield 15, 3) := by decide +kernel
theorem dX2_copyFrom_27 : decode cX2_copyFrom 27 = .ok (.iload_n 2, 1) := by decide +kernel
theorem dX2_copyFrom_28 : decode cX2_copyFrom 28 = .ok (.iaload, 1) := by decide +kernel
theorem dX2_copyFrom_29 : decode cX2_copyFrom 29 = .ok (.iastore, 1) := by decide +kernel
theorem dX2_copyFrom_30 : decode cX2_copyFrom 30 = .ok (.aload_n 0, 1) := by decide +kernel
theorem dX2_copyFrom_31 : decode cX2_copyFrom 31 = .ok (.getfield 21, 3) := by decide +kernel
theorem dX2_copyFrom_34 : decode cX2_copyFrom 34 = .ok (.iload_n 2, 1) := by decide +kernel
theorem dX2_copyFrom_35 : decode cX2_copyFrom 35 = .ok (.aload_n 1, 1) := by decide +kernel
theorem dX2_copyFrom_36 : decode cX2_copyFrom 36 = .ok (.getfield 21, 3) := by decide +kernel
theorem dX2_copyFrom_39 : decode cX2_copyFrom 39 = .ok (.iload_n 2, 1) := by decide +kernel
theorem dX2_copyFrom_40 : decode cX2_copyFrom 40 = .ok (.iaload, 1) := by decide +kernel
theorem dX2_copyFrom_41 : decode cX2_copyFrom 41 = .ok (.iastore, 1) := by decide +kernel
theorem dX2_copyFrom_42 : decode cX2_copyFrom 42 = .ok (.iinc 2 1, 3) := by decide +kernel
theorem dX2_copyFrom_45 : decode cX2_copyFrom 45 = .ok (.goto (-35), 3) := by decide +kernel
theorem dX2_copyFrom_48 : decode cX2_copyFrom 48 = .ok (.return_, 1) := by decide +kernel
theorem dX3_init_0 : decode cX3_init 0 = .ok (.aload_n 0, 1) := by decide +kernel
theorem dX3_init_1 : decode cX3_init 1 = .ok (.invokespecial 3, 3) := by decide +kernel
theorem dX3_init_4 : decode cX3_init 4 = .ok (.aload_n 0, 1) := by decide +kernel
theorem dX3_init_5 : decode cX3_init 5 = .ok (.sipush 160, 3) := by decide +kernel
theorem dX3_init_8 : decode cX3_init 8 = .ok (.newarray .int, 2) := by decide +kernel
theorem dX3_init_10 : decode cX3_init 10 = .ok (.putfield 9, 3) := by decide +kernel
theorem dX3_init_13 : decode cX3_init 13 = .ok (.aload_n 0, 1) := by decide +kernel
theorem dX3_init_14 : decode cX3_init 14 = .ok (.sipush 160, 3) := by decide +kernel
theorem dX3_init_17 : decode cX3_init 17 = .ok (.newarray .int, 2) := by decide +kernel
theorem dX3_init_19 : decode cX3_init 19 = .ok (.putfield 15, 3) := by decide +kernel
theorem dX3_init_22 : decode cX3_init 22 = .ok (.return_, 1) := by decide +kernel
theorem dX3_append_0 : decode cX3_append 0 = .ok (.aload_n 0, 1) := by decide +kernel
theorem dX3_append_1 : decode cX3_append 1 = .ok (.getfield 18, 3) := by decide +kernel
theorem dX3_append_4 : decode cX3_append 4 = .ok (.sipush 160, 3) := by decide +kernel
theorem dX3_append_7 : decode cX3_append 7 = .ok (.if_icmp .lt 6, 3) := by decide +kernel
theorem dX3_append_10 : decode cX3_append 10 = .ok (.bipush (-3), 2) := by decide +kernel
theorem dX3_append_12 : decode cX3_append 12 = .ok (.ireturn, 1) := by decide +kernel
theorem dX3_append_13 : decode cX3_append 13 = .ok (.aload_n 0, 1) := by decide +kernel
theorem dX3_append_14 : decode cX3_append 14 = .ok (.getfield 9, 3) := by decide +kernel
theorem dX3_append_17 : decode cX3_append 17 = .ok (.aload_n 0, 1) := by decide +kernel
theorem dX3_append_18 : decode cX3_append 18 = .ok (.getfield 18, 3) := by decide +kernel
theorem dX3_append_21 : decode cX3_append 21 = .ok (.iload_n 1, 1) := by decide +kernel
theorem dX3_append_22 : decode cX3_append 22 = .ok (.iastore, 1) := by decide +kernel
theorem dX3_append_23 : decode cX3_append 23 = .ok (.aload_n 0, 1) := by decide +kernel
theorem dX3_append_24 : decode cX3_append 24 = .ok (.getfield 15, 3) := by decide +kernel
theorem dX3_append_27 : decode cX3_append 27 = .ok (.aload_n 0, 1) := by decide +kernel
theorem dX3_append_28 : decode cX3_append 28 = .ok (.getfield 18, 3) := by decide +kernel
theorem dX3_append_31 : decode cX3_append 31 = .ok (.iload_n 1, 1) := by decide +kernel
theorem dX3_append_32 : decode cX3_append 32 = .ok (.invokestatic 22, 3) := by decide +kernel
theorem dX3_append_35 : decode cX3_append 35 = .ok (.iastore, 1) := by decide +kernel
theorem dX3_append_36 : decode cX3_append 36 = .ok (.aload_n 0, 1) := by decide +kernel
theorem dX3_append_37 : decode cX3_append 37 = .ok (.dup, 1) := by decide +kernel
theorem dX3_append_38 : decode cX3_append 38 = .ok (.getfield 18, 3) := by decide +kernel
theorem dX3_append_41 : decode cX3_append 41 = .ok (.iconst 1, 1) := by decide +kernel
theorem dX3_append_42 : decode cX3_append 42 = .ok (.iadd, 1) := by decide +kernel
theorem dX3_append_43 : decode cX3_append 43 = .ok (.putfield 18, 3) := by decide +kernel
theorem dX3_append_46 : decode cX3_append 46 = .ok (.aload_n 0, 1) := by decide +kernel
theorem dX3_append_47 : decode cX3_append 47 = .ok (.getfield 18, 3) := by decide +kernel
theorem dX3_append_50 : decode cX3_append 50 = .ok (.ireturn, 1) := by decide +kernel
theorem dX3_keepFirst_0 : decode cX3_keepFirst 0 = .ok (.iload_n 1, 1) := by decide +kernel
theorem dX3_keepFirst_1 : decode cX3_keepFirst 1 = .ok (.iconst 0, 1) := by decide +kernel
theorem dX3_keepFirst_2 : decode cX3_keepFirst 2 = .ok (.aload_n 0, 1) := by decide +kernel
theorem dX3_keepFirst_3 : decode cX3_keepFirst 3 = .ok (.getfield 18, 3) := by decide +kernel
theorem dX3_keepFirst_6 : decode cX3_keepFirst 6 = .ok (.invokestatic 26, 3) := by decide +kernel
theorem dX3_keepFirst_9 : decode cX3_keepFirst 9 = .ok (.ifCond .ne 5, 3) := by decide +kernel
theorem dX3_keepFirst_12 : decode cX3_keepFirst 12 = .ok (.iconst (-1), 1) := by decide +kernel
theorem dX3_keepFirst_13 : decode cX3_keepFirst 13 = .ok (.ireturn, 1) := by decide +kernel
theorem dX3_keepFirst_14 : decode cX3_keepFirst 14 = .ok (.aload_n 0, 1) := by decide +kernel
theorem dX3_keepFirst_15 : decode cX3_keepFirst 15 = .ok (.getfield 18, 3) := by decide +kernel
theorem dX3_keepFirst_18 : decode cX3_keepFirst 18 = .ok (.istore_n 2, 1) := by decide +kernel
theorem dX3_keepFirst_19 : decode cX3_keepFirst 19 = .ok (.aload_n 0, 1) := by decide +kernel
theorem dX3_keepFirst_20 : decode cX3_keepFirst 20 = .ok (.iload_n 1, 1) := by decide +kernel
theorem dX3_keepFirst_21 : decode cX3_keepFirst 21 = .ok (.putfield 18, 3) := by decide +kernel
theorem dX3_keepFirst_24 : decode cX3_keepFirst 24 = .ok (.iload_n 2, 1) := by decide +kernel
theorem dX3_keepFirst_25 : decode cX3_keepFirst 25 = .ok (.ireturn, 1) := by decide +kernel
theorem dX3_tell_0 : decode cX3_tell 0 = .ok (.aload_n 1, 1) := by decide +kernel
theorem dX3_tell_1 : decode cX3_tell 1 = .ok (.invokevirtual 30, 3) := by decide +kernel
theorem dX3_tell_4 : decode cX3_tell 4 = .ok (.aload_n 0, 1) := by decide +kernel
theorem dX3_tell_5 : decode cX3_tell 5 = .ok (.invokevirtual 35, 3) := by decide +kernel
theorem dX3_tell_8 : decode cX3_tell 8 = .ok (.iconst 0, 1) := by decide +kernel
theorem dX3_tell_9 : decode cX3_tell 9 = .ok (.istore_n 2, 1) := by decide +kernel
theorem dX3_tell_10 : decode cX3_tell 10 = .ok (.aload_n 0, 1) := by decide +kernel
theorem dX3_tell_11 : decode cX3_tell 11 = .ok (.invokevirtual 38, 3) := by decide +kernel
theorem dX3_tell_14 : decode cX3_tell 14 = .ok (.istore_n 3, 1) := by decide +kernel
theorem dX3_tell_15 : decode cX3_tell 15 = .ok (.iload_n 3, 1) := by decide +kernel
theorem dX3_tell_16 : decode cX3_tell 16 = .ok (.ifCond .eq 44, 3) := by decide +kernel
theorem dX3_tell_19 : decode cX3_tell 19 = .ok (.aload_n 0, 1) := by decide +kernel
theorem dX3_tell_20 : decode cX3_tell 20 = .ok (.getfield 42, 3) := by decide +kernel
theorem dX3_tell_23 : decode cX3_tell 23 = .ok (.ifCond .eq 37, 3) := by decide +kernel
theorem dX3_tell_26 : decode cX3_tell 26 = .ok (.iload_n 2, 1) := by decide +kernel
theorem dX3_tell_27 : decode cX3_tell 27 = .ok (.sipush 160, 3) := by decide +kernel
theorem dX3_tell_30 : decode cX3_tell 30 = .ok (.if_icmp .ge 30, 3) := by decide +kernel
theorem dX3_tell_33 : decode cX3_tell 33 = .ok (.aload_n 0, 1) := by decide +kernel
theorem dX3_tell_34 : decode cX3_tell 34 = .ok (.aload_n 1, 1) := by decide +kernel
theorem dX3_tell_35 : decode cX3_tell 35 = .ok (.invokevirtual 45, 3) := by decide +kernel
theorem dX3_tell_38 : decode cX3_tell 38 = .ok (.ifCond .eq 14, 3) := by decide +kernel
theorem dX3_tell_41 : decode cX3_tell 41 = .ok (.aload_n 0, 1) := by decide +kernel
theorem dX3_tell_42 : decode cX3_tell 42 = .ok (.invokevirtual 38, 3) := by decide +kernel
theorem dX3_tell_45 : decode cX3_tell 45 = .ok (.ifCond .eq 7, 3) := by decide +kernel
theorem dX3_tell_48 : decode cX3_tell 48 = .ok (.iconst 1, 1) := by decide +kernel
theorem dX3_tell_49 : decode cX3_tell 49 = .ok (.goto 4, 3) := by decide +kernel
theorem dX3_tell_52 : decode cX3_tell 52 = .ok (.iconst 0, 1) := by decide +kernel
theorem dX3_tell_53 : decode cX3_tell 53 = .ok (.istore_n 3, 1) := by decide +kernel
theorem dX3_tell_54 : decode cX3_tell 54 = .ok (.iinc 2 1, 3) := by decide +kernel
theorem dX3_tell_57 : decode cX3_tell 57 = .ok (.goto (-42), 3) := by decide +kernel
theorem dX3_tell_60 : decode cX3_tell 60 = .ok (.aload_n 0, 1) := by decide +kernel
theorem dX3_tell_61 : decode cX3_tell 61 = .ok (.iconst 0, 1) := by decide +kernel
theorem dX3_tell_62 : decode cX3_tell 62 = .ok (.putfield 18, 3) := by decide +kernel
theorem dX3_tell_65 : decode cX3_tell 65 = .ok (.iload_n 3, 1) := by decide +kernel
theorem dX3_tell_66 : decode cX3_tell 66 = .ok (.ifCond .eq 7, 3) := by decide +kernel
theorem dX3_tell_69 : decode cX3_tell 69 = .ok (.iload_n 2, 1) := by decide +kernel
theorem dX3_tell_70 : decode cX3_tell 70 = .ok (.goto 10, 3) := by decide +kernel
theorem dX3_tell_73 : decode cX3_tell 73 = .ok (.bipush (-10), 2) := by decide +kernel
theorem dX3_tell_75 : decode cX3_tell 75 = .ok (.aload_n 0, 1) := by decide +kernel
theorem dX3_tell_76 : decode cX3_tell 76 = .ok (.getfield 49, 3) := by decide +kernel
theorem dX3_tell_79 : decode cX3_tell 79 = .ok (.isub, 1) := by decide +kernel
theorem dX3_tell_80 : decode cX3_tell 80 = .ok (.ireturn, 1) := by decide +kernel
theorem dX3_begin_0 : decode cX3_begin 0 = .ok (.aload_n 0, 1) := by decide +kernel
theorem dX3_begin_1 : decode cX3_begin 1 = .ok (.iconst 0, 1) := by decide +kernel
theorem dX3_begin_2 : decode cX3_begin 2 = .ok (.putfield 52, 3) := by decide +kernel
theorem dX3_begin_5 : decode cX3_begin 5 = .ok (.aload_n 0, 1) := by decide +kernel
theorem dX3_begin_6 : decode cX3_begin 6 = .ok (.iconst 0, 1) := by decide +kernel
theorem dX3_begin_7 : decode cX3_begin 7 = .ok (.putfield 49, 3) := by decide +kernel
theorem dX3_begin_10 : decode cX3_begin 10 = .ok (.aload_n 0, 1) := by decide +kernel
theorem dX3_begin_11 : decode cX3_begin 11 = .ok (.iconst 0, 1) := by decide +kernel
theorem dX3_begin_12 : decode cX3_begin 12 = .ok (.putfield 55, 3) := by decide +kernel
theorem dX3_begin_15 : decode cX3_begin 15 = .ok (.aload_n 0, 1) := by decide +kernel
theorem dX3_begin_16 : decode cX3_begin 16 = .ok (.iconst 0, 1) := by decide +kernel
theorem dX3_begin_17 : decode cX3_begin 17 = .ok (.putfield 58, 3) := by decide +kernel
theorem dX3_begin_20 : decode cX3_begin 20 = .ok (.aload_n 0, 1) := by decide +kernel
theorem dX3_begin_21 : decode cX3_begin 21 = .ok (.iconst 0, 1) := by decide +kernel
theorem dX3_begin_22 : decode cX3_begin 22 = .ok (.putfield 61, 3) := by decide +kernel
theorem dX3_begin_25 : decode cX3_begin 25 = .ok (.aload_n 0, 1) := by decide +kernel
theorem dX3_begin_26 : decode cX3_begin 26 = .ok (.iconst 0, 1) := by decide +kernel
theorem dX3_begin_27 : decode cX3_begin 27 = .ok (.putfield 65, 3) := by decide +kernel
theorem dX3_begin_30 : decode cX3_begin 30 = .ok (.return_, 1) := by decide +kernel
theorem dX3_failAt_0 : decode cX3_failAt 0 = .ok (.aload_n 0, 1) := by decide +kernel
theorem dX3_failAt_1 : decode cX3_failAt 1 = .ok (.iload_n 1, 1) := by decide +kernel
theorem dX3_failAt_2 : decode cX3_failAt 2 = .ok (.putfield 49, 3) := by decide +kernel
theorem dX3_failAt_5 : decode cX3_failAt 5 = .ok (.aload_n 0, 1) := by decide +kernel
theorem dX3_failAt_6 : decode cX3_failAt 6 = .ok (.iload_n 2, 1) := by decide +kernel
theorem dX3_failAt_7 : decode cX3_failAt 7 = .ok (.putfield 52, 3) := by decide +kernel
theorem dX3_failAt_10 : decode cX3_failAt 10 = .ok (.iconst 0, 1) := by decide +kernel
theorem dX3_failAt_11 : decode cX3_failAt 11 = .ok (.ireturn, 1) := by decide +kernel
theorem dX3_nextToken_0 : decode cX3_nextToken 0 = .ok (.aload_n 0, 1) := by decide +kernel
theorem dX3_nextToken_1 : decode cX3_nextToken 1 = .ok (.aload_n 0, 1) := by decide +kernel
theorem dX3_nextToken_2 : decode cX3_nextToken 2 = .ok (.iconst 4, 1) := by decide +kernel
theorem dX3_nextToken_3 : decode cX3_nextToken 3 = .ok (.aload_n 0, 1) := by decide +kernel
theorem dX3_nextToken_4 : decode cX3_nextToken 4 = .ok (.getfield 55, 3) := by decide +kernel
theorem dX3_nextToken_7 : decode cX3_nextToken 7 = .ok (.invokevirtual 68, 3) := by decide +kernel
theorem dX3_nextToken_10 : decode cX3_nextToken 10 = .ok (.putfield 55, 3) := by decide +kernel
theorem dX3_nextToken_13 : decode cX3_nextToken 13 = .ok (.aload_n 0, 1) := by decide +kernel
theorem dX3_nextToken_14 : decode cX3_nextToken 14 = .ok (.aload_n 0, 1) := by decide +kernel
theorem dX3_nextToken_15 : decode cX3_nextToken 15 = .ok (.getfield 55, 3) := by decide +kernel
theorem dX3_nextToken_18 : decode cX3_nextToken 18 = .ok (.putfield 72, 3) := by decide +kernel
theorem dX3_nextToken_21 : decode cX3_nextToken 21 = .ok (.aload_n 0, 1) := by decide +kernel
theorem dX3_nextToken_22 : decode cX3_nextToken 22 = .ok (.aload_n 0, 1) := by decide +kernel
theorem dX3_nextToken_23 : decode cX3_nextToken 23 = .ok (.getfield 55, 3) := by decide +kernel
theorem dX3_nextToken_26 : decode cX3_nextToken 26 = .ok (.aload_n 0, 1) := by decide +kernel
theorem dX3_nextToken_27 : decode cX3_nextToken 27 = .ok (.getfield 18, 3) := by decide +kernel
theorem dX3_nextToken_30 : decode cX3_nextToken 30 = .ok (.if_icmp .ge 15, 3) := by decide +kernel
theorem dX3_nextToken_33 : decode cX3_nextToken 33 = .ok (.aload_n 0, 1) := by decide +kernel
theorem dX3_nextToken_34 : decode cX3_nextToken 34 = .ok (.getfield 15, 3) := by decide +kernel
theorem dX3_nextToken_37 : decode cX3_nextToken 37 = .ok (.aload_n 0, 1) := by decide +kernel
theorem dX3_nextToken_38 : decode cX3_nextToken 38 = .ok (.getfield 55, 3) := by decide +kernel
theorem dX3_nextToken_41 : decode cX3_nextToken 41 = .ok (.iaload, 1) := by decide +kernel
theorem dX3_nextToken_42 : decode cX3_nextToken 42 = .ok (.goto 4, 3) := by decide +kernel
theorem dX3_nextToken_45 : decode cX3_nextToken 45 = .ok (.iconst 0, 1) := by decide +kernel
theorem dX3_nextToken_46 : decode cX3_nextToken 46 = .ok (.putfield 42, 3) := by decide +kernel
theorem dX3_nextToken_49 : decode cX3_nextToken 49 = .ok (.aload_n 0, 1) := by decide +kernel
theorem dX3_nextToken_50 : decode cX3_nextToken 50 = .ok (.getfield 42, 3) := by decide +kernel
theorem dX3_nextToken_53 : decode cX3_nextToken 53 = .ok (.tableswitch 120 0 3 #[118, 31, 46, 106], 31) := by decide +kernel
theorem dX3_nextToken_84 : decode cX3_nextToken 84 = .ok (.aload_n 0, 1) := by decide +kernel
theorem dX3_nextToken_85 : decode cX3_nextToken 85 = .ok (.aload_n 0, 1) := by decide +kernel
theorem dX3_nextToken_86 : decode cX3_nextToken 86 = .ok (.iconst 1, 1) := by decide +kernel
theorem dX3_nextToken_87 : decode cX3_nextToken 87 = .ok (.aload_n 0, 1) := by decide +kernel
theorem dX3_nextToken_88 : decode cX3_nextToken 88 = .ok (.getfield 55, 3) := by decide +kernel
theorem dX3_nextToken_91 : decode cX3_nextToken 91 = .ok (.invokevirtual 68, 3) := by decide +kernel
theorem dX3_nextToken_94 : decode cX3_nextToken 94 = .ok (.putfield 55, 3) := by decide +kernel
theorem dX3_nextToken_97 : decode cX3_nextToken 97 = .ok (.iconst 1, 1) := by decide +kernel
theorem dX3_nextToken_98 : decode cX3_nextToken 98 = .ok (.ireturn, 1) := by decide +kernel
theorem dX3_nextToken_99 : decode cX3_nextToken 99 = .ok (.aload_n 0, 1) := by decide +kernel
theorem dX3_nextToken_100 : decode cX3_nextToken 100 = .ok (.aload_n 0, 1) := by decide +kernel
theorem dX3_nextToken_101 : decode cX3_nextToken 101 = .ok (.iconst 2, 1) := by decide +kernel
theorem dX3_nextToken_102 : decode cX3_nextToken 102 = .ok (.aload_n 0, 1) := by decide +kernel
theorem dX3_nextToken_103 : decode cX3_nextToken 103 = .ok (.getfield 55, 3) := by decide +kernel
theorem dX3_nextToken_106 : decode cX3_nextToken 106 = .ok (.invokevirtual 68, 3) := by decide +kernel
theorem dX3_nextToken_109 : decode cX3_nextToken 109 = .ok (.putfield 55, 3) := by decide +kernel
theorem dX3_nextToken_112 : decode cX3_nextToken 112 = .ok (.aload_n 0, 1) := by decide +kernel
theorem dX3_nextToken_113 : decode cX3_nextToken 113 = .ok (.aload_n 0, 1) := by decide +kernel
theorem dX3_nextToken_114 : decode cX3_nextToken 114 = .ok (.aload_n 0, 1) := by decide +kernel
theorem dX3_nextToken_115 : decode cX3_nextToken 115 = .ok (.getfield 72, 3) := by decide +kernel
theorem dX3_nextToken_118 : decode cX3_nextToken 118 = .ok (.aload_n 0, 1) := by decide +kernel
theorem dX3_nextToken_119 : decode cX3_nextToken 119 = .ok (.getfield 55, 3) := by decide +kernel
theorem dX3_nextToken_122 : decode cX3_nextToken 122 = .ok (.invokevirtual 75, 3) := by decide +kernel
theorem dX3_nextToken_125 : decode cX3_nextToken 125 = .ok (.putfield 78, 3) := by decide +kernel
theorem dX3_nextToken_128 : decode cX3_nextToken 128 = .ok (.aload_n 0, 1) := by decide +kernel
theorem dX3_nextToken_129 : decode cX3_nextToken 129 = .ok (.getfield 55, 3) := by decide +kernel
theorem dX3_nextToken_132 : decode cX3_nextToken 132 = .ok (.aload_n 0, 1) := by decide +kernel
theorem dX3_nextToken_133 : decode cX3_nextToken 133 = .ok (.getfield 72, 3) := by decide +kernel
theorem dX3_nextToken_136 : decode cX3_nextToken 136 = .ok (.isub, 1) := by decide +kernel
theorem dX3_nextToken_137 : decode cX3_nextToken 137 = .ok (.iconst 2, 1) := by decide +kernel
theorem dX3_nextToken_138 : decode cX3_nextToken 138 = .ok (.if_icmp .le 15, 3) := by decide +kernel
theorem dX3_nextToken_141 : decode cX3_nextToken 141 = .ok (.aload_n 0, 1) := by decide +kernel
theorem dX3_nextToken_142 : decode cX3_nextToken 142 = .ok (.aload_n 0, 1) := by decide +kernel
theorem dX3_nextToken_143 : decode cX3_nextToken 143 = .ok (.getfield 72, 3) := by decide +kernel
theorem dX3_nextToken_146 : decode cX3_nextToken 146 = .ok (.iconst 1, 1) := by decide +kernel
theorem dX3_nextToken_147 : decode cX3_nextToken 147 = .ok (.invokevirtual 81, 3) := by decide +kernel
theorem dX3_nextToken_150 : decode cX3_nextToken 150 = .ok (.ifCond .eq 7, 3) := by decide +kernel
theorem dX3_nextToken_153 : decode cX3_nextToken 153 = .ok (.iconst 1, 1) := by decide +kernel
theorem dX3_nextToken_154 : decode cX3_nextToken 154 = .ok (.goto 4, 3) := by decide +kernel
theorem dX3_nextToken_157 : decode cX3_nextToken 157 = .ok (.iconst 0, 1) := by decide +kernel
theorem dX3_nextToken_158 : decode cX3_nextToken 158 = .ok (.ireturn, 1) := by decide +kernel
theorem dX3_nextToken_159 : decode cX3_nextToken 159 = .ok (.aload_n 0, 1) := by decide +kernel
theorem dX3_nextToken_160 : decode cX3_nextToken 160 = .ok (.dup, 1) := by decide +kernel
theorem dX3_nextToken_161 : decode cX3_nextToken 161 = .ok (.getfield 55, 3) := by decide +kernel
theorem dX3_nextToken_164 : decode cX3_nextToken 164 = .ok (.iconst 1, 1) := by decide +kernel
theorem dX3_nextToken_165 : decode cX3_nextToken 165 = .ok (.iadd, 1) := by decide +kernel
theorem dX3_nextToken_166 : decode cX3_nextToken 166 = .ok (.putfield 55, 3) := by decide +kernel
theorem dX3_nextToken_169 : decode cX3_nextToken 169 = .ok (.iconst 1, 1) := by decide +kernel
theorem dX3_nextToken_170 : decode cX3_nextToken 170 = .ok (.ireturn, 1) := by decide +kernel
theorem dX3_nextToken_171 : decode cX3_nextToken 171 = .ok (.iconst 1, 1) := by decide +kernel
theorem dX3_nextToken_172 : decode cX3_nextToken 172 = .ok (.ireturn, 1) := by decide +kernel
theorem dX3_nextToken_173 : decode cX3_nextToken 173 = .ok (.aload_n 0, 1) := by decide +kernel
theorem dX3_nextToken_174 : decode cX3_nextToken 174 = .ok (.aload_n 0, 1) := by decide +kernel
theorem dX3_nextToken_175 : decode cX3_nextToken 175 = .ok (.getfield 72, 3) := by decide +kernel
theorem dX3_nextToken_178 : decode cX3_nextToken 178 = .ok (.iconst 1, 1) := by decide +kernel
theorem dX3_nextToken_179 : decode cX3_nextToken 179 = .ok (.invokevirtual 81, 3) := by decide +kernel
theorem dX3_nextToken_182 : decode cX3_nextToken 182 = .ok (.ireturn, 1) := by decide +kernel
theorem dX3_valueOf_0 : decode cX3_valueOf 0 = .ok (.iconst 0, 1) := by decide +kernel
theorem dX3_valueOf_1 : decode cX3_valueOf 1 = .ok (.istore_n 3, 1) := by decide +kernel
theorem dX3_valueOf_2 : decode cX3_valueOf 2 = .ok (.iload_n 1, 1) := by decide +kernel
theorem dX3_valueOf_3 : decode cX3_valueOf 3 = .ok (.istore 4, 2) := by decide +kernel
theorem dX3_valueOf_5 : decode cX3_valueOf 5 = .ok (.iload 4, 2) := by decide +kernel
theorem dX3_valueOf_7 : decode cX3_valueOf 7 = .ok (.iload_n 2, 1) := by decide +kernel
theorem dX3_valueOf_8 : decode cX3_valueOf 8 = .ok (.if_icmp .ge 25, 3) := by decide +kernel
theorem dX3_valueOf_11 : decode cX3_valueOf 11 = .ok (.bipush 10, 2) := by decide +kernel
theorem dX3_valueOf_13 : decode cX3_valueOf 13 = .ok (.iload_n 3, 1) := by decide +kernel
theorem dX3_valueOf_14 : decode cX3_valueOf 14 = .ok (.imul, 1) := by decide +kernel
theorem dX3_valueOf_15 : decode cX3_valueOf 15 = .ok (.aload_n 0, 1) := by decide +kernel
theorem dX3_valueOf_16 : decode cX3_valueOf 16 = .ok (.getfield 9, 3) := by decide +kernel
theorem dX3_valueOf_19 : decode cX3_valueOf 19 = .ok (.iload 4, 2) := by decide +kernel
theorem dX3_valueOf_21 : decode cX3_valueOf 21 = .ok (.iaload, 1) := by decide +kernel
theorem dX3_valueOf_22 : decode cX3_valueOf 22 = .ok (.iadd, 1) := by decide +kernel
theorem dX3_valueOf_23 : decode cX3_valueOf 23 = .ok (.bipush 48, 2) := by decide +kernel
theorem dX3_valueOf_25 : decode cX3_valueOf 25 = .ok (.isub, 1) := by decide +kernel
theorem dX3_valueOf_26 : decode cX3_valueOf 26 = .ok (.istore_n 3, 1) := by decide +kernel
theorem dX3_valueOf_27 : decode cX3_valueOf 27 = .ok (.iinc 4 1, 3) := by decide +kernel
theorem dX3_valueOf_30 : decode cX3_valueOf 30 = .ok (.goto (-25), 3) := by decide +kernel
theorem dX3_valueOf_33 : decode cX3_valueOf 33 = .ok (.iload_n 3, 1) := by decide +kernel
theorem dX3_valueOf_34 : decode cX3_valueOf 34 = .ok (.ireturn, 1) := by decide +kernel
theorem dX3_endOfRun_0 : decode cX3_endOfRun 0 = .ok (.iload_n 2, 1) := by decide +kernel
theorem dX3_endOfRun_1 : decode cX3_endOfRun 1 = .ok (.istore_n 3, 1) := by decide +kernel
theorem dX3_endOfRun_2 : decode cX3_endOfRun 2 = .ok (.iload_n 3, 1) := by decide +kernel
theorem dX3_endOfRun_3 : decode cX3_endOfRun 3 = .ok (.aload_n 0, 1) := by decide +kernel
theorem dX3_endOfRun_4 : decode cX3_endOfRun 4 = .ok (.getfield 18, 3) := by decide +kernel
theorem dX3_endOfRun_7 : decode cX3_endOfRun 7 = .ok (.if_icmp .ge 19, 3) := by decide +kernel
theorem dX3_endOfRun_10 : decode cX3_endOfRun 10 = .ok (.aload_n 0, 1) := by decide +kernel
theorem dX3_endOfRun_11 : decode cX3_endOfRun 11 = .ok (.getfield 15, 3) := by decide +kernel
theorem dX3_endOfRun_14 : decode cX3_endOfRun 14 = .ok (.iload_n 3, 1) := by decide +kernel
theorem dX3_endOfRun_15 : decode cX3_endOfRun 15 = .ok (.iaload, 1) := by decide +kernel
theorem dX3_endOfRun_16 : decode cX3_endOfRun 16 = .ok (.iload_n 1, 1) := by decide +kernel
theorem dX3_endOfRun_17 : decode cX3_endOfRun 17 = .ok (.if_icmp .ne 9, 3) := by decide +kernel
theorem dX3_endOfRun_20 : decode cX3_endOfRun 20 = .ok (.iinc 3 1, 3) := by decide +kernel
theorem dX3_endOfRun_23 : decode cX3_endOfRun 23 = .ok (.goto (-21), 3) := by decide +kernel
theorem dX3_endOfRun_26 : decode cX3_endOfRun 26 = .ok (.iload_n 3, 1) := by decide +kernel
theorem dX3_endOfRun_27 : decode cX3_endOfRun 27 = .ok (.ireturn, 1) := by decide +kernel
theorem dX3_sortOf_0 : decode cX3_sortOf 0 = .ok (.iload_n 0, 1) := by decide +kernel
theorem dX3_sortOf_1 : decode cX3_sortOf 1 = .ok (.bipush 97, 2) := by decide +kernel
theorem dX3_sortOf_3 : decode cX3_sortOf 3 = .ok (.bipush 122, 2) := by decide +kernel
theorem dX3_sortOf_5 : decode cX3_sortOf 5 = .ok (.invokestatic 26, 3) := by decide +kernel
theorem dX3_sortOf_8 : decode cX3_sortOf 8 = .ok (.ifCond .eq 5, 3) := by decide +kernel
theorem dX3_sortOf_11 : decode cX3_sortOf 11 = .ok (.iconst 1, 1) := by decide +kernel
theorem dX3_sortOf_12 : decode cX3_sortOf 12 = .ok (.ireturn, 1) := by decide +kernel
theorem dX3_sortOf_13 : decode cX3_sortOf 13 = .ok (.iload_n 0, 1) := by decide +kernel
theorem dX3_sortOf_14 : decode cX3_sortOf 14 = .ok (.bipush 48, 2) := by decide +kernel
theorem dX3_sortOf_16 : decode cX3_sortOf 16 = .ok (.bipush 57, 2) := by decide +kernel
theorem dX3_sortOf_18 : decode cX3_sortOf 18 = .ok (.invokestatic 26, 3) := by decide +kernel
theorem dX3_sortOf_21 : decode cX3_sortOf 21 = .ok (.ifCond .eq 5, 3) := by decide +kernel
theorem dX3_sortOf_24 : decode cX3_sortOf 24 = .ok (.iconst 2, 1) := by decide +kernel
theorem dX3_sortOf_25 : decode cX3_sortOf 25 = .ok (.ireturn, 1) := by decide +kernel
theorem dX3_sortOf_26 : decode cX3_sortOf 26 = .ok (.iload_n 0, 1) := by decide +kernel
theorem dX3_sortOf_27 : decode cX3_sortOf 27 = .ok (.bipush 59, 2) := by decide +kernel
theorem dX3_sortOf_29 : decode cX3_sortOf 29 = .ok (.if_icmp .ne 7, 3) := by decide +kernel
theorem dX3_sortOf_32 : decode cX3_sortOf 32 = .ok (.iconst 3, 1) := by decide +kernel
theorem dX3_sortOf_33 : decode cX3_sortOf 33 = .ok (.goto 14, 3) := by decide +kernel
theorem dX3_sortOf_36 : decode cX3_sortOf 36 = .ok (.iload_n 0, 1) := by decide +kernel
theorem dX3_sortOf_37 : decode cX3_sortOf 37 = .ok (.bipush 32, 2) := by decide +kernel
theorem dX3_sortOf_39 : decode cX3_sortOf 39 = .ok (.if_icmp .ne 7, 3) := by decide +kernel
theorem dX3_sortOf_42 : decode cX3_sortOf 42 = .ok (.iconst 4, 1) := by decide +kernel
theorem dX3_sortOf_43 : decode cX3_sortOf 43 = .ok (.goto 4, 3) := by decide +kernel
theorem dX3_sortOf_46 : decode cX3_sortOf 46 = .ok (.iconst 5, 1) := by decide +kernel
theorem dX3_sortOf_47 : decode cX3_sortOf 47 = .ok (.ireturn, 1) := by decide +kernel
theorem dX3_readLine_0 : decode cX3_readLine 0 = .ok (.aload_n 0, 1) := by decide +kernel
theorem dX3_readLine_1 : decode cX3_readLine 1 = .ok (.getfield 42, 3) := by decide +kernel
theorem dX3_readLine_4 : decode cX3_readLine 4 = .ok (.iconst 1, 1) := by decide +kernel
theorem dX3_readLine_5 : decode cX3_readLine 5 = .ok (.if_icmp .ne 10, 3) := by decide +kernel
theorem dX3_readLine_8 : decode cX3_readLine 8 = .ok (.aload_n 0, 1) := by decide +kernel
theorem dX3_readLine_9 : decode cX3_readLine 9 = .ok (.invokevirtual 85, 3) := by decide +kernel
theorem dX3_readLine_12 : decode cX3_readLine 12 = .ok (.goto 5, 3) := by decide +kernel
theorem dX3_readLine_15 : decode cX3_readLine 15 = .ok (.bipush 7, 2) := by decide +kernel
theorem dX3_readLine_17 : decode cX3_readLine 17 = .ok (.istore_n 2, 1) := by decide +kernel
theorem dX3_readLine_18 : decode cX3_readLine 18 = .ok (.iload_n 2, 1) := by decide +kernel
theorem dX3_readLine_19 : decode cX3_readLine 19 = .ok (.tableswitch 66 0 6 #[41, 41, 41, 41, 48, 54, 60], 41) := by decide +kernel
theorem dX3_readLine_60 : decode cX3_readLine 60 = .ok (.aload_n 0, 1) := by decide +kernel
theorem dX3_readLine_61 : decode cX3_readLine 61 = .ok (.aload_n 1, 1) := by decide +kernel
theorem dX3_readLine_62 : decode cX3_readLine 62 = .ok (.iload_n 2, 1) := by decide +kernel
theorem dX3_readLine_63 : decode cX3_readLine 63 = .ok (.invokevirtual 89, 3) := by decide +kernel
theorem dX3_readLine_66 : decode cX3_readLine 66 = .ok (.ireturn, 1) := by decide +kernel
theorem dX3_readLine_67 : decode cX3_readLine 67 = .ok (.aload_n 0, 1) := by decide +kernel
theorem dX3_readLine_68 : decode cX3_readLine 68 = .ok (.aload_n 1, 1) := by decide +kernel
theorem dX3_readLine_69 : decode cX3_readLine 69 = .ok (.invokevirtual 93, 3) := by decide +kernel
theorem dX3_readLine_72 : decode cX3_readLine 72 = .ok (.ireturn, 1) := by decide +kernel
theorem dX3_readLine_73 : decode cX3_readLine 73 = .ok (.aload_n 0, 1) := by decide +kernel
theorem dX3_readLine_74 : decode cX3_readLine 74 = .ok (.aload_n 1, 1) := by decide +kernel
theorem dX3_readLine_75 : decode cX3_readLine 75 = .ok (.invokevirtual 96, 3) := by decide +kernel
theorem dX3_readLine_78 : decode cX3_readLine 78 = .ok (.ireturn, 1) := by decide +kernel
theorem dX3_readLine_79 : decode cX3_readLine 79 = .ok (.aload_n 0, 1) := by decide +kernel
theorem dX3_readLine_80 : decode cX3_readLine 80 = .ok (.aload_n 1, 1) := by decide +kernel
theorem dX3_readLine_81 : decode cX3_readLine 81 = .ok (.invokevirtual 99, 3) := by decide +kernel
theorem dX3_readLine_84 : decode cX3_readLine 84 = .ok (.ireturn, 1) := by decide +kernel
theorem dX3_readLine_85 : decode cX3_readLine 85 = .ok (.aload_n 0, 1) := by decide +kernel
theorem dX3_readLine_86 : decode cX3_readLine 86 = .ok (.aload_n 0, 1) := by decide +kernel
theorem dX3_readLine_87 : decode cX3_readLine 87 = .ok (.getfield 72, 3) := by decide +kernel
theorem dX3_readLine_90 : decode cX3_readLine 90 = .ok (.iconst 2, 1) := by decide +kernel
theorem dX3_readLine_91 : decode cX3_readLine 91 = .ok (.invokevirtual 81, 3) := by decide +kernel
theorem dX3_readLine_94 : decode cX3_readLine 94 = .ok (.ireturn, 1) := by decide +kernel
theorem dX3_lineOfName_0 : decode cX3_lineOfName 0 = .ok (.iconst 0, 1) := by decide +kernel
theorem dX3_lineOfName_1 : decode cX3_lineOfName 1 = .ok (.istore_n 1, 1) := by decide +kernel
theorem dX3_lineOfName_2 : decode cX3_lineOfName 2 = .ok (.iload_n 1, 1) := by decide +kernel
theorem dX3_lineOfName_3 : decode cX3_lineOfName 3 = .ok (.bipush 7, 2) := by decide +kernel
theorem dX3_lineOfName_5 : decode cX3_lineOfName 5 = .ok (.if_icmp .ge 22, 3) := by decide +kernel
theorem dX3_lineOfName_8 : decode cX3_lineOfName 8 = .ok (.aload_n 0, 1) := by decide +kernel
theorem dX3_lineOfName_9 : decode cX3_lineOfName 9 = .ok (.iload_n 1, 1) := by decide +kernel
theorem dX3_lineOfName_10 : decode cX3_lineOfName 10 = .ok (.invokestatic 102, 3) := by decide +kernel
theorem dX3_lineOfName_13 : decode cX3_lineOfName 13 = .ok (.invokevirtual 106, 3) := by decide +kernel
theorem dX3_lineOfName_16 : decode cX3_lineOfName 16 = .ok (.ifCond .eq 5, 3) := by decide +kernel
theorem dX3_lineOfName_19 : decode cX3_lineOfName 19 = .ok (.iload_n 1, 1) := by decide +kernel
theorem dX3_lineOfName_20 : decode cX3_lineOfName 20 = .ok (.ireturn, 1) := by decide +kernel
theorem dX3_lineOfName_21 : decode cX3_lineOfName 21 = .ok (.iinc 1 1, 3) := by decide +kernel
theorem dX3_lineOfName_24 : decode cX3_lineOfName 24 = .ok (.goto (-22), 3) := by decide +kernel
theorem dX3_lineOfName_27 : decode cX3_lineOfName 27 = .ok (.bipush 7, 2) := by decide +kernel
theorem dX3_lineOfName_29 : decode cX3_lineOfName 29 = .ok (.ireturn, 1) := by decide +kernel
theorem dX3_wordOf_0 : decode cX3_wordOf 0 = .ok (.iload_n 0, 1) := by decide +kernel
theorem dX3_wordOf_1 : decode cX3_wordOf 1 = .ok (.tableswitch 57 0 5 #[39, 42, 45, 48, 51, 54], 39) := by decide +kernel
theorem dX3_wordOf_40 : decode cX3_wordOf 40 = .ok (.ldc 110, 2) := by decide +kernel
theorem dX3_wordOf_42 : decode cX3_wordOf 42 = .ok (.areturn, 1) := by decide +kernel
theorem dX3_wordOf_43 : decode cX3_wordOf 43 = .ok (.ldc 112, 2) := by decide +kernel
theorem dX3_wordOf_45 : decode cX3_wordOf 45 = .ok (.areturn, 1) := by decide +kernel
theorem dX3_wordOf_46 : decode cX3_wordOf 46 = .ok (.ldc 114, 2) := by decide +kernel
theorem dX3_wordOf_48 : decode cX3_wordOf 48 = .ok (.areturn, 1) := by decide +kernel
theorem dX3_wordOf_49 : decode cX3_wordOf 49 = .ok (.ldc 116, 2) := by decide +kernel
theorem dX3_wordOf_51 : decode cX3_wordOf 51 = .ok (.areturn, 1) := by decide +kernel
theorem dX3_wordOf_52 : decode cX3_wordOf 52 = .ok (.ldc 118, 2) := by decide +kernel
theorem dX3_wordOf_54 : decode cX3_wordOf 54 = .ok (.areturn, 1) := by decide +kernel
theorem dX3_wordOf_55 : decode cX3_wordOf 55 = .ok (.ldc 120, 2) := by decide +kernel
theorem dX3_wordOf_57 : decode cX3_wordOf 57 = .ok (.areturn, 1) := by decide +kernel
theorem dX3_wordOf_58 : decode cX3_wordOf 58 = .ok (.ldc 122, 2) := by decide +kernel
theorem dX3_wordOf_60 : decode cX3_wordOf 60 = .ok (.areturn, 1) := by decide +kernel
theorem dX3_nameIs_0 : decode cX3_nameIs 0 = .ok (.aload_n 0, 1) := by decide +kernel
theorem dX3_nameIs_1 : decode cX3_nameIs 1 = .ok (.getfield 55, 3) := by decide +kernel
theorem dX3_nameIs_4 : decode cX3_nameIs 4 = .ok (.aload_n 0, 1) := by decide +kernel
theorem dX3_nameIs_5 : decode cX3_nameIs 5 = .ok (.getfield 72, 3) := by decide +kernel
theorem dX3_nameIs_8 : decode cX3_nameIs 8 = .ok (.isub, 1) := by decide +kernel
theorem dX3_nameIs_9 : decode cX3_nameIs 9 = .ok (.aload_n 1, 1) := by decide +kernel
theorem dX3_nameIs_10 : decode cX3_nameIs 10 = .ok (.invokevirtual 124, 3) := by decide +kernel
theorem dX3_nameIs_13 : decode cX3_nameIs 13 = .ok (.if_icmp .eq 5, 3) := by decide +kernel
theorem dX3_nameIs_16 : decode cX3_nameIs 16 = .ok (.iconst 0, 1) := by decide +kernel
theorem dX3_nameIs_17 : decode cX3_nameIs 17 = .ok (.ireturn, 1) := by decide +kernel
theorem dX3_nameIs_18 : decode cX3_nameIs 18 = .ok (.iconst 0, 1) := by decide +kernel
theorem dX3_nameIs_19 : decode cX3_nameIs 19 = .ok (.istore_n 2, 1) := by decide +kernel
theorem dX3_nameIs_20 : decode cX3_nameIs 20 = .ok (.iload_n 2, 1) := by decide +kernel
theorem dX3_nameIs_21 : decode cX3_nameIs 21 = .ok (.aload_n 1, 1) := by decide +kernel
theorem dX3_nameIs_22 : decode cX3_nameIs 22 = .ok (.invokevirtual 124, 3) := by decide +kernel
theorem dX3_nameIs_25 : decode cX3_nameIs 25 = .ok (.if_icmp .ge 30, 3) := by decide +kernel
theorem dX3_nameIs_28 : decode cX3_nameIs 28 = .ok (.aload_n 0, 1) := by decide +kernel
theorem dX3_nameIs_29 : decode cX3_nameIs 29 = .ok (.getfield 9, 3) := by decide +kernel
theorem dX3_nameIs_32 : decode cX3_nameIs 32 = .ok (.aload_n 0, 1) := by decide +kernel
theorem dX3_nameIs_33 : decode cX3_nameIs 33 = .ok (.getfield 72, 3) := by decide +kernel
theorem dX3_nameIs_36 : decode cX3_nameIs 36 = .ok (.iload_n 2, 1) := by decide +kernel
theorem dX3_nameIs_37 : decode cX3_nameIs 37 = .ok (.iadd, 1) := by decide +kernel
theorem dX3_nameIs_38 : decode cX3_nameIs 38 = .ok (.iaload, 1) := by decide +kernel
theorem dX3_nameIs_39 : decode cX3_nameIs 39 = .ok (.aload_n 1, 1) := by decide +kernel
theorem dX3_nameIs_40 : decode cX3_nameIs 40 = .ok (.iload_n 2, 1) := by decide +kernel
theorem dX3_nameIs_41 : decode cX3_nameIs 41 = .ok (.invokevirtual 128, 3) := by decide +kernel
theorem dX3_nameIs_44 : decode cX3_nameIs 44 = .ok (.if_icmp .eq 5, 3) := by decide +kernel
theorem dX3_nameIs_47 : decode cX3_nameIs 47 = .ok (.iconst 0, 1) := by decide +kernel
theorem dX3_nameIs_48 : decode cX3_nameIs 48 = .ok (.ireturn, 1) := by decide +kernel
theorem dX3_nameIs_49 : decode cX3_nameIs 49 = .ok (.iinc 2 1, 3) := by decide +kernel
theorem dX3_nameIs_52 : decode cX3_nameIs 52 = .ok (.goto (-32), 3) := by decide +kernel
theorem dX3_nameIs_55 : decode cX3_nameIs 55 = .ok (.iconst 1, 1) := by decide +kernel
theorem dX3_nameIs_56 : decode cX3_nameIs 56 = .ok (.ireturn, 1) := by decide +kernel
theorem dX3_readThing_0 : decode cX3_readThing 0 = .ok (.aload_n 1, 1) := by decide +kernel
theorem dX3_readThing_1 : decode cX3_readThing 1 = .ok (.getfield 132, 3) := by decide +kernel
theorem dX3_readThing_4 : decode cX3_readThing 4 = .ok (.bipush 6, 2) := by decide +kernel
theorem dX3_readThing_6 : decode cX3_readThing 6 = .ok (.if_icmp .lt 13, 3) := by decide +kernel
theorem dX3_readThing_9 : decode cX3_readThing 9 = .ok (.aload_n 0, 1) := by decide +kernel
theorem dX3_readThing_10 : decode cX3_readThing 10 = .ok (.aload_n 0, 1) := by decide +kernel
theorem dX3_readThing_11 : decode cX3_readThing 11 = .ok (.getfield 72, 3) := by decide +kernel
theorem dX3_readThing_14 : decode cX3_readThing 14 = .ok (.iconst 5, 1) := by decide +kernel
theorem dX3_readThing_15 : decode cX3_readThing 15 = .ok (.invokevirtual 81, 3) := by decide +kernel
theorem dX3_readThing_18 : decode cX3_readThing 18 = .ok (.ireturn, 1) := by decide +kernel
theorem dX3_readThing_19 : decode cX3_readThing 19 = .ok (.aload_n 0, 1) := by decide +kernel
theorem dX3_readThing_20 : decode cX3_readThing 20 = .ok (.iconst 1, 1) := by decide +kernel
theorem dX3_readThing_21 : decode cX3_readThing 21 = .ok (.invokestatic 135, 3) := by decide +kernel
theorem dX3_readThing_24 : decode cX3_readThing 24 = .ok (.iconst 1, 1) := by decide +kernel
theorem dX3_readThing_25 : decode cX3_readThing 25 = .ok (.invokestatic 138, 3) := by decide +kernel
theorem dX3_readThing_28 : decode cX3_readThing 28 = .ok (.invokevirtual 141, 3) := by decide +kernel
theorem dX3_readThing_31 : decode cX3_readThing 31 = .ok (.ifCond .ne 5, 3) := by decide +kernel
theorem dX3_readThing_34 : decode cX3_readThing 34 = .ok (.iconst 0, 1) := by decide +kernel
theorem dX3_readThing_35 : decode cX3_readThing 35 = .ok (.ireturn, 1) := by decide +kernel
theorem dX3_readThing_36 : decode cX3_readThing 36 = .ok (.aload_n 0, 1) := by decide +kernel
theorem dX3_readThing_37 : decode cX3_readThing 37 = .ok (.getfield 78, 3) := by decide +kernel
theorem dX3_readThing_40 : decode cX3_readThing 40 = .ok (.istore_n 3, 1) := by decide +kernel
theorem dX3_readThing_41 : decode cX3_readThing 41 = .ok (.aload_n 0, 1) := by decide +kernel
theorem dX3_readThing_42 : decode cX3_readThing 42 = .ok (.iconst 2, 1) := by decide +kernel
theorem dX3_readThing_43 : decode cX3_readThing 43 = .ok (.invokestatic 135, 3) := by decide +kernel
theorem dX3_readThing_46 : decode cX3_readThing 46 = .ok (.iconst 2, 1) := by decide +kernel
theorem dX3_readThing_47 : decode cX3_readThing 47 = .ok (.invokestatic 138, 3) := by decide +kernel
theorem dX3_readThing_50 : decode cX3_readThing 50 = .ok (.invokevirtual 141, 3) := by decide +kernel
theorem dX3_readThing_53 : decode cX3_readThing 53 = .ok (.ifCond .eq 27, 3) := by decide +kernel
theorem dX3_readThing_56 : decode cX3_readThing 56 = .ok (.aload_n 1, 1) := by decide +kernel
theorem dX3_readThing_57 : decode cX3_readThing 57 = .ok (.iload_n 2, 1) := by decide +kernel
theorem dX3_readThing_58 : decode cX3_readThing 58 = .ok (.iload_n 3, 1) := by decide +kernel
theorem dX3_readThing_59 : decode cX3_readThing 59 = .ok (.aload_n 0, 1) := by decide +kernel
theorem dX3_readThing_60 : decode cX3_readThing 60 = .ok (.getfield 78, 3) := by decide +kernel
theorem dX3_readThing_63 : decode cX3_readThing 63 = .ok (.invokevirtual 144, 3) := by decide +kernel
theorem dX3_readThing_66 : decode cX3_readThing 66 = .ok (.ifCond .eq 14, 3) := by decide +kernel
theorem dX3_readThing_69 : decode cX3_readThing 69 = .ok (.aload_n 0, 1) := by decide +kernel
theorem dX3_readThing_70 : decode cX3_readThing 70 = .ok (.invokevirtual 147, 3) := by decide +kernel
theorem dX3_readThing_73 : decode cX3_readThing 73 = .ok (.ifCond .eq 7, 3) := by decide +kernel
theorem dX3_readThing_76 : decode cX3_readThing 76 = .ok (.iconst 1, 1) := by decide +kernel
theorem dX3_readThing_77 : decode cX3_readThing 77 = .ok (.goto 4, 3) := by decide +kernel
theorem dX3_readThing_80 : decode cX3_readThing 80 = .ok (.iconst 0, 1) := by decide +kernel
theorem dX3_readThing_81 : decode cX3_readThing 81 = .ok (.ireturn, 1) := by decide +kernel
theorem dX3_readWind_0 : decode cX3_readWind 0 = .ok (.aload_n 0, 1) := by decide +kernel
theorem dX3_readWind_1 : decode cX3_readWind 1 = .ok (.iconst 0, 1) := by decide +kernel
theorem dX3_readWind_2 : decode cX3_readWind 2 = .ok (.iconst 4, 1) := by decide +kernel
theorem dX3_readWind_3 : decode cX3_readWind 3 = .ok (.invokevirtual 141, 3) := by decide +kernel
theorem dX3_readWind_6 : decode cX3_readWind 6 = .ok (.ifCond .ne 5, 3) := by decide +kernel
theorem dX3_readWind_9 : decode cX3_readWind 9 = .ok (.iconst 0, 1) := by decide +kernel
theorem dX3_readWind_10 : decode cX3_readWind 10 = .ok (.ireturn, 1) := by decide +kernel
theorem dX3_readWind_11 : decode cX3_readWind 11 = .ok (.aload_n 0, 1) := by decide +kernel
theorem dX3_readWind_12 : decode cX3_readWind 12 = .ok (.getfield 78, 3) := by decide +kernel
theorem dX3_readWind_15 : decode cX3_readWind 15 = .ok (.istore_n 2, 1) := by decide +kernel
theorem dX3_readWind_16 : decode cX3_readWind 16 = .ok (.aload_n 0, 1) := by decide +kernel
theorem dX3_readWind_17 : decode cX3_readWind 17 = .ok (.getfield 58, 3) := by decide +kernel
theorem dX3_readWind_20 : decode cX3_readWind 20 = .ok (.iload_n 2, 1) := by decide +kernel
theorem dX3_readWind_21 : decode cX3_readWind 21 = .ok (.ishr, 1) := by decide +kernel
theorem dX3_readWind_22 : decode cX3_readWind 22 = .ok (.iconst 1, 1) := by decide +kernel
theorem dX3_readWind_23 : decode cX3_readWind 23 = .ok (.iand, 1) := by decide +kernel
theorem dX3_readWind_24 : decode cX3_readWind 24 = .ok (.iconst 1, 1) := by decide +kernel
theorem dX3_readWind_25 : decode cX3_readWind 25 = .ok (.if_icmp .ne 13, 3) := by decide +kernel
theorem dX3_readWind_28 : decode cX3_readWind 28 = .ok (.aload_n 0, 1) := by decide +kernel
theorem dX3_readWind_29 : decode cX3_readWind 29 = .ok (.aload_n 0, 1) := by decide +kernel
theorem dX3_readWind_30 : decode cX3_readWind 30 = .ok (.getfield 72, 3) := by decide +kernel
theorem dX3_readWind_33 : decode cX3_readWind 33 = .ok (.iconst 4, 1) := by decide +kernel
theorem dX3_readWind_34 : decode cX3_readWind 34 = .ok (.invokevirtual 81, 3) := by decide +kernel
theorem dX3_readWind_37 : decode cX3_readWind 37 = .ok (.ireturn, 1) := by decide +kernel
theorem dX3_readWind_38 : decode cX3_readWind 38 = .ok (.aload_n 0, 1) := by decide +kernel
theorem dX3_readWind_39 : decode cX3_readWind 39 = .ok (.dup, 1) := by decide +kernel
theorem dX3_readWind_40 : decode cX3_readWind 40 = .ok (.getfield 58, 3) := by decide +kernel
theorem dX3_readWind_43 : decode cX3_readWind 43 = .ok (.iconst 1, 1) := by decide +kernel
theorem dX3_readWind_44 : decode cX3_readWind 44 = .ok (.iload_n 2, 1) := by decide +kernel
theorem dX3_readWind_45 : decode cX3_readWind 45 = .ok (.ishl, 1) := by decide +kernel
theorem dX3_readWind_46 : decode cX3_readWind 46 = .ok (.ior, 1) := by decide +kernel
theorem dX3_readWind_47 : decode cX3_readWind 47 = .ok (.putfield 58, 3) := by decide +kernel
theorem dX3_readWind_50 : decode cX3_readWind 50 = .ok (.aload_n 0, 1) := by decide +kernel
theorem dX3_readWind_51 : decode cX3_readWind 51 = .ok (.iconst 0, 1) := by decide +kernel
theorem dX3_readWind_52 : decode cX3_readWind 52 = .ok (.bipush 8, 2) := by decide +kernel
theorem dX3_readWind_54 : decode cX3_readWind 54 = .ok (.invokevirtual 141, 3) := by decide +kernel
theorem dX3_readWind_57 : decode cX3_readWind 57 = .ok (.ifCond .ne 5, 3) := by decide +kernel
theorem dX3_readWind_60 : decode cX3_readWind 60 = .ok (.iconst 0, 1) := by decide +kernel
theorem dX3_readWind_61 : decode cX3_readWind 61 = .ok (.ireturn, 1) := by decide +kernel
theorem dX3_readWind_62 : decode cX3_readWind 62 = .ok (.aload_n 1, 1) := by decide +kernel
theorem dX3_readWind_63 : decode cX3_readWind 63 = .ok (.getfield 150, 3) := by decide +kernel
theorem dX3_readWind_66 : decode cX3_readWind 66 = .ok (.iload_n 2, 1) := by decide +kernel
theorem dX3_readWind_67 : decode cX3_readWind 67 = .ok (.aload_n 0, 1) := by decide +kernel
theorem dX3_readWind_68 : decode cX3_readWind 68 = .ok (.getfield 78, 3) := by decide +kernel
theorem dX3_readWind_71 : decode cX3_readWind 71 = .ok (.iastore, 1) := by decide +kernel
theorem dX3_readWind_72 : decode cX3_readWind 72 = .ok (.aload_n 0, 1) := by decide +kernel
theorem dX3_readWind_73 : decode cX3_readWind 73 = .ok (.invokevirtual 147, 3) := by decide +kernel
theorem dX3_readWind_76 : decode cX3_readWind 76 = .ok (.ireturn, 1) := by decide +kernel
theorem dX3_readRate_0 : decode cX3_readRate 0 = .ok (.aload_n 0, 1) := by decide +kernel
theorem dX3_readRate_1 : decode cX3_readRate 1 = .ok (.getfield 61, 3) := by decide +kernel
theorem dX3_readRate_4 : decode cX3_readRate 4 = .ok (.ifCond .eq 13, 3) := by decide +kernel
theorem dX3_readRate_7 : decode cX3_readRate 7 = .ok (.aload_n 0, 1) := by decide +kernel
theorem dX3_readRate_8 : decode cX3_readRate 8 = .ok (.aload_n 0, 1) := by decide +kernel
theorem dX3_readRate_9 : decode cX3_readRate 9 = .ok (.getfield 72, 3) := by decide +kernel
theorem dX3_readRate_12 : decode cX3_readRate 12 = .ok (.iconst 4, 1) := by decide +kernel
theorem dX3_readRate_13 : decode cX3_readRate 13 = .ok (.invokevirtual 81, 3) := by decide +kernel
theorem dX3_readRate_16 : decode cX3_readRate 16 = .ok (.ireturn, 1) := by decide +kernel
theorem dX3_readRate_17 : decode cX3_readRate 17 = .ok (.aload_n 0, 1) := by decide +kernel
theorem dX3_readRate_18 : decode cX3_readRate 18 = .ok (.iconst 1, 1) := by decide +kernel
theorem dX3_readRate_19 : decode cX3_readRate 19 = .ok (.putfield 61, 3) := by decide +kernel
theorem dX3_readRate_22 : decode cX3_readRate 22 = .ok (.aload_n 0, 1) := by decide +kernel
theorem dX3_readRate_23 : decode cX3_readRate 23 = .ok (.iconst 1, 1) := by decide +kernel
theorem dX3_readRate_24 : decode cX3_readRate 24 = .ok (.bipush 9, 2) := by decide +kernel
theorem dX3_readRate_26 : decode cX3_readRate 26 = .ok (.invokevirtual 141, 3) := by decide +kernel
theorem dX3_readRate_29 : decode cX3_readRate 29 = .ok (.ifCond .ne 5, 3) := by decide +kernel
theorem dX3_readRate_32 : decode cX3_readRate 32 = .ok (.iconst 0, 1) := by decide +kernel
theorem dX3_readRate_33 : decode cX3_readRate 33 = .ok (.ireturn, 1) := by decide +kernel
theorem dX3_readRate_34 : decode cX3_readRate 34 = .ok (.aload_n 1, 1) := by decide +kernel
theorem dX3_readRate_35 : decode cX3_readRate 35 = .ok (.aload_n 0, 1) := by decide +kernel
theorem dX3_readRate_36 : decode cX3_readRate 36 = .ok (.getfield 78, 3) := by decide +kernel
theorem dX3_readRate_39 : decode cX3_readRate 39 = .ok (.putfield 153, 3) := by decide +kernel
theorem dX3_readRate_42 : decode cX3_readRate 42 = .ok (.aload_n 0, 1) := by decide +kernel
theorem dX3_readRate_43 : decode cX3_readRate 43 = .ok (.invokevirtual 147, 3) := by decide +kernel
theorem dX3_readRate_46 : decode cX3_readRate 46 = .ok (.ireturn, 1) := by decide +kernel
theorem dX3_readStart_0 : decode cX3_readStart 0 = .ok (.aload_n 0, 1) := by decide +kernel
theorem dX3_readStart_1 : decode cX3_readStart 1 = .ok (.getfield 65, 3) := by decide +kernel
theorem dX3_readStart_4 : decode cX3_readStart 4 = .ok (.ifCond .eq 13, 3) := by decide +kernel
theorem dX3_readStart_7 : decode cX3_readStart 7 = .ok (.aload_n 0, 1) := by decide +kernel
theorem dX3_readStart_8 : decode cX3_readStart 8 = .ok (.aload_n 0, 1) := by decide +kernel
theorem dX3_readStart_9 : decode cX3_readStart 9 = .ok (.getfield 72, 3) := by decide +kernel
theorem dX3_readStart_12 : decode cX3_readStart 12 = .ok (.iconst 4, 1) := by decide +kernel
theorem dX3_readStart_13 : decode cX3_readStart 13 = .ok (.invokevirtual 81, 3) := by decide +kernel
theorem dX3_readStart_16 : decode cX3_readStart 16 = .ok (.ireturn, 1) := by decide +kernel
theorem dX3_readStart_17 : decode cX3_readStart 17 = .ok (.aload_n 0, 1) := by decide +kernel
theorem dX3_readStart_18 : decode cX3_readStart 18 = .ok (.iconst 1, 1) := by decide +kernel
theorem dX3_readStart_19 : decode cX3_readStart 19 = .ok (.putfield 65, 3) := by decide +kernel
theorem dX3_readStart_22 : decode cX3_readStart 22 = .ok (.aload_n 0, 1) := by decide +kernel
theorem dX3_readStart_23 : decode cX3_readStart 23 = .ok (.iconst 0, 1) := by decide +kernel
theorem dX3_readStart_24 : decode cX3_readStart 24 = .ok (.bipush 60, 2) := by decide +kernel
theorem dX3_readStart_26 : decode cX3_readStart 26 = .ok (.invokevirtual 141, 3) := by decide +kernel
theorem dX3_readStart_29 : decode cX3_readStart 29 = .ok (.ifCond .ne 5, 3) := by decide +kernel
theorem dX3_readStart_32 : decode cX3_readStart 32 = .ok (.iconst 0, 1) := by decide +kernel
theorem dX3_readStart_33 : decode cX3_readStart 33 = .ok (.ireturn, 1) := by decide +kernel
theorem dX3_readStart_34 : decode cX3_readStart 34 = .ok (.aload_n 1, 1) := by decide +kernel
theorem dX3_readStart_35 : decode cX3_readStart 35 = .ok (.aload_n 0, 1) := by decide +kernel
theorem dX3_readStart_36 : decode cX3_readStart 36 = .ok (.getfield 78, 3) := by decide +kernel
theorem dX3_readStart_39 : decode cX3_readStart 39 = .ok (.putfield 155, 3) := by decide +kernel
theorem dX3_readStart_42 : decode cX3_readStart 42 = .ok (.aload_n 0, 1) := by decide +kernel
theorem dX3_readStart_43 : decode cX3_readStart 43 = .ok (.iconst 0, 1) := by decide +kernel
theorem dX3_readStart_44 : decode cX3_readStart 44 = .ok (.bipush 99, 2) := by decide +kernel
theorem dX3_readStart_46 : decode cX3_readStart 46 = .ok (.invokevirtual 141, 3) := by decide +kernel
theorem dX3_readStart_49 : decode cX3_readStart 49 = .ok (.ifCond .ne 5, 3) := by decide +kernel
theorem dX3_readStart_52 : decode cX3_readStart 52 = .ok (.iconst 0, 1) := by decide +kernel
theorem dX3_readStart_53 : decode cX3_readStart 53 = .ok (.ireturn, 1) := by decide +kernel
theorem dX3_readStart_54 : decode cX3_readStart 54 = .ok (.aload_n 1, 1) := by decide +kernel
theorem dX3_readStart_55 : decode cX3_readStart 55 = .ok (.aload_n 0, 1) := by decide +kernel
theorem dX3_readStart_56 : decode cX3_readStart 56 = .ok (.getfield 78, 3) := by decide +kernel
theorem dX3_readStart_59 : decode cX3_readStart 59 = .ok (.putfield 158, 3) := by decide +kernel
theorem dX3_readStart_62 : decode cX3_readStart 62 = .ok (.aload_n 0, 1) := by decide +kernel
theorem dX3_readStart_63 : decode cX3_readStart 63 = .ok (.invokevirtual 147, 3) := by decide +kernel
theorem dX3_readStart_66 : decode cX3_readStart 66 = .ok (.ireturn, 1) := by decide +kernel
theorem dX3_readNumber_0 : decode cX3_readNumber 0 = .ok (.aload_n 0, 1) := by decide +kernel
theorem dX3_readNumber_1 : decode cX3_readNumber 1 = .ok (.invokevirtual 38, 3) := by decide +kernel
theorem dX3_readNumber_4 : decode cX3_readNumber 4 = .ok (.ifCond .ne 5, 3) := by decide +kernel
theorem dX3_readNumber_7 : decode cX3_readNumber 7 = .ok (.iconst 0, 1) := by decide +kernel
theorem dX3_readNumber_8 : decode cX3_readNumber 8 = .ok (.ireturn, 1) := by decide +kernel
theorem dX3_readNumber_9 : decode cX3_readNumber 9 = .ok (.aload_n 0, 1) := by decide +kernel
theorem dX3_readNumber_10 : decode cX3_readNumber 10 = .ok (.getfield 42, 3) := by decide +kernel
theorem dX3_readNumber_13 : decode cX3_readNumber 13 = .ok (.iconst 2, 1) := by decide +kernel
theorem dX3_readNumber_14 : decode cX3_readNumber 14 = .ok (.if_icmp .eq 13, 3) := by decide +kernel
theorem dX3_readNumber_17 : decode cX3_readNumber 17 = .ok (.aload_n 0, 1) := by decide +kernel
theorem dX3_readNumber_18 : decode cX3_readNumber 18 = .ok (.aload_n 0, 1) := by decide +kernel
theorem dX3_readNumber_19 : decode cX3_readNumber 19 = .ok (.getfield 72, 3) := by decide +kernel
theorem dX3_readNumber_22 : decode cX3_readNumber 22 = .ok (.iconst 2, 1) := by decide +kernel
theorem dX3_readNumber_23 : decode cX3_readNumber 23 = .ok (.invokevirtual 81, 3) := by decide +kernel
theorem dX3_readNumber_26 : decode cX3_readNumber 26 = .ok (.ireturn, 1) := by decide +kernel
theorem dX3_readNumber_27 : decode cX3_readNumber 27 = .ok (.aload_n 0, 1) := by decide +kernel
theorem dX3_readNumber_28 : decode cX3_readNumber 28 = .ok (.getfield 78, 3) := by decide +kernel
theorem dX3_readNumber_31 : decode cX3_readNumber 31 = .ok (.iload_n 1, 1) := by decide +kernel
theorem dX3_readNumber_32 : decode cX3_readNumber 32 = .ok (.iload_n 2, 1) := by decide +kernel
theorem dX3_readNumber_33 : decode cX3_readNumber 33 = .ok (.invokestatic 26, 3) := by decide +kernel
theorem dX3_readNumber_36 : decode cX3_readNumber 36 = .ok (.ifCond .ne 15, 3) := by decide +kernel
theorem dX3_readNumber_39 : decode cX3_readNumber 39 = .ok (.aload_n 0, 1) := by decide +kernel
theorem dX3_readNumber_40 : decode cX3_readNumber 40 = .ok (.aload_n 0, 1) := by decide +kernel
theorem dX3_readNumber_41 : decode cX3_readNumber 41 = .ok (.getfield 72, 3) := by decide +kernel
theorem dX3_readNumber_44 : decode cX3_readNumber 44 = .ok (.iconst 3, 1) := by decide +kernel
theorem dX3_readNumber_45 : decode cX3_readNumber 45 = .ok (.invokevirtual 81, 3) := by decide +kernel
theorem dX3_readNumber_48 : decode cX3_readNumber 48 = .ok (.ifCond .eq 7, 3) := by decide +kernel
theorem dX3_readNumber_51 : decode cX3_readNumber 51 = .ok (.iconst 1, 1) := by decide +kernel
theorem dX3_readNumber_52 : decode cX3_readNumber 52 = .ok (.goto 4, 3) := by decide +kernel
theorem dX3_readNumber_55 : decode cX3_readNumber 55 = .ok (.iconst 0, 1) := by decide +kernel
theorem dX3_readNumber_56 : decode cX3_readNumber 56 = .ok (.ireturn, 1) := by decide +kernel
theorem dX3_readSemicolon_0 : decode cX3_readSemicolon 0 = .ok (.aload_n 0, 1) := by decide +kernel
theorem dX3_readSemicolon_1 : decode cX3_readSemicolon 1 = .ok (.invokevirtual 38, 3) := by decide +kernel
theorem dX3_readSemicolon_4 : decode cX3_readSemicolon 4 = .ok (.ifCond .ne 5, 3) := by decide +kernel
theorem dX3_readSemicolon_7 : decode cX3_readSemicolon 7 = .ok (.iconst 0, 1) := by decide +kernel
theorem dX3_readSemicolon_8 : decode cX3_readSemicolon 8 = .ok (.ireturn, 1) := by decide +kernel
theorem dX3_readSemicolon_9 : decode cX3_readSemicolon 9 = .ok (.aload_n 0, 1) := by decide +kernel
theorem dX3_readSemicolon_10 : decode cX3_readSemicolon 10 = .ok (.getfield 42, 3) := by decide +kernel
theorem dX3_readSemicolon_13 : decode cX3_readSemicolon 13 = .ok (.iconst 3, 1) := by decide +kernel
theorem dX3_readSemicolon_14 : decode cX3_readSemicolon 14 = .ok (.if_icmp .eq 15, 3) := by decide +kernel
theorem dX3_readSemicolon_17 : decode cX3_readSemicolon 17 = .ok (.aload_n 0, 1) := by decide +kernel
theorem dX3_readSemicolon_18 : decode cX3_readSemicolon 18 = .ok (.aload_n 0, 1) := by decide +kernel
theorem dX3_readSemicolon_19 : decode cX3_readSemicolon 19 = .ok (.getfield 72, 3) := by decide +kernel
theorem dX3_readSemicolon_22 : decode cX3_readSemicolon 22 = .ok (.iconst 2, 1) := by decide +kernel
theorem dX3_readSemicolon_23 : decode cX3_readSemicolon 23 = .ok (.invokevirtual 81, 3) := by decide +kernel
theorem dX3_readSemicolon_26 : decode cX3_readSemicolon 26 = .ok (.ifCond .eq 7, 3) := by decide +kernel
theorem dX3_readSemicolon_29 : decode cX3_readSemicolon 29 = .ok (.iconst 1, 1) := by decide +kernel
theorem dX3_readSemicolon_30 : decode cX3_readSemicolon 30 = .ok (.goto 4, 3) := by decide +kernel
theorem dX3_readSemicolon_33 : decode cX3_readSemicolon 33 = .ok (.iconst 0, 1) := by decide +kernel
theorem dX3_readSemicolon_34 : decode cX3_readSemicolon 34 = .ok (.ireturn, 1) := by decide +kernel
theorem dX4_init_0 : decode cX4_init 0 = .ok (.aload_n 0, 1) := by decide +kernel
theorem dX4_init_1 : decode cX4_init 1 = .ok (.invokespecial 3, 3) := by decide +kernel
theorem dX4_init_4 : decode cX4_init 4 = .ok (.aload_n 0, 1) := by decide +kernel
theorem dX4_init_5 : decode cX4_init 5 = .ok (.bipush 40, 2) := by decide +kernel
theorem dX4_init_7 : decode cX4_init 7 = .ok (.newarray .int, 2) := by decide +kernel
theorem dX4_init_9 : decode cX4_init 9 = .ok (.putfield 9, 3) := by decide +kernel
theorem dX4_init_12 : decode cX4_init 12 = .ok (.aload_n 0, 1) := by decide +kernel
theorem dX4_init_13 : decode cX4_init 13 = .ok (.iconst (-1), 1) := by decide +kernel
theorem dX4_init_14 : decode cX4_init 14 = .ok (.putfield 15, 3) := by decide +kernel
theorem dX4_init_17 : decode cX4_init 17 = .ok (.return_, 1) := by decide +kernel
theorem dX4_isNothing_0 : decode cX4_isNothing 0 = .ok (.aload_n 0, 1) := by decide +kernel
theorem dX4_isNothing_1 : decode cX4_isNothing 1 = .ok (.getfield 15, 3) := by decide +kernel
theorem dX4_isNothing_4 : decode cX4_isNothing 4 = .ok (.iconst (-1), 1) := by decide +kernel
theorem dX4_isNothing_5 : decode cX4_isNothing 5 = .ok (.if_icmp .ne 7, 3) := by decide +kernel
theorem dX4_isNothing_8 : decode cX4_isNothing 8 = .ok (.iconst 1, 1) := by decide +kernel
theorem dX4_isNothing_9 : decode cX4_isNothing 9 = .ok (.goto 4, 3) := by decide +kernel
theorem dX4_isNothing_12 : decode cX4_isNothing 12 = .ok (.iconst 0, 1) := by decide +kernel
theorem dX4_isNothing_13 : decode cX4_isNothing 13 = .ok (.ireturn, 1) := by decide +kernel
theorem dX4_renew_0 : decode cX4_renew 0 = .ok (.aload_n 0, 1) := by decide +kernel
theorem dX4_renew_1 : decode cX4_renew 1 = .ok (.iload_n 1, 1) := by decide +kernel
theorem dX4_renew_2 : decode cX4_renew 2 = .ok (.putfield 15, 3) := by decide +kernel
theorem dX4_renew_5 : decode cX4_renew 5 = .ok (.aload_n 0, 1) := by decide +kernel
theorem dX4_renew_6 : decode cX4_renew 6 = .ok (.iload_n 2, 1) := by decide +kernel
theorem dX4_renew_7 : decode cX4_renew 7 = .ok (.putfield 19, 3) := by decide +kernel
theorem dX4_renew_10 : decode cX4_renew 10 = .ok (.aload_n 0, 1) := by decide +kernel
theorem dX4_renew_11 : decode cX4_renew 11 = .ok (.getfield 9, 3) := by decide +kernel
theorem dX4_renew_14 : decode cX4_renew 14 = .ok (.iconst 0, 1) := by decide +kernel
theorem dX4_renew_15 : decode cX4_renew 15 = .ok (.invokestatic 22, 3) := by decide +kernel
theorem dX4_renew_18 : decode cX4_renew 18 = .ok (.return_, 1) := by decide +kernel
theorem dX4_faultAs_0 : decode cX4_faultAs 0 = .ok (.aload_n 0, 1) := by decide +kernel
theorem dX4_faultAs_1 : decode cX4_faultAs 1 = .ok (.invokevirtual 28, 3) := by decide +kernel
theorem dX4_faultAs_4 : decode cX4_faultAs 4 = .ok (.ifCond .eq 5, 3) := by decide +kernel
theorem dX4_faultAs_7 : decode cX4_faultAs 7 = .ok (.iconst 1, 1) := by decide +kernel
theorem dX4_faultAs_8 : decode cX4_faultAs 8 = .ok (.ireturn, 1) := by decide +kernel
theorem dX4_faultAs_9 : decode cX4_faultAs 9 = .ok (.aload_n 0, 1) := by decide +kernel
theorem dX4_faultAs_10 : decode cX4_faultAs 10 = .ok (.getfield 15, 3) := by decide +kernel
theorem dX4_faultAs_13 : decode cX4_faultAs 13 = .ok (.iload_n 1, 1) := by decide +kernel
theorem dX4_faultAs_14 : decode cX4_faultAs 14 = .ok (.if_icmp .eq 5, 3) := by decide +kernel
theorem dX4_faultAs_17 : decode cX4_faultAs 17 = .ok (.iconst 3, 1) := by decide +kernel
theorem dX4_faultAs_18 : decode cX4_faultAs 18 = .ok (.ireturn, 1) := by decide +kernel
theorem dX4_faultAs_19 : decode cX4_faultAs 19 = .ok (.iload_n 2, 1) := by decide +kernel
theorem dX4_faultAs_20 : decode cX4_faultAs 20 = .ok (.iconst 0, 1) := by decide +kernel
theorem dX4_faultAs_21 : decode cX4_faultAs 21 = .ok (.aload_n 0, 1) := by decide +kernel
theorem dX4_faultAs_22 : decode cX4_faultAs 22 = .ok (.getfield 19, 3) := by decide +kernel
theorem dX4_faultAs_25 : decode cX4_faultAs 25 = .ok (.iconst 1, 1) := by decide +kernel
theorem dX4_faultAs_26 : decode cX4_faultAs 26 = .ok (.isub, 1) := by decide +kernel
theorem dX4_faultAs_27 : decode cX4_faultAs 27 = .ok (.invokestatic 32, 3) := by decide +kernel
theorem dX4_faultAs_30 : decode cX4_faultAs 30 = .ok (.ifCond .eq 7, 3) := by decide +kernel
theorem dX4_faultAs_33 : decode cX4_faultAs 33 = .ok (.iconst 0, 1) := by decide +kernel
theorem dX4_faultAs_34 : decode cX4_faultAs 34 = .ok (.goto 4, 3) := by decide +kernel
theorem dX4_faultAs_37 : decode cX4_faultAs 37 = .ok (.iconst 2, 1) := by decide +kernel
theorem dX4_faultAs_38 : decode cX4_faultAs 38 = .ok (.ireturn, 1) := by decide +kernel
theorem dX4_faultOfPair_0 : decode cX4_faultOfPair 0 = .ok (.aload_n 0, 1) := by decide +kernel
theorem dX4_faultOfPair_1 : decode cX4_faultOfPair 1 = .ok (.iload_n 1, 1) := by decide +kernel
theorem dX4_faultOfPair_2 : decode cX4_faultOfPair 2 = .ok (.iload_n 2, 1) := by decide +kernel
theorem dX4_faultOfPair_3 : decode cX4_faultOfPair 3 = .ok (.invokevirtual 36, 3) := by decide +kernel
theorem dX4_faultOfPair_6 : decode cX4_faultOfPair 6 = .ok (.istore_n 3, 1) := by decide +kernel
theorem dX4_faultOfPair_7 : decode cX4_faultOfPair 7 = .ok (.iload_n 3, 1) := by decide +kernel
theorem dX4_faultOfPair_8 : decode cX4_faultOfPair 8 = .ok (.ifCond .eq 7, 3) := by decide +kernel
theorem dX4_faultOfPair_11 : decode cX4_faultOfPair 11 = .ok (.iload_n 3, 1) := by decide +kernel
theorem dX4_faultOfPair_12 : decode cX4_faultOfPair 12 = .ok (.goto 11, 3) := by decide +kernel
theorem dX4_faultOfPair_15 : decode cX4_faultOfPair 15 = .ok (.aload_n 0, 1) := by decide +kernel
theorem dX4_faultOfPair_16 : decode cX4_faultOfPair 16 = .ok (.iload_n 1, 1) := by decide +kernel
theorem dX4_faultOfPair_17 : decode cX4_faultOfPair 17 = .ok (.iload_n 2, 1) := by decide +kernel
theorem dX4_faultOfPair_18 : decode cX4_faultOfPair 18 = .ok (.iconst 1, 1) := by decide +kernel
theorem dX4_faultOfPair_19 : decode cX4_faultOfPair 19 = .ok (.iadd, 1) := by decide +kernel
theorem dX4_faultOfPair_20 : decode cX4_faultOfPair 20 = .ok (.invokevirtual 36, 3) := by decide +kernel
theorem dX4_faultOfPair_23 : decode cX4_faultOfPair 23 = .ok (.ireturn, 1) := by decide +kernel
theorem dX4_put_0 : decode cX4_put 0 = .ok (.aload_n 0, 1) := by decide +kernel
theorem dX4_put_1 : decode cX4_put 1 = .ok (.getfield 9, 3) := by decide +kernel
theorem dX4_put_4 : decode cX4_put 4 = .ok (.iload_n 1, 1) := by decide +kernel
theorem dX4_put_5 : decode cX4_put 5 = .ok (.aload_n 0, 1) := by decide +kernel
theorem dX4_put_6 : decode cX4_put 6 = .ok (.getfield 15, 3) := by decide +kernel
theorem dX4_put_9 : decode cX4_put 9 = .ok (.ifCond .ne 8, 3) := by decide +kernel
theorem dX4_put_12 : decode cX4_put 12 = .ok (.iload_n 2, 1) := by decide +kernel
theorem dX4_put_13 : decode cX4_put 13 = .ok (.i2b, 1) := by decide +kernel
theorem dX4_put_14 : decode cX4_put 14 = .ok (.goto 17, 3) := by decide +kernel
theorem dX4_put_17 : decode cX4_put 17 = .ok (.aload_n 0, 1) := by decide +kernel
theorem dX4_put_18 : decode cX4_put 18 = .ok (.getfield 15, 3) := by decide +kernel
theorem dX4_put_21 : decode cX4_put 21 = .ok (.iconst 1, 1) := by decide +kernel
theorem dX4_put_22 : decode cX4_put 22 = .ok (.if_icmp .ne 8, 3) := by decide +kernel
theorem dX4_put_25 : decode cX4_put 25 = .ok (.iload_n 2, 1) := by decide +kernel
theorem dX4_put_26 : decode cX4_put 26 = .ok (.i2s, 1) := by decide +kernel
theorem dX4_put_27 : decode cX4_put 27 = .ok (.goto 4, 3) := by decide +kernel
theorem dX4_put_30 : decode cX4_put 30 = .ok (.iload_n 2, 1) := by decide +kernel
theorem dX4_put_31 : decode cX4_put 31 = .ok (.iastore, 1) := by decide +kernel
theorem dX4_put_32 : decode cX4_put 32 = .ok (.return_, 1) := by decide +kernel
end
section
theorem dX5_init_0 : decode cX5_init 0 = .ok (.aload_n 0, 1) := by decide +kernel
theorem dX5_init_1 : decode cX5_init 1 = .ok (.invokespecial 1, 3) := by decide +kernel
theorem dX5_init_4 : decode cX5_init 4 = .ok (.aload_n 0, 1) := by decide +kernel
theorem dX5_init_5 : decode cX5_init 5 = .ok (.new 7, 3) := by decide +kernel
theorem dX5_init_8 : decode cX5_init 8 = .ok (.dup, 1) := by decide +kernel
theorem dX5_init_9 : decode cX5_init 9 = .ok (.invokespecial 9, 3) := by decide +kernel
theorem dX5_init_12 : decode cX5_init 12 = .ok (.putfield 10, 3) := by decide +kernel
theorem dX5_init_15 : decode cX5_init 15 = .ok (.aload_n 0, 1) := by decide +kernel
theorem dX5_init_16 : decode cX5_init 16 = .ok (.new 7, 3) := by decide +kernel
theorem dX5_init_19 : decode cX5_init 19 = .ok (.dup, 1) := by decide +kernel
theorem dX5_init_20 : decode cX5_init 20 = .ok (.invokespecial 9, 3) := by decide +kernel
theorem dX5_init_23 : decode cX5_init 23 = .ok (.putfield 16, 3) := by decide +kernel
theorem dX5_init_26 : decode cX5_init 26 = .ok (.aload_n 0, 1) := by decide +kernel
theorem dX5_init_27 : decode cX5_init 27 = .ok (.iconst 2, 1) := by decide +kernel
theorem dX5_init_28 : decode cX5_init 28 = .ok (.anewarray 7, 3) := by decide +kernel
theorem dX5_init_31 : decode cX5_init 31 = .ok (.putfield 19, 3) := by decide +kernel
theorem dX5_init_34 : decode cX5_init 34 = .ok (.aload_n 0, 1) := by decide +kernel
theorem dX5_init_35 : decode cX5_init 35 = .ok (.iconst 2, 1) := by decide +kernel
theorem dX5_init_36 : decode cX5_init 36 = .ok (.newarray .boolean, 2) := by decide +kernel
theorem dX5_init_38 : decode cX5_init 38 = .ok (.putfield 23, 3) := by decide +kernel
theorem dX5_init_41 : decode cX5_init 41 = .ok (.aload_n 0, 1) := by decide +kernel
theorem dX5_init_42 : decode cX5_init 42 = .ok (.new 27, 3) := by decide +kernel
theorem dX5_init_45 : decode cX5_init 45 = .ok (.dup, 1) := by decide +kernel
theorem dX5_init_46 : decode cX5_init 46 = .ok (.invokespecial 29, 3) := by decide +kernel
theorem dX5_init_49 : decode cX5_init 49 = .ok (.putfield 30, 3) := by decide +kernel
theorem dX5_init_52 : decode cX5_init 52 = .ok (.aload_n 0, 1) := by decide +kernel
theorem dX5_init_53 : decode cX5_init 53 = .ok (.iconst 4, 1) := by decide +kernel
theorem dX5_init_54 : decode cX5_init 54 = .ok (.anewarray 34, 3) := by decide +kernel
theorem dX5_init_57 : decode cX5_init 57 = .ok (.putfield 36, 3) := by decide +kernel
theorem dX5_init_60 : decode cX5_init 60 = .ok (.aload_n 0, 1) := by decide +kernel
theorem dX5_init_61 : decode cX5_init 61 = .ok (.new 40, 3) := by decide +kernel
theorem dX5_init_64 : decode cX5_init 64 = .ok (.dup, 1) := by decide +kernel
theorem dX5_init_65 : decode cX5_init 65 = .ok (.invokespecial 42, 3) := by decide +kernel
theorem dX5_init_68 : decode cX5_init 68 = .ok (.putfield 43, 3) := by decide +kernel
theorem dX5_init_71 : decode cX5_init 71 = .ok (.aload_n 0, 1) := by decide +kernel
theorem dX5_init_72 : decode cX5_init 72 = .ok (.bipush 10, 2) := by decide +kernel
theorem dX5_init_74 : decode cX5_init 74 = .ok (.bipush 31, 2) := by decide +kernel
theorem dX5_init_76 : decode cX5_init 76 = .ok (.multianewarray 47 2, 4) := by decide +kernel
theorem dX5_init_80 : decode cX5_init 80 = .ok (.putfield 49, 3) := by decide +kernel
theorem dX5_init_83 : decode cX5_init 83 = .ok (.aload_n 0, 1) := by decide +kernel
theorem dX5_init_84 : decode cX5_init 84 = .ok (.bipush 61, 2) := by decide +kernel
theorem dX5_init_86 : decode cX5_init 86 = .ok (.newarray .int, 2) := by decide +kernel
theorem dX5_init_88 : decode cX5_init 88 = .ok (.putfield 52, 3) := by decide +kernel
theorem dX5_init_91 : decode cX5_init 91 = .ok (.iconst 0, 1) := by decide +kernel
theorem dX5_init_92 : decode cX5_init 92 = .ok (.istore_n 1, 1) := by decide +kernel
theorem dX5_init_93 : decode cX5_init 93 = .ok (.iload_n 1, 1) := by decide +kernel
theorem dX5_init_94 : decode cX5_init 94 = .ok (.iconst 2, 1) := by decide +kernel
theorem dX5_init_95 : decode cX5_init 95 = .ok (.if_icmp .ge 22, 3) := by decide +kernel
theorem dX5_init_98 : decode cX5_init 98 = .ok (.aload_n 0, 1) := by decide +kernel
theorem dX5_init_99 : decode cX5_init 99 = .ok (.getfield 19, 3) := by decide +kernel
theorem dX5_init_102 : decode cX5_init 102 = .ok (.iload_n 1, 1) := by decide +kernel
theorem dX5_init_103 : decode cX5_init 103 = .ok (.new 7, 3) := by decide +kernel
theorem dX5_init_106 : decode cX5_init 106 = .ok (.dup, 1) := by decide +kernel
theorem dX5_init_107 : decode cX5_init 107 = .ok (.invokespecial 9, 3) := by decide +kernel
theorem dX5_init_110 : decode cX5_init 110 = .ok (.aastore, 1) := by decide +kernel
theorem dX5_init_111 : decode cX5_init 111 = .ok (.iinc 1 1, 3) := by decide +kernel
theorem dX5_init_114 : decode cX5_init 114 = .ok (.goto (-21), 3) := by decide +kernel
theorem dX5_init_117 : decode cX5_init 117 = .ok (.iconst 0, 1) := by decide +kernel
theorem dX5_init_118 : decode cX5_init 118 = .ok (.istore_n 1, 1) := by decide +kernel
theorem dX5_init_119 : decode cX5_init 119 = .ok (.iload_n 1, 1) := by decide +kernel
theorem dX5_init_120 : decode cX5_init 120 = .ok (.iconst 4, 1) := by decide +kernel
theorem dX5_init_121 : decode cX5_init 121 = .ok (.if_icmp .ge 22, 3) := by decide +kernel
theorem dX5_init_124 : decode cX5_init 124 = .ok (.aload_n 0, 1) := by decide +kernel
theorem dX5_init_125 : decode cX5_init 125 = .ok (.getfield 36, 3) := by decide +kernel
theorem dX5_init_128 : decode cX5_init 128 = .ok (.iload_n 1, 1) := by decide +kernel
theorem dX5_init_129 : decode cX5_init 129 = .ok (.new 34, 3) := by decide +kernel
theorem dX5_init_132 : decode cX5_init 132 = .ok (.dup, 1) := by decide +kernel
theorem dX5_init_133 : decode cX5_init 133 = .ok (.invokespecial 56, 3) := by decide +kernel
theorem dX5_init_136 : decode cX5_init 136 = .ok (.aastore, 1) := by decide +kernel
theorem dX5_init_137 : decode cX5_init 137 = .ok (.iinc 1 1, 3) := by decide +kernel
theorem dX5_init_140 : decode cX5_init 140 = .ok (.goto (-21), 3) := by decide +kernel
theorem dX5_init_143 : decode cX5_init 143 = .ok (.return_, 1) := by decide +kernel
theorem dX5_feed_0 : decode cX5_feed 0 = .ok (.iload_n 1, 1) := by decide +kernel
theorem dX5_feed_1 : decode cX5_feed 1 = .ok (.iconst 0, 1) := by decide +kernel
theorem dX5_feed_2 : decode cX5_feed 2 = .ok (.bipush 127, 2) := by decide +kernel
theorem dX5_feed_4 : decode cX5_feed 4 = .ok (.invokestatic 57, 3) := by decide +kernel
theorem dX5_feed_7 : decode cX5_feed 7 = .ok (.ifCond .ne 5, 3) := by decide +kernel
theorem dX5_feed_10 : decode cX5_feed 10 = .ok (.iconst (-1), 1) := by decide +kernel
theorem dX5_feed_11 : decode cX5_feed 11 = .ok (.ireturn, 1) := by decide +kernel
theorem dX5_feed_12 : decode cX5_feed 12 = .ok (.aload_n 0, 1) := by decide +kernel
theorem dX5_feed_13 : decode cX5_feed 13 = .ok (.getfield 30, 3) := by decide +kernel
theorem dX5_feed_16 : decode cX5_feed 16 = .ok (.iload_n 1, 1) := by decide +kernel
theorem dX5_feed_17 : decode cX5_feed 17 = .ok (.invokevirtual 61, 3) := by decide +kernel
theorem dX5_feed_20 : decode cX5_feed 20 = .ok (.ireturn, 1) := by decide +kernel
theorem dX5_end_0 : decode cX5_end 0 = .ok (.aload_n 0, 1) := by decide +kernel
theorem dX5_end_1 : decode cX5_end 1 = .ok (.getfield 30, 3) := by decide +kernel
theorem dX5_end_4 : decode cX5_end 4 = .ok (.iload_n 1, 1) := by decide +kernel
theorem dX5_end_5 : decode cX5_end 5 = .ok (.invokevirtual 65, 3) := by decide +kernel
theorem dX5_end_8 : decode cX5_end 8 = .ok (.ireturn, 1) := by decide +kernel
theorem dX5_text_0 : decode cX5_text 0 = .ok (.aload_n 0, 1) := by decide +kernel
theorem dX5_text_1 : decode cX5_text 1 = .ok (.getfield 30, 3) := by decide +kernel
theorem dX5_text_4 : decode cX5_text 4 = .ok (.aload_n 0, 1) := by decide +kernel
theorem dX5_text_5 : decode cX5_text 5 = .ok (.getfield 16, 3) := by decide +kernel
theorem dX5_text_8 : decode cX5_text 8 = .ok (.invokevirtual 68, 3) := by decide +kernel
theorem dX5_text_11 : decode cX5_text 11 = .ok (.istore_n 1, 1) := by decide +kernel
theorem dX5_text_12 : decode cX5_text 12 = .ok (.iload_n 1, 1) := by decide +kernel
theorem dX5_text_13 : decode cX5_text 13 = .ok (.ifCond .lt 18, 3) := by decide +kernel
theorem dX5_text_16 : decode cX5_text 16 = .ok (.aload_n 0, 1) := by decide +kernel
theorem dX5_text_17 : decode cX5_text 17 = .ok (.getfield 10, 3) := by decide +kernel
theorem dX5_text_20 : decode cX5_text 20 = .ok (.aload_n 0, 1) := by decide +kernel
theorem dX5_text_21 : decode cX5_text 21 = .ok (.getfield 16, 3) := by decide +kernel
theorem dX5_text_24 : decode cX5_text 24 = .ok (.invokevirtual 72, 3) := by decide +kernel
theorem dX5_text_27 : decode cX5_text 27 = .ok (.aload_n 0, 1) := by decide +kernel
theorem dX5_text_28 : decode cX5_text 28 = .ok (.invokevirtual 76, 3) := by decide +kernel
theorem dX5_text_31 : decode cX5_text 31 = .ok (.iload_n 1, 1) := by decide +kernel
theorem dX5_text_32 : decode cX5_text 32 = .ok (.ireturn, 1) := by decide +kernel
theorem dX5_fault_0 : decode cX5_fault 0 = .ok (.aload_n 0, 1) := by decide +kernel
theorem dX5_fault_1 : decode cX5_fault 1 = .ok (.getfield 30, 3) := by decide +kernel
theorem dX5_fault_4 : decode cX5_fault 4 = .ok (.getfield 79, 3) := by decide +kernel
theorem dX5_fault_7 : decode cX5_fault 7 = .ok (.ireturn, 1) := by decide +kernel
theorem dX5_rule_0 : decode cX5_rule 0 = .ok (.iload_n 1, 1) := by decide +kernel
theorem dX5_rule_1 : decode cX5_rule 1 = .ok (.tableswitch 114 0 7 #[47, 55, 63, 71, 79, 87, 95, 103], 47) := by decide +kernel
theorem dX5_rule_48 : decode cX5_rule 48 = .ok (.aload_n 0, 1) := by decide +kernel
theorem dX5_rule_49 : decode cX5_rule 49 = .ok (.getfield 10, 3) := by decide +kernel
theorem dX5_rule_52 : decode cX5_rule 52 = .ok (.getfield 83, 3) := by decide +kernel
theorem dX5_rule_55 : decode cX5_rule 55 = .ok (.ireturn, 1) := by decide +kernel
theorem dX5_rule_56 : decode cX5_rule 56 = .ok (.aload_n 0, 1) := by decide +kernel
theorem dX5_rule_57 : decode cX5_rule 57 = .ok (.getfield 10, 3) := by decide +kernel
theorem dX5_rule_60 : decode cX5_rule 60 = .ok (.getfield 86, 3) := by decide +kernel
theorem dX5_rule_63 : decode cX5_rule 63 = .ok (.ireturn, 1) := by decide +kernel
theorem dX5_rule_64 : decode cX5_rule 64 = .ok (.aload_n 0, 1) := by decide +kernel
theorem dX5_rule_65 : decode cX5_rule 65 = .ok (.getfield 10, 3) := by decide +kernel
theorem dX5_rule_68 : decode cX5_rule 68 = .ok (.getfield 89, 3) := by decide +kernel
theorem dX5_rule_71 : decode cX5_rule 71 = .ok (.ireturn, 1) := by decide +kernel
theorem dX5_rule_72 : decode cX5_rule 72 = .ok (.aload_n 0, 1) := by decide +kernel
theorem dX5_rule_73 : decode cX5_rule 73 = .ok (.getfield 10, 3) := by decide +kernel
theorem dX5_rule_76 : decode cX5_rule 76 = .ok (.getfield 92, 3) := by decide +kernel
theorem dX5_rule_79 : decode cX5_rule 79 = .ok (.ireturn, 1) := by decide +kernel
theorem dX5_rule_80 : decode cX5_rule 80 = .ok (.aload_n 0, 1) := by decide +kernel
theorem dX5_rule_81 : decode cX5_rule 81 = .ok (.getfield 10, 3) := by decide +kernel
theorem dX5_rule_84 : decode cX5_rule 84 = .ok (.invokevirtual 95, 3) := by decide +kernel
theorem dX5_rule_87 : decode cX5_rule 87 = .ok (.ireturn, 1) := by decide +kernel
theorem dX5_rule_88 : decode cX5_rule 88 = .ok (.aload_n 0, 1) := by decide +kernel
theorem dX5_rule_89 : decode cX5_rule 89 = .ok (.getfield 10, 3) := by decide +kernel
theorem dX5_rule_92 : decode cX5_rule 92 = .ok (.getfield 99, 3) := by decide +kernel
theorem dX5_rule_95 : decode cX5_rule 95 = .ok (.ireturn, 1) := by decide +kernel
theorem dX5_rule_96 : decode cX5_rule 96 = .ok (.aload_n 0, 1) := by decide +kernel
theorem dX5_rule_97 : decode cX5_rule 97 = .ok (.getfield 10, 3) := by decide +kernel
theorem dX5_rule_100 : decode cX5_rule 100 = .ok (.getfield 102, 3) := by decide +kernel
theorem dX5_rule_103 : decode cX5_rule 103 = .ok (.ireturn, 1) := by decide +kernel
theorem dX5_rule_104 : decode cX5_rule 104 = .ok (.aload_n 0, 1) := by decide +kernel
theorem dX5_rule_105 : decode cX5_rule 105 = .ok (.getfield 10, 3) := by decide +kernel
theorem dX5_rule_108 : decode cX5_rule 108 = .ok (.getfield 105, 3) := by decide +kernel
theorem dX5_rule_111 : decode cX5_rule 111 = .ok (.getfield 109, 3) := by decide +kernel
theorem dX5_rule_114 : decode cX5_rule 114 = .ok (.ireturn, 1) := by decide +kernel
theorem dX5_rule_115 : decode cX5_rule 115 = .ok (.iconst (-1), 1) := by decide +kernel
theorem dX5_rule_116 : decode cX5_rule 116 = .ok (.ireturn, 1) := by decide +kernel
theorem dX5_thing_0 : decode cX5_thing 0 = .ok (.aload_n 0, 1) := by decide +kernel
theorem dX5_thing_1 : decode cX5_thing 1 = .ok (.getfield 10, 3) := by decide +kernel
theorem dX5_thing_4 : decode cX5_thing 4 = .ok (.iload_n 1, 1) := by decide +kernel
theorem dX5_thing_5 : decode cX5_thing 5 = .ok (.invokevirtual 114, 3) := by decide +kernel
theorem dX5_thing_8 : decode cX5_thing 8 = .ok (.ifCond .ne 5, 3) := by decide +kernel
theorem dX5_thing_11 : decode cX5_thing 11 = .ok (.iconst (-1), 1) := by decide +kernel
theorem dX5_thing_12 : decode cX5_thing 12 = .ok (.ireturn, 1) := by decide +kernel
theorem dX5_thing_13 : decode cX5_thing 13 = .ok (.iload_n 2, 1) := by decide +kernel
theorem dX5_thing_14 : decode cX5_thing 14 = .ok (.tableswitch 93 0 4 #[34, 44, 54, 64, 81], 34) := by decide +kernel
theorem dX5_thing_48 : decode cX5_thing 48 = .ok (.aload_n 0, 1) := by decide +kernel
theorem dX5_thing_49 : decode cX5_thing 49 = .ok (.getfield 10, 3) := by decide +kernel
theorem dX5_thing_52 : decode cX5_thing 52 = .ok (.getfield 118, 3) := by decide +kernel
theorem dX5_thing_55 : decode cX5_thing 55 = .ok (.iload_n 1, 1) := by decide +kernel
theorem dX5_thing_56 : decode cX5_thing 56 = .ok (.iaload, 1) := by decide +kernel
theorem dX5_thing_57 : decode cX5_thing 57 = .ok (.ireturn, 1) := by decide +kernel
theorem dX5_thing_58 : decode cX5_thing 58 = .ok (.aload_n 0, 1) := by decide +kernel
theorem dX5_thing_59 : decode cX5_thing 59 = .ok (.getfield 10, 3) := by decide +kernel
theorem dX5_thing_62 : decode cX5_thing 62 = .ok (.getfield 121, 3) := by decide +kernel
theorem dX5_thing_65 : decode cX5_thing 65 = .ok (.iload_n 1, 1) := by decide +kernel
theorem dX5_thing_66 : decode cX5_thing 66 = .ok (.iaload, 1) := by decide +kernel
theorem dX5_thing_67 : decode cX5_thing 67 = .ok (.ireturn, 1) := by decide +kernel
theorem dX5_thing_68 : decode cX5_thing 68 = .ok (.aload_n 0, 1) := by decide +kernel
theorem dX5_thing_69 : decode cX5_thing 69 = .ok (.getfield 10, 3) := by decide +kernel
theorem dX5_thing_72 : decode cX5_thing 72 = .ok (.getfield 124, 3) := by decide +kernel
theorem dX5_thing_75 : decode cX5_thing 75 = .ok (.iload_n 1, 1) := by decide +kernel
theorem dX5_thing_76 : decode cX5_thing 76 = .ok (.iaload, 1) := by decide +kernel
theorem dX5_thing_77 : decode cX5_thing 77 = .ok (.ireturn, 1) := by decide +kernel
theorem dX5_thing_78 : decode cX5_thing 78 = .ok (.aload_n 0, 1) := by decide +kernel
theorem dX5_thing_79 : decode cX5_thing 79 = .ok (.getfield 10, 3) := by decide +kernel
theorem dX5_thing_82 : decode cX5_thing 82 = .ok (.iload_n 1, 1) := by decide +kernel
theorem dX5_thing_83 : decode cX5_thing 83 = .ok (.invokevirtual 127, 3) := by decide +kernel
theorem dX5_thing_86 : decode cX5_thing 86 = .ok (.ifCond .eq 7, 3) := by decide +kernel
theorem dX5_thing_89 : decode cX5_thing 89 = .ok (.iconst 1, 1) := by decide +kernel
theorem dX5_thing_90 : decode cX5_thing 90 = .ok (.goto 4, 3) := by decide +kernel
theorem dX5_thing_93 : decode cX5_thing 93 = .ok (.iconst 0, 1) := by decide +kernel
theorem dX5_thing_94 : decode cX5_thing 94 = .ok (.ireturn, 1) := by decide +kernel
theorem dX5_thing_95 : decode cX5_thing 95 = .ok (.bipush 20, 2) := by decide +kernel
theorem dX5_thing_97 : decode cX5_thing 97 = .ok (.aload_n 0, 1) := by decide +kernel
theorem dX5_thing_98 : decode cX5_thing 98 = .ok (.getfield 10, 3) := by decide +kernel
theorem dX5_thing_101 : decode cX5_thing 101 = .ok (.iload_n 1, 1) := by decide +kernel
theorem dX5_thing_102 : decode cX5_thing 102 = .ok (.invokevirtual 130, 3) := by decide +kernel
theorem dX5_thing_105 : decode cX5_thing 105 = .ok (.iadd, 1) := by decide +kernel
theorem dX5_thing_106 : decode cX5_thing 106 = .ok (.ireturn, 1) := by decide +kernel
theorem dX5_thing_107 : decode cX5_thing 107 = .ok (.iconst (-1), 1) := by decide +kernel
theorem dX5_thing_108 : decode cX5_thing 108 = .ok (.ireturn, 1) := by decide +kernel
theorem dX5_wind_0 : decode cX5_wind 0 = .ok (.iload_n 1, 1) := by decide +kernel
theorem dX5_wind_1 : decode cX5_wind 1 = .ok (.invokestatic 133, 3) := by decide +kernel
theorem dX5_wind_4 : decode cX5_wind 4 = .ok (.ifCond .eq 15, 3) := by decide +kernel
theorem dX5_wind_7 : decode cX5_wind 7 = .ok (.aload_n 0, 1) := by decide +kernel
theorem dX5_wind_8 : decode cX5_wind 8 = .ok (.getfield 10, 3) := by decide +kernel
theorem dX5_wind_11 : decode cX5_wind 11 = .ok (.getfield 136, 3) := by decide +kernel
theorem dX5_wind_14 : decode cX5_wind 14 = .ok (.iload_n 1, 1) := by decide +kernel
theorem dX5_wind_15 : decode cX5_wind 15 = .ok (.iaload, 1) := by decide +kernel
theorem dX5_wind_16 : decode cX5_wind 16 = .ok (.goto 4, 3) := by decide +kernel
theorem dX5_wind_19 : decode cX5_wind 19 = .ok (.iconst (-1), 1) := by decide +kernel
theorem dX5_wind_20 : decode cX5_wind 20 = .ok (.ireturn, 1) := by decide +kernel
theorem dX5_saying_0 : decode cX5_saying 0 = .ok (.iload_n 1, 1) := by decide +kernel
theorem dX5_saying_1 : decode cX5_saying 1 = .ok (.iconst 0, 1) := by decide +kernel
theorem dX5_saying_2 : decode cX5_saying 2 = .ok (.aload_n 0, 1) := by decide +kernel
theorem dX5_saying_3 : decode cX5_saying 3 = .ok (.getfield 10, 3) := by decide +kernel
theorem dX5_saying_6 : decode cX5_saying 6 = .ok (.getfield 105, 3) := by decide +kernel
theorem dX5_saying_9 : decode cX5_saying 9 = .ok (.getfield 109, 3) := by decide +kernel
theorem dX5_saying_12 : decode cX5_saying 12 = .ok (.iconst 1, 1) := by decide +kernel
theorem dX5_saying_13 : decode cX5_saying 13 = .ok (.isub, 1) := by decide +kernel
theorem dX5_saying_14 : decode cX5_saying 14 = .ok (.invokestatic 57, 3) := by decide +kernel
theorem dX5_saying_17 : decode cX5_saying 17 = .ok (.ifCond .eq 12, 3) := by decide +kernel
theorem dX5_saying_20 : decode cX5_saying 20 = .ok (.iload_n 2, 1) := by decide +kernel
theorem dX5_saying_21 : decode cX5_saying 21 = .ok (.iconst 0, 1) := by decide +kernel
theorem dX5_saying_22 : decode cX5_saying 22 = .ok (.iconst 1, 1) := by decide +kernel
theorem dX5_saying_23 : decode cX5_saying 23 = .ok (.invokestatic 57, 3) := by decide +kernel
theorem dX5_saying_26 : decode cX5_saying 26 = .ok (.ifCond .ne 5, 3) := by decide +kernel
theorem dX5_saying_29 : decode cX5_saying 29 = .ok (.iconst (-1), 1) := by decide +kernel
theorem dX5_saying_30 : decode cX5_saying 30 = .ok (.ireturn, 1) := by decide +kernel
theorem dX5_saying_31 : decode cX5_saying 31 = .ok (.iload_n 2, 1) := by decide +kernel
theorem dX5_saying_32 : decode cX5_saying 32 = .ok (.ifCond .ne 18, 3) := by decide +kernel
theorem dX5_saying_35 : decode cX5_saying 35 = .ok (.aload_n 0, 1) := by decide +kernel
theorem dX5_saying_36 : decode cX5_saying 36 = .ok (.getfield 10, 3) := by decide +kernel
theorem dX5_saying_39 : decode cX5_saying 39 = .ok (.getfield 105, 3) := by decide +kernel
theorem dX5_saying_42 : decode cX5_saying 42 = .ok (.getfield 139, 3) := by decide +kernel
theorem dX5_saying_45 : decode cX5_saying 45 = .ok (.iload_n 1, 1) := by decide +kernel
theorem dX5_saying_46 : decode cX5_saying 46 = .ok (.iaload, 1) := by decide +kernel
theorem dX5_saying_47 : decode cX5_saying 47 = .ok (.goto 15, 3) := by decide +kernel
theorem dX5_saying_50 : decode cX5_saying 50 = .ok (.aload_n 0, 1) := by decide +kernel
theorem dX5_saying_51 : decode cX5_saying 51 = .ok (.getfield 10, 3) := by decide +kernel
theorem dX5_saying_54 : decode cX5_saying 54 = .ok (.getfield 105, 3) := by decide +kernel
theorem dX5_saying_57 : decode cX5_saying 57 = .ok (.getfield 142, 3) := by decide +kernel
theorem dX5_saying_60 : decode cX5_saying 60 = .ok (.iload_n 1, 1) := by decide +kernel
theorem dX5_saying_61 : decode cX5_saying 61 = .ok (.iaload, 1) := by decide +kernel
theorem dX5_saying_62 : decode cX5_saying 62 = .ok (.ireturn, 1) := by decide +kernel
theorem dX5_alter_0 : decode cX5_alter 0 = .ok (.aload_n 0, 1) := by decide +kernel
theorem dX5_alter_1 : decode cX5_alter 1 = .ok (.getfield 10, 3) := by decide +kernel
theorem dX5_alter_4 : decode cX5_alter 4 = .ok (.iload_n 1, 1) := by decide +kernel
theorem dX5_alter_5 : decode cX5_alter 5 = .ok (.invokevirtual 114, 3) := by decide +kernel
theorem dX5_alter_8 : decode cX5_alter 8 = .ok (.ifCond .eq 27, 3) := by decide +kernel
theorem dX5_alter_11 : decode cX5_alter 11 = .ok (.iload_n 2, 1) := by decide +kernel
theorem dX5_alter_12 : decode cX5_alter 12 = .ok (.iconst 0, 1) := by decide +kernel
theorem dX5_alter_13 : decode cX5_alter 13 = .ok (.iconst 2, 1) := by decide +kernel
theorem dX5_alter_14 : decode cX5_alter 14 = .ok (.invokestatic 57, 3) := by decide +kernel
theorem dX5_alter_17 : decode cX5_alter 17 = .ok (.ifCond .eq 18, 3) := by decide +kernel
theorem dX5_alter_20 : decode cX5_alter 20 = .ok (.iload_n 3, 1) := by decide +kernel
theorem dX5_alter_21 : decode cX5_alter 21 = .ok (.iload_n 2, 1) := by decide +kernel
theorem dX5_alter_22 : decode cX5_alter 22 = .ok (.invokestatic 145, 3) := by decide +kernel
theorem dX5_alter_25 : decode cX5_alter 25 = .ok (.iload_n 2, 1) := by decide +kernel
theorem dX5_alter_26 : decode cX5_alter 26 = .ok (.invokestatic 148, 3) := by decide +kernel
theorem dX5_alter_29 : decode cX5_alter 29 = .ok (.invokestatic 57, 3) := by decide +kernel
theorem dX5_alter_32 : decode cX5_alter 32 = .ok (.ifCond .ne 5, 3) := by decide +kernel
theorem dX5_alter_35 : decode cX5_alter 35 = .ok (.iconst (-1), 1) := by decide +kernel
theorem dX5_alter_36 : decode cX5_alter 36 = .ok (.ireturn, 1) := by decide +kernel
theorem dX5_alter_37 : decode cX5_alter 37 = .ok (.aload_n 0, 1) := by decide +kernel
theorem dX5_alter_38 : decode cX5_alter 38 = .ok (.getfield 10, 3) := by decide +kernel
theorem dX5_alter_41 : decode cX5_alter 41 = .ok (.iload_n 2, 1) := by decide +kernel
theorem dX5_alter_42 : decode cX5_alter 42 = .ok (.invokevirtual 151, 3) := by decide +kernel
theorem dX5_alter_45 : decode cX5_alter 45 = .ok (.astore 4, 2) := by decide +kernel
theorem dX5_alter_47 : decode cX5_alter 47 = .ok (.aload 4, 2) := by decide +kernel
theorem dX5_alter_49 : decode cX5_alter 49 = .ok (.iload_n 1, 1) := by decide +kernel
theorem dX5_alter_50 : decode cX5_alter 50 = .ok (.iaload, 1) := by decide +kernel
theorem dX5_alter_51 : decode cX5_alter 51 = .ok (.istore 5, 2) := by decide +kernel
theorem dX5_alter_53 : decode cX5_alter 53 = .ok (.aload 4, 2) := by decide +kernel
theorem dX5_alter_55 : decode cX5_alter 55 = .ok (.iload_n 1, 1) := by decide +kernel
theorem dX5_alter_56 : decode cX5_alter 56 = .ok (.iload_n 3, 1) := by decide +kernel
theorem dX5_alter_57 : decode cX5_alter 57 = .ok (.iastore, 1) := by decide +kernel
theorem dX5_alter_58 : decode cX5_alter 58 = .ok (.iload 5, 2) := by decide +kernel
theorem dX5_alter_60 : decode cX5_alter 60 = .ok (.ireturn, 1) := by decide +kernel
theorem dX5_blow_0 : decode cX5_blow 0 = .ok (.iload_n 1, 1) := by decide +kernel
theorem dX5_blow_1 : decode cX5_blow 1 = .ok (.invokestatic 133, 3) := by decide +kernel
theorem dX5_blow_4 : decode cX5_blow 4 = .ok (.ifCond .eq 13, 3) := by decide +kernel
theorem dX5_blow_7 : decode cX5_blow 7 = .ok (.iload_n 2, 1) := by decide +kernel
theorem dX5_blow_8 : decode cX5_blow 8 = .ok (.iconst 0, 1) := by decide +kernel
theorem dX5_blow_9 : decode cX5_blow 9 = .ok (.bipush 8, 2) := by decide +kernel
theorem dX5_blow_11 : decode cX5_blow 11 = .ok (.invokestatic 57, 3) := by decide +kernel
theorem dX5_blow_14 : decode cX5_blow 14 = .ok (.ifCond .ne 5, 3) := by decide +kernel
theorem dX5_blow_17 : decode cX5_blow 17 = .ok (.iconst (-1), 1) := by decide +kernel
theorem dX5_blow_18 : decode cX5_blow 18 = .ok (.ireturn, 1) := by decide +kernel
theorem dX5_blow_19 : decode cX5_blow 19 = .ok (.aload_n 0, 1) := by decide +kernel
theorem dX5_blow_20 : decode cX5_blow 20 = .ok (.getfield 10, 3) := by decide +kernel
theorem dX5_blow_23 : decode cX5_blow 23 = .ok (.getfield 136, 3) := by decide +kernel
theorem dX5_blow_26 : decode cX5_blow 26 = .ok (.iload_n 1, 1) := by decide +kernel
theorem dX5_blow_27 : decode cX5_blow 27 = .ok (.iaload, 1) := by decide +kernel
theorem dX5_blow_28 : decode cX5_blow 28 = .ok (.istore_n 3, 1) := by decide +kernel
theorem dX5_blow_29 : decode cX5_blow 29 = .ok (.aload_n 0, 1) := by decide +kernel
theorem dX5_blow_30 : decode cX5_blow 30 = .ok (.getfield 10, 3) := by decide +kernel
theorem dX5_blow_33 : decode cX5_blow 33 = .ok (.getfield 136, 3) := by decide +kernel
theorem dX5_blow_36 : decode cX5_blow 36 = .ok (.iload_n 1, 1) := by decide +kernel
theorem dX5_blow_37 : decode cX5_blow 37 = .ok (.iload_n 2, 1) := by decide +kernel
theorem dX5_blow_38 : decode cX5_blow 38 = .ok (.iastore, 1) := by decide +kernel
theorem dX5_blow_39 : decode cX5_blow 39 = .ok (.iload_n 3, 1) := by decide +kernel
theorem dX5_blow_40 : decode cX5_blow 40 = .ok (.ireturn, 1) := by decide +kernel
theorem dX5_rate_0 : decode cX5_rate 0 = .ok (.iload_n 1, 1) := by decide +kernel
theorem dX5_rate_1 : decode cX5_rate 1 = .ok (.iconst 1, 1) := by decide +kernel
theorem dX5_rate_2 : decode cX5_rate 2 = .ok (.bipush 9, 2) := by decide +kernel
theorem dX5_rate_4 : decode cX5_rate 4 = .ok (.invokestatic 57, 3) := by decide +kernel
theorem dX5_rate_7 : decode cX5_rate 7 = .ok (.ifCond .ne 5, 3) := by decide +kernel
theorem dX5_rate_10 : decode cX5_rate 10 = .ok (.iconst (-1), 1) := by decide +kernel
theorem dX5_rate_11 : decode cX5_rate 11 = .ok (.ireturn, 1) := by decide +kernel
theorem dX5_rate_12 : decode cX5_rate 12 = .ok (.aload_n 0, 1) := by decide +kernel
theorem dX5_rate_13 : decode cX5_rate 13 = .ok (.getfield 10, 3) := by decide +kernel
theorem dX5_rate_16 : decode cX5_rate 16 = .ok (.getfield 102, 3) := by decide +kernel
theorem dX5_rate_19 : decode cX5_rate 19 = .ok (.istore_n 2, 1) := by decide +kernel
theorem dX5_rate_20 : decode cX5_rate 20 = .ok (.aload_n 0, 1) := by decide +kernel
theorem dX5_rate_21 : decode cX5_rate 21 = .ok (.getfield 10, 3) := by decide +kernel
theorem dX5_rate_24 : decode cX5_rate 24 = .ok (.iload_n 1, 1) := by decide +kernel
theorem dX5_rate_25 : decode cX5_rate 25 = .ok (.putfield 102, 3) := by decide +kernel
theorem dX5_rate_28 : decode cX5_rate 28 = .ok (.iload_n 2, 1) := by decide +kernel
theorem dX5_rate_29 : decode cX5_rate 29 = .ok (.ireturn, 1) := by decide +kernel
theorem dX5_say_0 : decode cX5_say 0 = .ok (.aload_n 0, 1) := by decide +kernel
theorem dX5_say_1 : decode cX5_say 1 = .ok (.getfield 10, 3) := by decide +kernel
theorem dX5_say_4 : decode cX5_say 4 = .ok (.iload_n 1, 1) := by decide +kernel
theorem dX5_say_5 : decode cX5_say 5 = .ok (.invokevirtual 114, 3) := by decide +kernel
theorem dX5_say_8 : decode cX5_say 8 = .ok (.ifCond .ne 5, 3) := by decide +kernel
theorem dX5_say_11 : decode cX5_say 11 = .ok (.iconst (-1), 1) := by decide +kernel
theorem dX5_say_12 : decode cX5_say 12 = .ok (.ireturn, 1) := by decide +kernel
theorem dX5_say_13 : decode cX5_say 13 = .ok (.aload_n 0, 1) := by decide +kernel
theorem dX5_say_14 : decode cX5_say 14 = .ok (.getfield 10, 3) := by decide +kernel
theorem dX5_say_17 : decode cX5_say 17 = .ok (.iload_n 1, 1) := by decide +kernel
theorem dX5_say_18 : decode cX5_say 18 = .ok (.invokevirtual 127, 3) := by decide +kernel
theorem dX5_say_21 : decode cX5_say 21 = .ok (.ifCond .eq 6, 3) := by decide +kernel
theorem dX5_say_24 : decode cX5_say 24 = .ok (.bipush (-2), 2) := by decide +kernel
theorem dX5_say_26 : decode cX5_say 26 = .ok (.ireturn, 1) := by decide +kernel
theorem dX5_say_27 : decode cX5_say 27 = .ok (.aload_n 0, 1) := by decide +kernel
theorem dX5_say_28 : decode cX5_say 28 = .ok (.getfield 10, 3) := by decide +kernel
theorem dX5_say_31 : decode cX5_say 31 = .ok (.iload_n 1, 1) := by decide +kernel
theorem dX5_say_32 : decode cX5_say 32 = .ok (.iconst 1, 1) := by decide +kernel
theorem dX5_say_33 : decode cX5_say 33 = .ok (.invokevirtual 155, 3) := by decide +kernel
theorem dX5_say_36 : decode cX5_say 36 = .ok (.aload_n 0, 1) := by decide +kernel
theorem dX5_say_37 : decode cX5_say 37 = .ok (.getfield 10, 3) := by decide +kernel
theorem dX5_say_40 : decode cX5_say 40 = .ok (.invokevirtual 95, 3) := by decide +kernel
theorem dX5_say_43 : decode cX5_say 43 = .ok (.ireturn, 1) := by decide +kernel
theorem dX5_take_0 : decode cX5_take 0 = .ok (.aload_n 0, 1) := by decide +kernel
theorem dX5_take_1 : decode cX5_take 1 = .ok (.getfield 10, 3) := by decide +kernel
theorem dX5_take_4 : decode cX5_take 4 = .ok (.iload_n 1, 1) := by decide +kernel
theorem dX5_take_5 : decode cX5_take 5 = .ok (.invokevirtual 114, 3) := by decide +kernel
theorem dX5_take_8 : decode cX5_take 8 = .ok (.ifCond .ne 5, 3) := by decide +kernel
theorem dX5_take_11 : decode cX5_take 11 = .ok (.iconst (-1), 1) := by decide +kernel
theorem dX5_take_12 : decode cX5_take 12 = .ok (.ireturn, 1) := by decide +kernel
theorem dX5_take_13 : decode cX5_take 13 = .ok (.aload_n 0, 1) := by decide +kernel
theorem dX5_take_14 : decode cX5_take 14 = .ok (.getfield 10, 3) := by decide +kernel
theorem dX5_take_17 : decode cX5_take 17 = .ok (.iload_n 1, 1) := by decide +kernel
theorem dX5_take_18 : decode cX5_take 18 = .ok (.invokevirtual 127, 3) := by decide +kernel
theorem dX5_take_21 : decode cX5_take 21 = .ok (.ifCond .ne 6, 3) := by decide +kernel
theorem dX5_take_24 : decode cX5_take 24 = .ok (.bipush (-2), 2) := by decide +kernel
theorem dX5_take_26 : decode cX5_take 26 = .ok (.ireturn, 1) := by decide +kernel
theorem dX5_take_27 : decode cX5_take 27 = .ok (.aload_n 0, 1) := by decide +kernel
theorem dX5_take_28 : decode cX5_take 28 = .ok (.getfield 10, 3) := by decide +kernel
theorem dX5_take_31 : decode cX5_take 31 = .ok (.iload_n 1, 1) := by decide +kernel
theorem dX5_take_32 : decode cX5_take 32 = .ok (.iconst 0, 1) := by decide +kernel
theorem dX5_take_33 : decode cX5_take 33 = .ok (.invokevirtual 155, 3) := by decide +kernel
theorem dX5_take_36 : decode cX5_take 36 = .ok (.aload_n 0, 1) := by decide +kernel
theorem dX5_take_37 : decode cX5_take 37 = .ok (.getfield 10, 3) := by decide +kernel
theorem dX5_take_40 : decode cX5_take 40 = .ok (.invokevirtual 95, 3) := by decide +kernel
theorem dX5_take_43 : decode cX5_take 43 = .ok (.ireturn, 1) := by decide +kernel
theorem dX5_plan_0 : decode cX5_plan 0 = .ok (.aload_n 0, 1) := by decide +kernel
theorem dX5_plan_1 : decode cX5_plan 1 = .ok (.getfield 10, 3) := by decide +kernel
theorem dX5_plan_4 : decode cX5_plan 4 = .ok (.iload_n 1, 1) := by decide +kernel
theorem dX5_plan_5 : decode cX5_plan 5 = .ok (.iload_n 2, 1) := by decide +kernel
theorem dX5_plan_6 : decode cX5_plan 6 = .ok (.invokevirtual 159, 3) := by decide +kernel
theorem dX5_plan_9 : decode cX5_plan 9 = .ok (.ireturn, 1) := by decide +kernel
theorem dX5_cut_0 : decode cX5_cut 0 = .ok (.aload_n 0, 1) := by decide +kernel
theorem dX5_cut_1 : decode cX5_cut 1 = .ok (.getfield 10, 3) := by decide +kernel
theorem dX5_cut_4 : decode cX5_cut 4 = .ok (.getfield 105, 3) := by decide +kernel
theorem dX5_cut_7 : decode cX5_cut 7 = .ok (.iload_n 1, 1) := by decide +kernel
theorem dX5_cut_8 : decode cX5_cut 8 = .ok (.invokevirtual 163, 3) := by decide +kernel
theorem dX5_cut_11 : decode cX5_cut 11 = .ok (.ireturn, 1) := by decide +kernel
theorem dX5_minutes_0 : decode cX5_minutes 0 = .ok (.iload_n 1, 1) := by decide +kernel
theorem dX5_minutes_1 : decode cX5_minutes 1 = .ok (.iconst 0, 1) := by decide +kernel
theorem dX5_minutes_2 : decode cX5_minutes 2 = .ok (.bipush 30, 2) := by decide +kernel
theorem dX5_minutes_4 : decode cX5_minutes 4 = .ok (.invokestatic 57, 3) := by decide +kernel
theorem dX5_minutes_7 : decode cX5_minutes 7 = .ok (.ifCond .ne 5, 3) := by decide +kernel
theorem dX5_minutes_10 : decode cX5_minutes 10 = .ok (.iconst (-1), 1) := by decide +kernel
theorem dX5_minutes_11 : decode cX5_minutes 11 = .ok (.ireturn, 1) := by decide +kernel
theorem dX5_minutes_12 : decode cX5_minutes 12 = .ok (.aload_n 0, 1) := by decide +kernel
theorem dX5_minutes_13 : decode cX5_minutes 13 = .ok (.getfield 10, 3) := by decide +kernel
theorem dX5_minutes_16 : decode cX5_minutes 16 = .ok (.getfield 86, 3) := by decide +kernel
theorem dX5_minutes_19 : decode cX5_minutes 19 = .ok (.iload_n 1, 1) := by decide +kernel
theorem dX5_minutes_20 : decode cX5_minutes 20 = .ok (.iadd, 1) := by decide +kernel
theorem dX5_minutes_21 : decode cX5_minutes 21 = .ok (.sipush 1000, 3) := by decide +kernel
theorem dX5_minutes_24 : decode cX5_minutes 24 = .ok (.if_icmp .lt 6, 3) := by decide +kernel
theorem dX5_minutes_27 : decode cX5_minutes 27 = .ok (.bipush (-3), 2) := by decide +kernel
theorem dX5_minutes_29 : decode cX5_minutes 29 = .ok (.ireturn, 1) := by decide +kernel
theorem dX5_minutes_30 : decode cX5_minutes 30 = .ok (.aload_n 0, 1) := by decide +kernel
theorem dX5_minutes_31 : decode cX5_minutes 31 = .ok (.getfield 10, 3) := by decide +kernel
theorem dX5_minutes_34 : decode cX5_minutes 34 = .ok (.iload_n 1, 1) := by decide +kernel
theorem dX5_minutes_35 : decode cX5_minutes 35 = .ok (.invokevirtual 164, 3) := by decide +kernel
theorem dX5_minutes_38 : decode cX5_minutes 38 = .ok (.aload_n 0, 1) := by decide +kernel
theorem dX5_minutes_39 : decode cX5_minutes 39 = .ok (.getfield 10, 3) := by decide +kernel
theorem dX5_minutes_42 : decode cX5_minutes 42 = .ok (.getfield 89, 3) := by decide +kernel
theorem dX5_minutes_45 : decode cX5_minutes 45 = .ok (.ireturn, 1) := by decide +kernel
theorem dX5_runs_0 : decode cX5_runs 0 = .ok (.iload_n 1, 1) := by decide +kernel
theorem dX5_runs_1 : decode cX5_runs 1 = .ok (.invokestatic 168, 3) := by decide +kernel
theorem dX5_runs_4 : decode cX5_runs 4 = .ok (.ifCond .ne 5, 3) := by decide +kernel
theorem dX5_runs_7 : decode cX5_runs 7 = .ok (.iconst (-1), 1) := by decide +kernel
theorem dX5_runs_8 : decode cX5_runs 8 = .ok (.ireturn, 1) := by decide +kernel
theorem dX5_runs_9 : decode cX5_runs 9 = .ok (.aload_n 0, 1) := by decide +kernel
theorem dX5_runs_10 : decode cX5_runs 10 = .ok (.invokevirtual 171, 3) := by decide +kernel
theorem dX5_runs_13 : decode cX5_runs 13 = .ok (.iload_n 2, 1) := by decide +kernel
theorem dX5_runs_14 : decode cX5_runs 14 = .ok (.tableswitch 100 0 4 #[34, 50, 66, 75, 84], 34) := by decide +kernel
theorem dX5_runs_48 : decode cX5_runs 48 = .ok (.aload_n 0, 1) := by decide +kernel
theorem dX5_runs_49 : decode cX5_runs 49 = .ok (.getfield 16, 3) := by decide +kernel
theorem dX5_runs_52 : decode cX5_runs 52 = .ok (.iload_n 1, 1) := by decide +kernel
theorem dX5_runs_53 : decode cX5_runs 53 = .ok (.invokevirtual 164, 3) := by decide +kernel
theorem dX5_runs_56 : decode cX5_runs 56 = .ok (.aload_n 0, 1) := by decide +kernel
theorem dX5_runs_57 : decode cX5_runs 57 = .ok (.getfield 16, 3) := by decide +kernel
theorem dX5_runs_60 : decode cX5_runs 60 = .ok (.getfield 89, 3) := by decide +kernel
theorem dX5_runs_63 : decode cX5_runs 63 = .ok (.ireturn, 1) := by decide +kernel
theorem dX5_runs_64 : decode cX5_runs 64 = .ok (.aload_n 0, 1) := by decide +kernel
theorem dX5_runs_65 : decode cX5_runs 65 = .ok (.getfield 16, 3) := by decide +kernel
theorem dX5_runs_68 : decode cX5_runs 68 = .ok (.iload_n 1, 1) := by decide +kernel
theorem dX5_runs_69 : decode cX5_runs 69 = .ok (.invokevirtual 164, 3) := by decide +kernel
theorem dX5_runs_72 : decode cX5_runs 72 = .ok (.aload_n 0, 1) := by decide +kernel
theorem dX5_runs_73 : decode cX5_runs 73 = .ok (.getfield 16, 3) := by decide +kernel
theorem dX5_runs_76 : decode cX5_runs 76 = .ok (.getfield 92, 3) := by decide +kernel
theorem dX5_runs_79 : decode cX5_runs 79 = .ok (.ireturn, 1) := by decide +kernel
theorem dX5_runs_80 : decode cX5_runs 80 = .ok (.aload_n 0, 1) := by decide +kernel
theorem dX5_runs_81 : decode cX5_runs 81 = .ok (.getfield 16, 3) := by decide +kernel
theorem dX5_runs_84 : decode cX5_runs 84 = .ok (.iload_n 1, 1) := by decide +kernel
theorem dX5_runs_85 : decode cX5_runs 85 = .ok (.invokevirtual 174, 3) := by decide +kernel
theorem dX5_runs_88 : decode cX5_runs 88 = .ok (.ireturn, 1) := by decide +kernel
theorem dX5_runs_89 : decode cX5_runs 89 = .ok (.aload_n 0, 1) := by decide +kernel
theorem dX5_runs_90 : decode cX5_runs 90 = .ok (.getfield 16, 3) := by decide +kernel
theorem dX5_runs_93 : decode cX5_runs 93 = .ok (.iload_n 1, 1) := by decide +kernel
theorem dX5_runs_94 : decode cX5_runs 94 = .ok (.invokevirtual 177, 3) := by decide +kernel
theorem dX5_runs_97 : decode cX5_runs 97 = .ok (.ireturn, 1) := by decide +kernel
theorem dX5_runs_98 : decode cX5_runs 98 = .ok (.aload_n 0, 1) := by decide +kernel
theorem dX5_runs_99 : decode cX5_runs 99 = .ok (.getfield 16, 3) := by decide +kernel
theorem dX5_runs_102 : decode cX5_runs 102 = .ok (.iload_n 1, 1) := by decide +kernel
theorem dX5_runs_103 : decode cX5_runs 103 = .ok (.invokevirtual 164, 3) := by decide +kernel
theorem dX5_runs_106 : decode cX5_runs 106 = .ok (.aload_n 0, 1) := by decide +kernel
theorem dX5_runs_107 : decode cX5_runs 107 = .ok (.getfield 16, 3) := by decide +kernel
theorem dX5_runs_110 : decode cX5_runs 110 = .ok (.getfield 99, 3) := by decide +kernel
theorem dX5_runs_113 : decode cX5_runs 113 = .ok (.ireturn, 1) := by decide +kernel
theorem dX5_runs_114 : decode cX5_runs 114 = .ok (.iconst (-1), 1) := by decide +kernel
theorem dX5_runs_115 : decode cX5_runs 115 = .ok (.ireturn, 1) := by decide +kernel
theorem dX5_falls_0 : decode cX5_falls 0 = .ok (.aload_n 0, 1) := by decide +kernel
theorem dX5_falls_1 : decode cX5_falls 1 = .ok (.invokevirtual 171, 3) := by decide +kernel
theorem dX5_falls_4 : decode cX5_falls 4 = .ok (.aload_n 0, 1) := by decide +kernel
theorem dX5_falls_5 : decode cX5_falls 5 = .ok (.getfield 16, 3) := by decide +kernel
theorem dX5_falls_8 : decode cX5_falls 8 = .ok (.invokevirtual 180, 3) := by decide +kernel
theorem dX5_falls_11 : decode cX5_falls 11 = .ok (.invokestatic 183, 3) := by decide +kernel
theorem dX5_falls_14 : decode cX5_falls 14 = .ok (.ireturn, 1) := by decide +kernel
theorem dX5_church_0 : decode cX5_church 0 = .ok (.iload_n 1, 1) := by decide +kernel
theorem dX5_church_1 : decode cX5_church 1 = .ok (.invokestatic 186, 3) := by decide +kernel
theorem dX5_church_4 : decode cX5_church 4 = .ok (.ifCond .ne 5, 3) := by decide +kernel
theorem dX5_church_7 : decode cX5_church 7 = .ok (.iconst (-1), 1) := by decide +kernel
theorem dX5_church_8 : decode cX5_church 8 = .ok (.ireturn, 1) := by decide +kernel
theorem dX5_church_9 : decode cX5_church 9 = .ok (.aload_n 0, 1) := by decide +kernel
theorem dX5_church_10 : decode cX5_church 10 = .ok (.invokevirtual 171, 3) := by decide +kernel
theorem dX5_church_13 : decode cX5_church 13 = .ok (.aload_n 0, 1) := by decide +kernel
theorem dX5_church_14 : decode cX5_church 14 = .ok (.getfield 16, 3) := by decide +kernel
theorem dX5_church_17 : decode cX5_church 17 = .ok (.iload_n 1, 1) := by decide +kernel
theorem dX5_church_18 : decode cX5_church 18 = .ok (.invokevirtual 189, 3) := by decide +kernel
theorem dX5_church_21 : decode cX5_church 21 = .ok (.invokestatic 183, 3) := by decide +kernel
theorem dX5_church_24 : decode cX5_church 24 = .ok (.ireturn, 1) := by decide +kernel
theorem dX5_best_0 : decode cX5_best 0 = .ok (.iload_n 1, 1) := by decide +kernel
theorem dX5_best_1 : decode cX5_best 1 = .ok (.iconst 0, 1) := by decide +kernel
theorem dX5_best_2 : decode cX5_best 2 = .ok (.iconst 1, 1) := by decide +kernel
theorem dX5_best_3 : decode cX5_best 3 = .ok (.invokestatic 57, 3) := by decide +kernel
theorem dX5_best_6 : decode cX5_best 6 = .ok (.ifCond .ne 5, 3) := by decide +kernel
theorem dX5_best_9 : decode cX5_best 9 = .ok (.iconst (-1), 1) := by decide +kernel
theorem dX5_best_10 : decode cX5_best 10 = .ok (.ireturn, 1) := by decide +kernel
theorem dX5_best_11 : decode cX5_best 11 = .ok (.aload_n 0, 1) := by decide +kernel
theorem dX5_best_12 : decode cX5_best 12 = .ok (.getfield 43, 3) := by decide +kernel
theorem dX5_best_15 : decode cX5_best 15 = .ok (.ldc 192, 2) := by decide +kernel
theorem dX5_best_17 : decode cX5_best 17 = .ok (.invokevirtual 193, 3) := by decide +kernel
theorem dX5_best_20 : decode cX5_best 20 = .ok (.iconst 0, 1) := by decide +kernel
theorem dX5_best_21 : decode cX5_best 21 = .ok (.istore_n 2, 1) := by decide +kernel
theorem dX5_best_22 : decode cX5_best 22 = .ok (.iload_n 2, 1) := by decide +kernel
theorem dX5_best_23 : decode cX5_best 23 = .ok (.aload_n 0, 1) := by decide +kernel
theorem dX5_best_24 : decode cX5_best 24 = .ok (.getfield 10, 3) := by decide +kernel
theorem dX5_best_27 : decode cX5_best 27 = .ok (.getfield 83, 3) := by decide +kernel
theorem dX5_best_30 : decode cX5_best 30 = .ok (.if_icmp .ge 48, 3) := by decide +kernel
theorem dX5_best_33 : decode cX5_best 33 = .ok (.aload_n 0, 1) := by decide +kernel
theorem dX5_best_34 : decode cX5_best 34 = .ok (.getfield 10, 3) := by decide +kernel
theorem dX5_best_37 : decode cX5_best 37 = .ok (.iload_n 2, 1) := by decide +kernel
theorem dX5_best_38 : decode cX5_best 38 = .ok (.invokevirtual 127, 3) := by decide +kernel
theorem dX5_best_41 : decode cX5_best 41 = .ok (.ifCond .ne 31, 3) := by decide +kernel
theorem dX5_best_44 : decode cX5_best 44 = .ok (.aload_n 0, 1) := by decide +kernel
theorem dX5_best_45 : decode cX5_best 45 = .ok (.invokevirtual 171, 3) := by decide +kernel
theorem dX5_best_48 : decode cX5_best 48 = .ok (.aload_n 0, 1) := by decide +kernel
theorem dX5_best_49 : decode cX5_best 49 = .ok (.getfield 16, 3) := by decide +kernel
theorem dX5_best_52 : decode cX5_best 52 = .ok (.iload_n 2, 1) := by decide +kernel
theorem dX5_best_53 : decode cX5_best 53 = .ok (.iconst 1, 1) := by decide +kernel
theorem dX5_best_54 : decode cX5_best 54 = .ok (.invokevirtual 155, 3) := by decide +kernel
theorem dX5_best_57 : decode cX5_best 57 = .ok (.aload_n 0, 1) := by decide +kernel
theorem dX5_best_58 : decode cX5_best 58 = .ok (.getfield 43, 3) := by decide +kernel
theorem dX5_best_61 : decode cX5_best 61 = .ok (.iload_n 2, 1) := by decide +kernel
theorem dX5_best_62 : decode cX5_best 62 = .ok (.aload_n 0, 1) := by decide +kernel
theorem dX5_best_63 : decode cX5_best 63 = .ok (.getfield 16, 3) := by decide +kernel
theorem dX5_best_66 : decode cX5_best 66 = .ok (.invokevirtual 180, 3) := by decide +kernel
theorem dX5_best_69 : decode cX5_best 69 = .ok (.invokevirtual 196, 3) := by decide +kernel
theorem dX5_best_72 : decode cX5_best 72 = .ok (.iinc 2 1, 3) := by decide +kernel
theorem dX5_best_75 : decode cX5_best 75 = .ok (.goto (-53), 3) := by decide +kernel
theorem dX5_best_78 : decode cX5_best 78 = .ok (.aload_n 0, 1) := by decide +kernel
theorem dX5_best_79 : decode cX5_best 79 = .ok (.getfield 43, 3) := by decide +kernel
theorem dX5_best_82 : decode cX5_best 82 = .ok (.iload_n 1, 1) := by decide +kernel
theorem dX5_best_83 : decode cX5_best 83 = .ok (.invokevirtual 200, 3) := by decide +kernel
theorem dX5_best_86 : decode cX5_best 86 = .ok (.ireturn, 1) := by decide +kernel
theorem dX5_both_0 : decode cX5_both 0 = .ok (.iload_n 1, 1) := by decide +kernel
theorem dX5_both_1 : decode cX5_both 1 = .ok (.invokestatic 186, 3) := by decide +kernel
theorem dX5_both_4 : decode cX5_both 4 = .ok (.ifCond .eq 12, 3) := by decide +kernel
theorem dX5_both_7 : decode cX5_both 7 = .ok (.iload_n 2, 1) := by decide +kernel
theorem dX5_both_8 : decode cX5_both 8 = .ok (.iconst 0, 1) := by decide +kernel
theorem dX5_both_9 : decode cX5_both 9 = .ok (.iconst 1, 1) := by decide +kernel
theorem dX5_both_10 : decode cX5_both 10 = .ok (.invokestatic 57, 3) := by decide +kernel
theorem dX5_both_13 : decode cX5_both 13 = .ok (.ifCond .ne 5, 3) := by decide +kernel
theorem dX5_both_16 : decode cX5_both 16 = .ok (.iconst (-1), 1) := by decide +kernel
theorem dX5_both_17 : decode cX5_both 17 = .ok (.ireturn, 1) := by decide +kernel
theorem dX5_both_18 : decode cX5_both 18 = .ok (.aload_n 0, 1) := by decide +kernel
theorem dX5_both_19 : decode cX5_both 19 = .ok (.getfield 43, 3) := by decide +kernel
theorem dX5_both_22 : decode cX5_both 22 = .ok (.ldc 192, 2) := by decide +kernel
theorem dX5_both_24 : decode cX5_both 24 = .ok (.invokevirtual 193, 3) := by decide +kernel
theorem dX5_both_27 : decode cX5_both 27 = .ok (.iconst 0, 1) := by decide +kernel
theorem dX5_both_28 : decode cX5_both 28 = .ok (.istore_n 3, 1) := by decide +kernel
theorem dX5_both_29 : decode cX5_both 29 = .ok (.iload_n 3, 1) := by decide +kernel
theorem dX5_both_30 : decode cX5_both 30 = .ok (.aload_n 0, 1) := by decide +kernel
theorem dX5_both_31 : decode cX5_both 31 = .ok (.getfield 10, 3) := by decide +kernel
theorem dX5_both_34 : decode cX5_both 34 = .ok (.getfield 83, 3) := by decide +kernel
theorem dX5_both_37 : decode cX5_both 37 = .ok (.if_icmp .ge 100, 3) := by decide +kernel
theorem dX5_both_40 : decode cX5_both 40 = .ok (.iload_n 3, 1) := by decide +kernel
theorem dX5_both_41 : decode cX5_both 41 = .ok (.iconst 1, 1) := by decide +kernel
theorem dX5_both_42 : decode cX5_both 42 = .ok (.iadd, 1) := by decide +kernel
theorem dX5_both_43 : decode cX5_both 43 = .ok (.istore 4, 2) := by decide +kernel
theorem dX5_both_45 : decode cX5_both 45 = .ok (.iload 4, 2) := by decide +kernel
theorem dX5_both_47 : decode cX5_both 47 = .ok (.aload_n 0, 1) := by decide +kernel
theorem dX5_both_48 : decode cX5_both 48 = .ok (.getfield 10, 3) := by decide +kernel
theorem dX5_both_51 : decode cX5_both 51 = .ok (.getfield 83, 3) := by decide +kernel
theorem dX5_both_54 : decode cX5_both 54 = .ok (.if_icmp .ge 77, 3) := by decide +kernel
theorem dX5_both_57 : decode cX5_both 57 = .ok (.aload_n 0, 1) := by decide +kernel
theorem dX5_both_58 : decode cX5_both 58 = .ok (.getfield 10, 3) := by decide +kernel
theorem dX5_both_61 : decode cX5_both 61 = .ok (.iload_n 3, 1) := by decide +kernel
theorem dX5_both_62 : decode cX5_both 62 = .ok (.invokevirtual 127, 3) := by decide +kernel
theorem dX5_both_65 : decode cX5_both 65 = .ok (.ifCond .ne 60, 3) := by decide +kernel
theorem dX5_both_68 : decode cX5_both 68 = .ok (.aload_n 0, 1) := by decide +kernel
theorem dX5_both_69 : decode cX5_both 69 = .ok (.getfield 10, 3) := by decide +kernel
theorem dX5_both_72 : decode cX5_both 72 = .ok (.iload 4, 2) := by decide +kernel
theorem dX5_both_74 : decode cX5_both 74 = .ok (.invokevirtual 127, 3) := by decide +kernel
theorem dX5_both_77 : decode cX5_both 77 = .ok (.ifCond .ne 48, 3) := by decide +kernel
theorem dX5_both_80 : decode cX5_both 80 = .ok (.aload_n 0, 1) := by decide +kernel
theorem dX5_both_81 : decode cX5_both 81 = .ok (.invokevirtual 171, 3) := by decide +kernel
theorem dX5_both_84 : decode cX5_both 84 = .ok (.aload_n 0, 1) := by decide +kernel
theorem dX5_both_85 : decode cX5_both 85 = .ok (.getfield 16, 3) := by decide +kernel
theorem dX5_both_88 : decode cX5_both 88 = .ok (.iload_n 3, 1) := by decide +kernel
theorem dX5_both_89 : decode cX5_both 89 = .ok (.iconst 1, 1) := by decide +kernel
theorem dX5_both_90 : decode cX5_both 90 = .ok (.invokevirtual 155, 3) := by decide +kernel
theorem dX5_both_93 : decode cX5_both 93 = .ok (.aload_n 0, 1) := by decide +kernel
theorem dX5_both_94 : decode cX5_both 94 = .ok (.getfield 16, 3) := by decide +kernel
theorem dX5_both_97 : decode cX5_both 97 = .ok (.iload 4, 2) := by decide +kernel
theorem dX5_both_99 : decode cX5_both 99 = .ok (.iconst 1, 1) := by decide +kernel
theorem dX5_both_100 : decode cX5_both 100 = .ok (.invokevirtual 155, 3) := by decide +kernel
theorem dX5_both_103 : decode cX5_both 103 = .ok (.aload_n 0, 1) := by decide +kernel
theorem dX5_both_104 : decode cX5_both 104 = .ok (.getfield 43, 3) := by decide +kernel
theorem dX5_both_107 : decode cX5_both 107 = .ok (.bipush 10, 2) := by decide +kernel
theorem dX5_both_109 : decode cX5_both 109 = .ok (.iload_n 3, 1) := by decide +kernel
theorem dX5_both_110 : decode cX5_both 110 = .ok (.imul, 1) := by decide +kernel
theorem dX5_both_111 : decode cX5_both 111 = .ok (.iload 4, 2) := by decide +kernel
theorem dX5_both_113 : decode cX5_both 113 = .ok (.iadd, 1) := by decide +kernel
theorem dX5_both_114 : decode cX5_both 114 = .ok (.aload_n 0, 1) := by decide +kernel
theorem dX5_both_115 : decode cX5_both 115 = .ok (.getfield 16, 3) := by decide +kernel
theorem dX5_both_118 : decode cX5_both 118 = .ok (.iload_n 1, 1) := by decide +kernel
theorem dX5_both_119 : decode cX5_both 119 = .ok (.invokevirtual 189, 3) := by decide +kernel
theorem dX5_both_122 : decode cX5_both 122 = .ok (.invokevirtual 196, 3) := by decide +kernel
theorem dX5_both_125 : decode cX5_both 125 = .ok (.iinc 4 1, 3) := by decide +kernel
theorem dX5_both_128 : decode cX5_both 128 = .ok (.goto (-83), 3) := by decide +kernel
theorem dX5_both_131 : decode cX5_both 131 = .ok (.iinc 3 1, 3) := by decide +kernel
theorem dX5_both_134 : decode cX5_both 134 = .ok (.goto (-105), 3) := by decide +kernel
theorem dX5_both_137 : decode cX5_both 137 = .ok (.aload_n 0, 1) := by decide +kernel
theorem dX5_both_138 : decode cX5_both 138 = .ok (.getfield 43, 3) := by decide +kernel
theorem dX5_both_141 : decode cX5_both 141 = .ok (.iload_n 2, 1) := by decide +kernel
theorem dX5_both_142 : decode cX5_both 142 = .ok (.invokevirtual 200, 3) := by decide +kernel
theorem dX5_both_145 : decode cX5_both 145 = .ok (.ireturn, 1) := by decide +kernel
theorem dX5_when_0 : decode cX5_when 0 = .ok (.aload_n 0, 1) := by decide +kernel
theorem dX5_when_1 : decode cX5_when 1 = .ok (.getfield 10, 3) := by decide +kernel
theorem dX5_when_4 : decode cX5_when 4 = .ok (.iload_n 1, 1) := by decide +kernel
theorem dX5_when_5 : decode cX5_when 5 = .ok (.invokevirtual 114, 3) := by decide +kernel
theorem dX5_when_8 : decode cX5_when 8 = .ok (.ifCond .eq 27, 3) := by decide +kernel
theorem dX5_when_11 : decode cX5_when 11 = .ok (.iload_n 2, 1) := by decide +kernel
theorem dX5_when_12 : decode cX5_when 12 = .ok (.invokestatic 186, 3) := by decide +kernel
theorem dX5_when_15 : decode cX5_when 15 = .ok (.ifCond .eq 20, 3) := by decide +kernel
theorem dX5_when_18 : decode cX5_when 18 = .ok (.iload_n 3, 1) := by decide +kernel
theorem dX5_when_19 : decode cX5_when 19 = .ok (.invokestatic 168, 3) := by decide +kernel
theorem dX5_when_22 : decode cX5_when 22 = .ok (.ifCond .eq 13, 3) := by decide +kernel
theorem dX5_when_25 : decode cX5_when 25 = .ok (.iload 4, 2) := by decide +kernel
theorem dX5_when_27 : decode cX5_when 27 = .ok (.iconst 0, 1) := by decide +kernel
theorem dX5_when_28 : decode cX5_when 28 = .ok (.iconst 1, 1) := by decide +kernel
theorem dX5_when_29 : decode cX5_when 29 = .ok (.invokestatic 57, 3) := by decide +kernel
theorem dX5_when_32 : decode cX5_when 32 = .ok (.ifCond .ne 5, 3) := by decide +kernel
theorem dX5_when_35 : decode cX5_when 35 = .ok (.iconst (-1), 1) := by decide +kernel
theorem dX5_when_36 : decode cX5_when 36 = .ok (.ireturn, 1) := by decide +kernel
theorem dX5_when_37 : decode cX5_when 37 = .ok (.aload_n 0, 1) := by decide +kernel
theorem dX5_when_38 : decode cX5_when 38 = .ok (.getfield 43, 3) := by decide +kernel
theorem dX5_when_41 : decode cX5_when 41 = .ok (.ldc 192, 2) := by decide +kernel
theorem dX5_when_43 : decode cX5_when 43 = .ok (.invokevirtual 193, 3) := by decide +kernel
theorem dX5_when_46 : decode cX5_when 46 = .ok (.iconst 0, 1) := by decide +kernel
theorem dX5_when_47 : decode cX5_when 47 = .ok (.istore 5, 2) := by decide +kernel
theorem dX5_when_49 : decode cX5_when 49 = .ok (.iload 5, 2) := by decide +kernel
theorem dX5_when_51 : decode cX5_when 51 = .ok (.bipush 30, 2) := by decide +kernel
theorem dX5_when_53 : decode cX5_when 53 = .ok (.if_icmp .gt 69, 3) := by decide +kernel
theorem dX5_when_56 : decode cX5_when 56 = .ok (.aload_n 0, 1) := by decide +kernel
theorem dX5_when_57 : decode cX5_when 57 = .ok (.invokevirtual 171, 3) := by decide +kernel
theorem dX5_when_60 : decode cX5_when 60 = .ok (.aload_n 0, 1) := by decide +kernel
theorem dX5_when_61 : decode cX5_when 61 = .ok (.getfield 16, 3) := by decide +kernel
theorem dX5_when_64 : decode cX5_when 64 = .ok (.iload 5, 2) := by decide +kernel
theorem dX5_when_66 : decode cX5_when 66 = .ok (.iload_n 3, 1) := by decide +kernel
theorem dX5_when_67 : decode cX5_when 67 = .ok (.invokestatic 203, 3) := by decide +kernel
theorem dX5_when_70 : decode cX5_when 70 = .ok (.invokevirtual 164, 3) := by decide +kernel
theorem dX5_when_73 : decode cX5_when 73 = .ok (.iload 5, 2) := by decide +kernel
theorem dX5_when_75 : decode cX5_when 75 = .ok (.iload_n 3, 1) := by decide +kernel
theorem dX5_when_76 : decode cX5_when 76 = .ok (.if_icmp .ge 23, 3) := by decide +kernel
theorem dX5_when_79 : decode cX5_when 79 = .ok (.aload_n 0, 1) := by decide +kernel
theorem dX5_when_80 : decode cX5_when 80 = .ok (.getfield 16, 3) := by decide +kernel
theorem dX5_when_83 : decode cX5_when 83 = .ok (.iload_n 1, 1) := by decide +kernel
theorem dX5_when_84 : decode cX5_when 84 = .ok (.iconst 1, 1) := by decide +kernel
theorem dX5_when_85 : decode cX5_when 85 = .ok (.invokevirtual 155, 3) := by decide +kernel
theorem dX5_when_88 : decode cX5_when 88 = .ok (.aload_n 0, 1) := by decide +kernel
theorem dX5_when_89 : decode cX5_when 89 = .ok (.getfield 16, 3) := by decide +kernel
theorem dX5_when_92 : decode cX5_when 92 = .ok (.iload_n 3, 1) := by decide +kernel
theorem dX5_when_93 : decode cX5_when 93 = .ok (.iload 5, 2) := by decide +kernel
theorem dX5_when_95 : decode cX5_when 95 = .ok (.isub, 1) := by decide +kernel
theorem dX5_when_96 : decode cX5_when 96 = .ok (.invokevirtual 164, 3) := by decide +kernel
theorem dX5_when_99 : decode cX5_when 99 = .ok (.aload_n 0, 1) := by decide +kernel
theorem dX5_when_100 : decode cX5_when 100 = .ok (.getfield 43, 3) := by decide +kernel
theorem dX5_when_103 : decode cX5_when 103 = .ok (.iload 5, 2) := by decide +kernel
theorem dX5_when_105 : decode cX5_when 105 = .ok (.aload_n 0, 1) := by decide +kernel
theorem dX5_when_106 : decode cX5_when 106 = .ok (.getfield 16, 3) := by decide +kernel
theorem dX5_when_109 : decode cX5_when 109 = .ok (.iload_n 2, 1) := by decide +kernel
theorem dX5_when_110 : decode cX5_when 110 = .ok (.invokevirtual 208, 3) := by decide +kernel
theorem dX5_when_113 : decode cX5_when 113 = .ok (.invokevirtual 196, 3) := by decide +kernel
theorem dX5_when_116 : decode cX5_when 116 = .ok (.iinc 5 1, 3) := by decide +kernel
theorem dX5_when_119 : decode cX5_when 119 = .ok (.goto (-70), 3) := by decide +kernel
theorem dX5_when_122 : decode cX5_when 122 = .ok (.aload_n 0, 1) := by decide +kernel
theorem dX5_when_123 : decode cX5_when 123 = .ok (.getfield 43, 3) := by decide +kernel
theorem dX5_when_126 : decode cX5_when 126 = .ok (.iload 4, 2) := by decide +kernel
theorem dX5_when_128 : decode cX5_when 128 = .ok (.invokevirtual 200, 3) := by decide +kernel
theorem dX5_when_131 : decode cX5_when 131 = .ok (.ireturn, 1) := by decide +kernel
theorem dX5_steer_0 : decode cX5_steer 0 = .ok (.iload_n 1, 1) := by decide +kernel
theorem dX5_steer_1 : decode cX5_steer 1 = .ok (.invokestatic 133, 3) := by decide +kernel
theorem dX5_steer_4 : decode cX5_steer 4 = .ok (.ifCond .eq 27, 3) := by decide +kernel
theorem dX5_steer_7 : decode cX5_steer 7 = .ok (.iload_n 2, 1) := by decide +kernel
theorem dX5_steer_8 : decode cX5_steer 8 = .ok (.invokestatic 186, 3) := by decide +kernel
theorem dX5_steer_11 : decode cX5_steer 11 = .ok (.ifCond .eq 20, 3) := by decide +kernel
theorem dX5_steer_14 : decode cX5_steer 14 = .ok (.iload_n 3, 1) := by decide +kernel
theorem dX5_steer_15 : decode cX5_steer 15 = .ok (.invokestatic 168, 3) := by decide +kernel
theorem dX5_steer_18 : decode cX5_steer 18 = .ok (.ifCond .eq 13, 3) := by decide +kernel
theorem dX5_steer_21 : decode cX5_steer 21 = .ok (.iload 4, 2) := by decide +kernel
theorem dX5_steer_23 : decode cX5_steer 23 = .ok (.iconst 0, 1) := by decide +kernel
theorem dX5_steer_24 : decode cX5_steer 24 = .ok (.iconst 1, 1) := by decide +kernel
theorem dX5_steer_25 : decode cX5_steer 25 = .ok (.invokestatic 57, 3) := by decide +kernel
theorem dX5_steer_28 : decode cX5_steer 28 = .ok (.ifCond .ne 5, 3) := by decide +kernel
theorem dX5_steer_31 : decode cX5_steer 31 = .ok (.iconst (-1), 1) := by decide +kernel
theorem dX5_steer_32 : decode cX5_steer 32 = .ok (.ireturn, 1) := by decide +kernel
theorem dX5_steer_33 : decode cX5_steer 33 = .ok (.aload_n 0, 1) := by decide +kernel
theorem dX5_steer_34 : decode cX5_steer 34 = .ok (.getfield 43, 3) := by decide +kernel
theorem dX5_steer_37 : decode cX5_steer 37 = .ok (.ldc 192, 2) := by decide +kernel
theorem dX5_steer_39 : decode cX5_steer 39 = .ok (.invokevirtual 193, 3) := by decide +kernel
theorem dX5_steer_42 : decode cX5_steer 42 = .ok (.iconst 0, 1) := by decide +kernel
theorem dX5_steer_43 : decode cX5_steer 43 = .ok (.istore 5, 2) := by decide +kernel
theorem dX5_steer_45 : decode cX5_steer 45 = .ok (.iload 5, 2) := by decide +kernel
theorem dX5_steer_47 : decode cX5_steer 47 = .ok (.bipush 8, 2) := by decide +kernel
theorem dX5_steer_49 : decode cX5_steer 49 = .ok (.if_icmp .gt 49, 3) := by decide +kernel
theorem dX5_steer_52 : decode cX5_steer 52 = .ok (.aload_n 0, 1) := by decide +kernel
theorem dX5_steer_53 : decode cX5_steer 53 = .ok (.invokevirtual 171, 3) := by decide +kernel
theorem dX5_steer_56 : decode cX5_steer 56 = .ok (.aload_n 0, 1) := by decide +kernel
theorem dX5_steer_57 : decode cX5_steer 57 = .ok (.getfield 16, 3) := by decide +kernel
theorem dX5_steer_60 : decode cX5_steer 60 = .ok (.getfield 136, 3) := by decide +kernel
theorem dX5_steer_63 : decode cX5_steer 63 = .ok (.iload_n 1, 1) := by decide +kernel
theorem dX5_steer_64 : decode cX5_steer 64 = .ok (.iload 5, 2) := by decide +kernel
theorem dX5_steer_66 : decode cX5_steer 66 = .ok (.iastore, 1) := by decide +kernel
theorem dX5_steer_67 : decode cX5_steer 67 = .ok (.aload_n 0, 1) := by decide +kernel
theorem dX5_steer_68 : decode cX5_steer 68 = .ok (.getfield 16, 3) := by decide +kernel
theorem dX5_steer_71 : decode cX5_steer 71 = .ok (.iload_n 3, 1) := by decide +kernel
theorem dX5_steer_72 : decode cX5_steer 72 = .ok (.invokevirtual 164, 3) := by decide +kernel
theorem dX5_steer_75 : decode cX5_steer 75 = .ok (.aload_n 0, 1) := by decide +kernel
theorem dX5_steer_76 : decode cX5_steer 76 = .ok (.getfield 43, 3) := by decide +kernel
theorem dX5_steer_79 : decode cX5_steer 79 = .ok (.iload 5, 2) := by decide +kernel
theorem dX5_steer_81 : decode cX5_steer 81 = .ok (.aload_n 0, 1) := by decide +kernel
theorem dX5_steer_82 : decode cX5_steer 82 = .ok (.getfield 16, 3) := by decide +kernel
theorem dX5_steer_85 : decode cX5_steer 85 = .ok (.iload_n 2, 1) := by decide +kernel
theorem dX5_steer_86 : decode cX5_steer 86 = .ok (.invokevirtual 208, 3) := by decide +kernel
theorem dX5_steer_89 : decode cX5_steer 89 = .ok (.invokevirtual 196, 3) := by decide +kernel
theorem dX5_steer_92 : decode cX5_steer 92 = .ok (.iinc 5 1, 3) := by decide +kernel
theorem dX5_steer_95 : decode cX5_steer 95 = .ok (.goto (-50), 3) := by decide +kernel
theorem dX5_steer_98 : decode cX5_steer 98 = .ok (.aload_n 0, 1) := by decide +kernel
theorem dX5_steer_99 : decode cX5_steer 99 = .ok (.getfield 43, 3) := by decide +kernel
theorem dX5_steer_102 : decode cX5_steer 102 = .ok (.iload 4, 2) := by decide +kernel
theorem dX5_steer_104 : decode cX5_steer 104 = .ok (.invokevirtual 200, 3) := by decide +kernel
theorem dX5_steer_107 : decode cX5_steer 107 = .ok (.ireturn, 1) := by decide +kernel
theorem dX5_hush_0 : decode cX5_hush 0 = .ok (.iload_n 1, 1) := by decide +kernel
theorem dX5_hush_1 : decode cX5_hush 1 = .ok (.invokestatic 168, 3) := by decide +kernel
theorem dX5_hush_4 : decode cX5_hush 4 = .ok (.ifCond .eq 12, 3) := by decide +kernel
theorem dX5_hush_7 : decode cX5_hush 7 = .ok (.iload_n 2, 1) := by decide +kernel
theorem dX5_hush_8 : decode cX5_hush 8 = .ok (.iconst 0, 1) := by decide +kernel
theorem dX5_hush_9 : decode cX5_hush 9 = .ok (.iconst 1, 1) := by decide +kernel
theorem dX5_hush_10 : decode cX5_hush 10 = .ok (.invokestatic 57, 3) := by decide +kernel
theorem dX5_hush_13 : decode cX5_hush 13 = .ok (.ifCond .ne 5, 3) := by decide +kernel
theorem dX5_hush_16 : decode cX5_hush 16 = .ok (.iconst (-1), 1) := by decide +kernel
theorem dX5_hush_17 : decode cX5_hush 17 = .ok (.ireturn, 1) := by decide +kernel
theorem dX5_hush_18 : decode cX5_hush 18 = .ok (.aload_n 0, 1) := by decide +kernel
theorem dX5_hush_19 : decode cX5_hush 19 = .ok (.invokevirtual 171, 3) := by decide +kernel
theorem dX5_hush_22 : decode cX5_hush 22 = .ok (.aload_n 0, 1) := by decide +kernel
theorem dX5_hush_23 : decode cX5_hush 23 = .ok (.getfield 43, 3) := by decide +kernel
theorem dX5_hush_26 : decode cX5_hush 26 = .ok (.aload_n 0, 1) := by decide +kernel
theorem dX5_hush_27 : decode cX5_hush 27 = .ok (.getfield 16, 3) := by decide +kernel
theorem dX5_hush_30 : decode cX5_hush 30 = .ok (.iload_n 1, 1) := by decide +kernel
theorem dX5_hush_31 : decode cX5_hush 31 = .ok (.invokevirtual 174, 3) := by decide +kernel
theorem dX5_hush_34 : decode cX5_hush 34 = .ok (.invokevirtual 193, 3) := by decide +kernel
theorem dX5_hush_37 : decode cX5_hush 37 = .ok (.iconst 0, 1) := by decide +kernel
theorem dX5_hush_38 : decode cX5_hush 38 = .ok (.istore_n 3, 1) := by decide +kernel
theorem dX5_hush_39 : decode cX5_hush 39 = .ok (.iload_n 3, 1) := by decide +kernel
theorem dX5_hush_40 : decode cX5_hush 40 = .ok (.aload_n 0, 1) := by decide +kernel
theorem dX5_hush_41 : decode cX5_hush 41 = .ok (.getfield 10, 3) := by decide +kernel
theorem dX5_hush_44 : decode cX5_hush 44 = .ok (.getfield 105, 3) := by decide +kernel
theorem dX5_hush_47 : decode cX5_hush 47 = .ok (.getfield 109, 3) := by decide +kernel
theorem dX5_hush_50 : decode cX5_hush 50 = .ok (.if_icmp .ge 42, 3) := by decide +kernel
theorem dX5_hush_53 : decode cX5_hush 53 = .ok (.aload_n 0, 1) := by decide +kernel
theorem dX5_hush_54 : decode cX5_hush 54 = .ok (.invokevirtual 171, 3) := by decide +kernel
theorem dX5_hush_57 : decode cX5_hush 57 = .ok (.aload_n 0, 1) := by decide +kernel
theorem dX5_hush_58 : decode cX5_hush 58 = .ok (.getfield 16, 3) := by decide +kernel
theorem dX5_hush_61 : decode cX5_hush 61 = .ok (.getfield 105, 3) := by decide +kernel
theorem dX5_hush_64 : decode cX5_hush 64 = .ok (.getfield 139, 3) := by decide +kernel
theorem dX5_hush_67 : decode cX5_hush 67 = .ok (.iload_n 3, 1) := by decide +kernel
theorem dX5_hush_68 : decode cX5_hush 68 = .ok (.iconst (-1), 1) := by decide +kernel
theorem dX5_hush_69 : decode cX5_hush 69 = .ok (.iastore, 1) := by decide +kernel
theorem dX5_hush_70 : decode cX5_hush 70 = .ok (.aload_n 0, 1) := by decide +kernel
theorem dX5_hush_71 : decode cX5_hush 71 = .ok (.getfield 43, 3) := by decide +kernel
theorem dX5_hush_74 : decode cX5_hush 74 = .ok (.iload_n 3, 1) := by decide +kernel
theorem dX5_hush_75 : decode cX5_hush 75 = .ok (.aload_n 0, 1) := by decide +kernel
theorem dX5_hush_76 : decode cX5_hush 76 = .ok (.getfield 16, 3) := by decide +kernel
theorem dX5_hush_79 : decode cX5_hush 79 = .ok (.iload_n 1, 1) := by decide +kernel
theorem dX5_hush_80 : decode cX5_hush 80 = .ok (.invokevirtual 174, 3) := by decide +kernel
theorem dX5_hush_83 : decode cX5_hush 83 = .ok (.invokevirtual 196, 3) := by decide +kernel
theorem dX5_hush_86 : decode cX5_hush 86 = .ok (.iinc 3 1, 3) := by decide +kernel
theorem dX5_hush_89 : decode cX5_hush 89 = .ok (.goto (-50), 3) := by decide +kernel
theorem dX5_hush_92 : decode cX5_hush 92 = .ok (.aload_n 0, 1) := by decide +kernel
theorem dX5_hush_93 : decode cX5_hush 93 = .ok (.getfield 43, 3) := by decide +kernel
theorem dX5_hush_96 : decode cX5_hush 96 = .ok (.iload_n 2, 1) := by decide +kernel
theorem dX5_hush_97 : decode cX5_hush 97 = .ok (.invokevirtual 200, 3) := by decide +kernel
theorem dX5_hush_100 : decode cX5_hush 100 = .ok (.ireturn, 1) := by decide +kernel
theorem dX5_swap_0 : decode cX5_swap 0 = .ok (.iload_n 1, 1) := by decide +kernel
theorem dX5_swap_1 : decode cX5_swap 1 = .ok (.iconst 0, 1) := by decide +kernel
theorem dX5_swap_2 : decode cX5_swap 2 = .ok (.iconst 1, 1) := by decide +kernel
theorem dX5_swap_3 : decode cX5_swap 3 = .ok (.invokestatic 57, 3) := by decide +kernel
theorem dX5_swap_6 : decode cX5_swap 6 = .ok (.ifCond .ne 5, 3) := by decide +kernel
theorem dX5_swap_9 : decode cX5_swap 9 = .ok (.iconst (-1), 1) := by decide +kernel
theorem dX5_swap_10 : decode cX5_swap 10 = .ok (.ireturn, 1) := by decide +kernel
theorem dX5_swap_11 : decode cX5_swap 11 = .ok (.aload_n 0, 1) := by decide +kernel
theorem dX5_swap_12 : decode cX5_swap 12 = .ok (.invokevirtual 171, 3) := by decide +kernel
theorem dX5_swap_15 : decode cX5_swap 15 = .ok (.aload_n 0, 1) := by decide +kernel
theorem dX5_swap_16 : decode cX5_swap 16 = .ok (.getfield 43, 3) := by decide +kernel
theorem dX5_swap_19 : decode cX5_swap 19 = .ok (.aload_n 0, 1) := by decide +kernel
theorem dX5_swap_20 : decode cX5_swap 20 = .ok (.getfield 16, 3) := by decide +kernel
theorem dX5_swap_23 : decode cX5_swap 23 = .ok (.invokevirtual 180, 3) := by decide +kernel
theorem dX5_swap_26 : decode cX5_swap 26 = .ok (.invokevirtual 193, 3) := by decide +kernel
theorem dX5_swap_29 : decode cX5_swap 29 = .ok (.iconst 0, 1) := by decide +kernel
theorem dX5_swap_30 : decode cX5_swap 30 = .ok (.istore_n 2, 1) := by decide +kernel
theorem dX5_swap_31 : decode cX5_swap 31 = .ok (.iload_n 2, 1) := by decide +kernel
theorem dX5_swap_32 : decode cX5_swap 32 = .ok (.aload_n 0, 1) := by decide +kernel
theorem dX5_swap_33 : decode cX5_swap 33 = .ok (.getfield 10, 3) := by decide +kernel
theorem dX5_swap_36 : decode cX5_swap 36 = .ok (.getfield 105, 3) := by decide +kernel
theorem dX5_swap_39 : decode cX5_swap 39 = .ok (.getfield 109, 3) := by decide +kernel
theorem dX5_swap_42 : decode cX5_swap 42 = .ok (.if_icmp .ge 105, 3) := by decide +kernel
theorem dX5_swap_45 : decode cX5_swap 45 = .ok (.iload_n 2, 1) := by decide +kernel
theorem dX5_swap_46 : decode cX5_swap 46 = .ok (.iconst 1, 1) := by decide +kernel
theorem dX5_swap_47 : decode cX5_swap 47 = .ok (.iadd, 1) := by decide +kernel
theorem dX5_swap_48 : decode cX5_swap 48 = .ok (.istore_n 3, 1) := by decide +kernel
theorem dX5_swap_49 : decode cX5_swap 49 = .ok (.iload_n 3, 1) := by decide +kernel
theorem dX5_swap_50 : decode cX5_swap 50 = .ok (.aload_n 0, 1) := by decide +kernel
theorem dX5_swap_51 : decode cX5_swap 51 = .ok (.getfield 10, 3) := by decide +kernel
theorem dX5_swap_54 : decode cX5_swap 54 = .ok (.getfield 105, 3) := by decide +kernel
theorem dX5_swap_57 : decode cX5_swap 57 = .ok (.getfield 109, 3) := by decide +kernel
theorem dX5_swap_60 : decode cX5_swap 60 = .ok (.if_icmp .ge 81, 3) := by decide +kernel
theorem dX5_swap_63 : decode cX5_swap 63 = .ok (.aload_n 0, 1) := by decide +kernel
theorem dX5_swap_64 : decode cX5_swap 64 = .ok (.invokevirtual 171, 3) := by decide +kernel
theorem dX5_swap_67 : decode cX5_swap 67 = .ok (.aload_n 0, 1) := by decide +kernel
theorem dX5_swap_68 : decode cX5_swap 68 = .ok (.getfield 16, 3) := by decide +kernel
theorem dX5_swap_71 : decode cX5_swap 71 = .ok (.getfield 105, 3) := by decide +kernel
theorem dX5_swap_74 : decode cX5_swap 74 = .ok (.getfield 142, 3) := by decide +kernel
theorem dX5_swap_77 : decode cX5_swap 77 = .ok (.iload_n 2, 1) := by decide +kernel
theorem dX5_swap_78 : decode cX5_swap 78 = .ok (.aload_n 0, 1) := by decide +kernel
theorem dX5_swap_79 : decode cX5_swap 79 = .ok (.getfield 10, 3) := by decide +kernel
theorem dX5_swap_82 : decode cX5_swap 82 = .ok (.getfield 105, 3) := by decide +kernel
theorem dX5_swap_85 : decode cX5_swap 85 = .ok (.getfield 142, 3) := by decide +kernel
theorem dX5_swap_88 : decode cX5_swap 88 = .ok (.iload_n 3, 1) := by decide +kernel
theorem dX5_swap_89 : decode cX5_swap 89 = .ok (.iaload, 1) := by decide +kernel
theorem dX5_swap_90 : decode cX5_swap 90 = .ok (.iastore, 1) := by decide +kernel
theorem dX5_swap_91 : decode cX5_swap 91 = .ok (.aload_n 0, 1) := by decide +kernel
theorem dX5_swap_92 : decode cX5_swap 92 = .ok (.getfield 16, 3) := by decide +kernel
theorem dX5_swap_95 : decode cX5_swap 95 = .ok (.getfield 105, 3) := by decide +kernel
theorem dX5_swap_98 : decode cX5_swap 98 = .ok (.getfield 142, 3) := by decide +kernel
theorem dX5_swap_101 : decode cX5_swap 101 = .ok (.iload_n 3, 1) := by decide +kernel
theorem dX5_swap_102 : decode cX5_swap 102 = .ok (.aload_n 0, 1) := by decide +kernel
theorem dX5_swap_103 : decode cX5_swap 103 = .ok (.getfield 10, 3) := by decide +kernel
theorem dX5_swap_106 : decode cX5_swap 106 = .ok (.getfield 105, 3) := by decide +kernel
theorem dX5_swap_109 : decode cX5_swap 109 = .ok (.getfield 142, 3) := by decide +kernel
theorem dX5_swap_112 : decode cX5_swap 112 = .ok (.iload_n 2, 1) := by decide +kernel
theorem dX5_swap_113 : decode cX5_swap 113 = .ok (.iaload, 1) := by decide +kernel
theorem dX5_swap_114 : decode cX5_swap 114 = .ok (.iastore, 1) := by decide +kernel
theorem dX5_swap_115 : decode cX5_swap 115 = .ok (.aload_n 0, 1) := by decide +kernel
theorem dX5_swap_116 : decode cX5_swap 116 = .ok (.getfield 43, 3) := by decide +kernel
theorem dX5_swap_119 : decode cX5_swap 119 = .ok (.bipush 10, 2) := by decide +kernel
theorem dX5_swap_121 : decode cX5_swap 121 = .ok (.iload_n 2, 1) := by decide +kernel
theorem dX5_swap_122 : decode cX5_swap 122 = .ok (.imul, 1) := by decide +kernel
theorem dX5_swap_123 : decode cX5_swap 123 = .ok (.iload_n 3, 1) := by decide +kernel
theorem dX5_swap_124 : decode cX5_swap 124 = .ok (.iadd, 1) := by decide +kernel
theorem dX5_swap_125 : decode cX5_swap 125 = .ok (.aload_n 0, 1) := by decide +kernel
theorem dX5_swap_126 : decode cX5_swap 126 = .ok (.getfield 16, 3) := by decide +kernel
theorem dX5_swap_129 : decode cX5_swap 129 = .ok (.invokevirtual 180, 3) := by decide +kernel
theorem dX5_swap_132 : decode cX5_swap 132 = .ok (.invokevirtual 196, 3) := by decide +kernel
theorem dX5_swap_135 : decode cX5_swap 135 = .ok (.iinc 3 1, 3) := by decide +kernel
theorem dX5_swap_138 : decode cX5_swap 138 = .ok (.goto (-89), 3) := by decide +kernel
theorem dX5_swap_141 : decode cX5_swap 141 = .ok (.iinc 2 1, 3) := by decide +kernel
theorem dX5_swap_144 : decode cX5_swap 144 = .ok (.goto (-113), 3) := by decide +kernel
theorem dX5_swap_147 : decode cX5_swap 147 = .ok (.aload_n 0, 1) := by decide +kernel
theorem dX5_swap_148 : decode cX5_swap 148 = .ok (.getfield 43, 3) := by decide +kernel
theorem dX5_swap_151 : decode cX5_swap 151 = .ok (.iload_n 1, 1) := by decide +kernel
theorem dX5_swap_152 : decode cX5_swap 152 = .ok (.invokevirtual 200, 3) := by decide +kernel
theorem dX5_swap_155 : decode cX5_swap 155 = .ok (.ireturn, 1) := by decide +kernel
theorem dX5_need_0 : decode cX5_need 0 = .ok (.aload_n 0, 1) := by decide +kernel
theorem dX5_need_1 : decode cX5_need 1 = .ok (.getfield 10, 3) := by decide +kernel
theorem dX5_need_4 : decode cX5_need 4 = .ok (.iload_n 1, 1) := by decide +kernel
theorem dX5_need_5 : decode cX5_need 5 = .ok (.invokevirtual 114, 3) := by decide +kernel
theorem dX5_need_8 : decode cX5_need 8 = .ok (.ifCond .eq 17, 3) := by decide +kernel
theorem dX5_need_11 : decode cX5_need 11 = .ok (.iload_n 2, 1) := by decide +kernel
theorem dX5_need_12 : decode cX5_need 12 = .ok (.invokestatic 168, 3) := by decide +kernel
theorem dX5_need_15 : decode cX5_need 15 = .ok (.ifCond .eq 10, 3) := by decide +kernel
theorem dX5_need_18 : decode cX5_need 18 = .ok (.iload_n 3, 1) := by decide +kernel
theorem dX5_need_19 : decode cX5_need 19 = .ok (.invokestatic 211, 3) := by decide +kernel
theorem dX5_need_22 : decode cX5_need 22 = .ok (.ifCond .ne 5, 3) := by decide +kernel
theorem dX5_need_25 : decode cX5_need 25 = .ok (.iconst (-1), 1) := by decide +kernel
theorem dX5_need_26 : decode cX5_need 26 = .ok (.ireturn, 1) := by decide +kernel
theorem dX5_need_27 : decode cX5_need 27 = .ok (.iconst 1, 1) := by decide +kernel
theorem dX5_need_28 : decode cX5_need 28 = .ok (.istore 4, 2) := by decide +kernel
theorem dX5_need_30 : decode cX5_need 30 = .ok (.iload 4, 2) := by decide +kernel
theorem dX5_need_32 : decode cX5_need 32 = .ok (.bipush 9, 2) := by decide +kernel
theorem dX5_need_34 : decode cX5_need 34 = .ok (.if_icmp .gt 46, 3) := by decide +kernel
theorem dX5_need_37 : decode cX5_need 37 = .ok (.aload_n 0, 1) := by decide +kernel
theorem dX5_need_38 : decode cX5_need 38 = .ok (.invokevirtual 171, 3) := by decide +kernel
theorem dX5_need_41 : decode cX5_need 41 = .ok (.aload_n 0, 1) := by decide +kernel
theorem dX5_need_42 : decode cX5_need 42 = .ok (.getfield 16, 3) := by decide +kernel
theorem dX5_need_45 : decode cX5_need 45 = .ok (.getfield 121, 3) := by decide +kernel
theorem dX5_need_48 : decode cX5_need 48 = .ok (.iload_n 1, 1) := by decide +kernel
theorem dX5_need_49 : decode cX5_need 49 = .ok (.iload 4, 2) := by decide +kernel
theorem dX5_need_51 : decode cX5_need 51 = .ok (.iastore, 1) := by decide +kernel
theorem dX5_need_52 : decode cX5_need 52 = .ok (.aload_n 0, 1) := by decide +kernel
theorem dX5_need_53 : decode cX5_need 53 = .ok (.getfield 16, 3) := by decide +kernel
theorem dX5_need_56 : decode cX5_need 56 = .ok (.iload_n 2, 1) := by decide +kernel
theorem dX5_need_57 : decode cX5_need 57 = .ok (.invokevirtual 164, 3) := by decide +kernel
theorem dX5_need_60 : decode cX5_need 60 = .ok (.aload_n 0, 1) := by decide +kernel
theorem dX5_need_61 : decode cX5_need 61 = .ok (.getfield 16, 3) := by decide +kernel
theorem dX5_need_64 : decode cX5_need 64 = .ok (.getfield 89, 3) := by decide +kernel
theorem dX5_need_67 : decode cX5_need 67 = .ok (.iload_n 3, 1) := by decide +kernel
theorem dX5_need_68 : decode cX5_need 68 = .ok (.if_icmp .lt 6, 3) := by decide +kernel
theorem dX5_need_71 : decode cX5_need 71 = .ok (.iload 4, 2) := by decide +kernel
theorem dX5_need_73 : decode cX5_need 73 = .ok (.ireturn, 1) := by decide +kernel
theorem dX5_need_74 : decode cX5_need 74 = .ok (.iinc 4 1, 3) := by decide +kernel
theorem dX5_need_77 : decode cX5_need 77 = .ok (.goto (-47), 3) := by decide +kernel
theorem dX5_need_80 : decode cX5_need 80 = .ok (.bipush (-4), 2) := by decide +kernel
theorem dX5_need_82 : decode cX5_need 82 = .ok (.ireturn, 1) := by decide +kernel
theorem dX5_luck_0 : decode cX5_luck 0 = .ok (.iload_n 1, 1) := by decide +kernel
theorem dX5_luck_1 : decode cX5_luck 1 = .ok (.iconst 0, 1) := by decide +kernel
theorem dX5_luck_2 : decode cX5_luck 2 = .ok (.bipush 10, 2) := by decide +kernel
theorem dX5_luck_4 : decode cX5_luck 4 = .ok (.invokestatic 57, 3) := by decide +kernel
theorem dX5_luck_7 : decode cX5_luck 7 = .ok (.ifCond .eq 27, 3) := by decide +kernel
theorem dX5_luck_10 : decode cX5_luck 10 = .ok (.iload_n 2, 1) := by decide +kernel
theorem dX5_luck_11 : decode cX5_luck 11 = .ok (.invokestatic 168, 3) := by decide +kernel
theorem dX5_luck_14 : decode cX5_luck 14 = .ok (.ifCond .eq 20, 3) := by decide +kernel
theorem dX5_luck_17 : decode cX5_luck 17 = .ok (.iload_n 3, 1) := by decide +kernel
theorem dX5_luck_18 : decode cX5_luck 18 = .ok (.invokestatic 211, 3) := by decide +kernel
theorem dX5_luck_21 : decode cX5_luck 21 = .ok (.ifCond .eq 13, 3) := by decide +kernel
theorem dX5_luck_24 : decode cX5_luck 24 = .ok (.iload 4, 2) := by decide +kernel
theorem dX5_luck_26 : decode cX5_luck 26 = .ok (.iconst 0, 1) := by decide +kernel
theorem dX5_luck_27 : decode cX5_luck 27 = .ok (.iconst 1, 1) := by decide +kernel
theorem dX5_luck_28 : decode cX5_luck 28 = .ok (.invokestatic 57, 3) := by decide +kernel
theorem dX5_luck_31 : decode cX5_luck 31 = .ok (.ifCond .ne 7, 3) := by decide +kernel
theorem dX5_luck_34 : decode cX5_luck 34 = .ok (.ldc2_w 214, 3) := by decide +kernel
theorem dX5_luck_37 : decode cX5_luck 37 = .ok (.lreturn, 1) := by decide +kernel
theorem dX5_luck_38 : decode cX5_luck 38 = .ok (.lconst 0, 1) := by decide +kernel
theorem dX5_luck_39 : decode cX5_luck 39 = .ok (.lstore 5, 2) := by decide +kernel
theorem dX5_luck_41 : decode cX5_luck 41 = .ok (.iconst 0, 1) := by decide +kernel
theorem dX5_luck_42 : decode cX5_luck 42 = .ok (.istore 7, 2) := by decide +kernel
theorem dX5_luck_44 : decode cX5_luck 44 = .ok (.iload 7, 2) := by decide +kernel
theorem dX5_luck_46 : decode cX5_luck 46 = .ok (.iconst 1, 1) := by decide +kernel
theorem dX5_luck_47 : decode cX5_luck 47 = .ok (.aload_n 0, 1) := by decide +kernel
theorem dX5_luck_48 : decode cX5_luck 48 = .ok (.getfield 10, 3) := by decide +kernel
theorem dX5_luck_51 : decode cX5_luck 51 = .ok (.getfield 105, 3) := by decide +kernel
theorem dX5_luck_54 : decode cX5_luck 54 = .ok (.getfield 109, 3) := by decide +kernel
theorem dX5_luck_57 : decode cX5_luck 57 = .ok (.ishl, 1) := by decide +kernel
theorem dX5_luck_58 : decode cX5_luck 58 = .ok (.if_icmp .ge 54, 3) := by decide +kernel
theorem dX5_luck_61 : decode cX5_luck 61 = .ok (.aload_n 0, 1) := by decide +kernel
theorem dX5_luck_62 : decode cX5_luck 62 = .ok (.iload 7, 2) := by decide +kernel
theorem dX5_luck_64 : decode cX5_luck 64 = .ok (.iload_n 1, 1) := by decide +kernel
theorem dX5_luck_65 : decode cX5_luck 65 = .ok (.invokevirtual 216, 3) := by decide +kernel
theorem dX5_luck_68 : decode cX5_luck 68 = .ok (.lstore 8, 2) := by decide +kernel
theorem dX5_luck_70 : decode cX5_luck 70 = .ok (.lload 8, 2) := by decide +kernel
theorem dX5_luck_72 : decode cX5_luck 72 = .ok (.lconst 0, 1) := by decide +kernel
theorem dX5_luck_73 : decode cX5_luck 73 = .ok (.lcmp, 1) := by decide +kernel
theorem dX5_luck_74 : decode cX5_luck 74 = .ok (.ifCond .le 32, 3) := by decide +kernel
theorem dX5_luck_77 : decode cX5_luck 77 = .ok (.aload_n 0, 1) := by decide +kernel
theorem dX5_luck_78 : decode cX5_luck 78 = .ok (.iload 7, 2) := by decide +kernel
theorem dX5_luck_80 : decode cX5_luck 80 = .ok (.iload_n 2, 1) := by decide +kernel
theorem dX5_luck_81 : decode cX5_luck 81 = .ok (.invokevirtual 220, 3) := by decide +kernel
theorem dX5_luck_84 : decode cX5_luck 84 = .ok (.lload 5, 2) := by decide +kernel
theorem dX5_luck_86 : decode cX5_luck 86 = .ok (.aload_n 0, 1) := by decide +kernel
theorem dX5_luck_87 : decode cX5_luck 87 = .ok (.getfield 16, 3) := by decide +kernel
theorem dX5_luck_90 : decode cX5_luck 90 = .ok (.getfield 89, 3) := by decide +kernel
theorem dX5_luck_93 : decode cX5_luck 93 = .ok (.iload_n 3, 1) := by decide +kernel
theorem dX5_luck_94 : decode cX5_luck 94 = .ok (.if_icmp .gt 8, 3) := by decide +kernel
theorem dX5_luck_97 : decode cX5_luck 97 = .ok (.lload 8, 2) := by decide +kernel
theorem dX5_luck_99 : decode cX5_luck 99 = .ok (.goto 4, 3) := by decide +kernel
theorem dX5_luck_102 : decode cX5_luck 102 = .ok (.lconst 0, 1) := by decide +kernel
theorem dX5_luck_103 : decode cX5_luck 103 = .ok (.ladd, 1) := by decide +kernel
theorem dX5_luck_104 : decode cX5_luck 104 = .ok (.lstore 5, 2) := by decide +kernel
theorem dX5_luck_106 : decode cX5_luck 106 = .ok (.iinc 7 1, 3) := by decide +kernel
theorem dX5_luck_109 : decode cX5_luck 109 = .ok (.goto (-65), 3) := by decide +kernel
theorem dX5_luck_112 : decode cX5_luck 112 = .ok (.lload 5, 2) := by decide +kernel
theorem dX5_luck_114 : decode cX5_luck 114 = .ok (.aload_n 0, 1) := by decide +kernel
theorem dX5_luck_115 : decode cX5_luck 115 = .ok (.invokevirtual 223, 3) := by decide +kernel
theorem dX5_luck_118 : decode cX5_luck 118 = .ok (.iload 4, 2) := by decide +kernel
theorem dX5_luck_120 : decode cX5_luck 120 = .ok (.invokestatic 227, 3) := by decide +kernel
theorem dX5_luck_123 : decode cX5_luck 123 = .ok (.lreturn, 1) := by decide +kernel
theorem dX5_mean_0 : decode cX5_mean 0 = .ok (.iload_n 1, 1) := by decide +kernel
theorem dX5_mean_1 : decode cX5_mean 1 = .ok (.iconst 0, 1) := by decide +kernel
theorem dX5_mean_2 : decode cX5_mean 2 = .ok (.bipush 10, 2) := by decide +kernel
theorem dX5_mean_4 : decode cX5_mean 4 = .ok (.invokestatic 57, 3) := by decide +kernel
theorem dX5_mean_7 : decode cX5_mean 7 = .ok (.ifCond .eq 19, 3) := by decide +kernel
theorem dX5_mean_10 : decode cX5_mean 10 = .ok (.iload_n 2, 1) := by decide +kernel
theorem dX5_mean_11 : decode cX5_mean 11 = .ok (.invokestatic 168, 3) := by decide +kernel
theorem dX5_mean_14 : decode cX5_mean 14 = .ok (.ifCond .eq 12, 3) := by decide +kernel
theorem dX5_mean_17 : decode cX5_mean 17 = .ok (.iload_n 3, 1) := by decide +kernel
theorem dX5_mean_18 : decode cX5_mean 18 = .ok (.iconst 0, 1) := by decide +kernel
theorem dX5_mean_19 : decode cX5_mean 19 = .ok (.iconst 1, 1) := by decide +kernel
theorem dX5_mean_20 : decode cX5_mean 20 = .ok (.invokestatic 57, 3) := by decide +kernel
theorem dX5_mean_23 : decode cX5_mean 23 = .ok (.ifCond .ne 7, 3) := by decide +kernel
theorem dX5_mean_26 : decode cX5_mean 26 = .ok (.ldc2_w 214, 3) := by decide +kernel
theorem dX5_mean_29 : decode cX5_mean 29 = .ok (.lreturn, 1) := by decide +kernel
theorem dX5_mean_30 : decode cX5_mean 30 = .ok (.lconst 0, 1) := by decide +kernel
theorem dX5_mean_31 : decode cX5_mean 31 = .ok (.lstore 4, 2) := by decide +kernel
theorem dX5_mean_33 : decode cX5_mean 33 = .ok (.iconst 0, 1) := by decide +kernel
theorem dX5_mean_34 : decode cX5_mean 34 = .ok (.istore 6, 2) := by decide +kernel
theorem dX5_mean_36 : decode cX5_mean 36 = .ok (.iload 6, 2) := by decide +kernel
theorem dX5_mean_38 : decode cX5_mean 38 = .ok (.iconst 1, 1) := by decide +kernel
theorem dX5_mean_39 : decode cX5_mean 39 = .ok (.aload_n 0, 1) := by decide +kernel
theorem dX5_mean_40 : decode cX5_mean 40 = .ok (.getfield 10, 3) := by decide +kernel
theorem dX5_mean_43 : decode cX5_mean 43 = .ok (.getfield 105, 3) := by decide +kernel
theorem dX5_mean_46 : decode cX5_mean 46 = .ok (.getfield 109, 3) := by decide +kernel
theorem dX5_mean_49 : decode cX5_mean 49 = .ok (.ishl, 1) := by decide +kernel
theorem dX5_mean_50 : decode cX5_mean 50 = .ok (.if_icmp .ge 48, 3) := by decide +kernel
theorem dX5_mean_53 : decode cX5_mean 53 = .ok (.aload_n 0, 1) := by decide +kernel
theorem dX5_mean_54 : decode cX5_mean 54 = .ok (.iload 6, 2) := by decide +kernel
theorem dX5_mean_56 : decode cX5_mean 56 = .ok (.iload_n 1, 1) := by decide +kernel
theorem dX5_mean_57 : decode cX5_mean 57 = .ok (.invokevirtual 216, 3) := by decide +kernel
theorem dX5_mean_60 : decode cX5_mean 60 = .ok (.lstore 7, 2) := by decide +kernel
theorem dX5_mean_62 : decode cX5_mean 62 = .ok (.lload 7, 2) := by decide +kernel
theorem dX5_mean_64 : decode cX5_mean 64 = .ok (.lconst 0, 1) := by decide +kernel
theorem dX5_mean_65 : decode cX5_mean 65 = .ok (.lcmp, 1) := by decide +kernel
theorem dX5_mean_66 : decode cX5_mean 66 = .ok (.ifCond .le 26, 3) := by decide +kernel
theorem dX5_mean_69 : decode cX5_mean 69 = .ok (.aload_n 0, 1) := by decide +kernel
theorem dX5_mean_70 : decode cX5_mean 70 = .ok (.iload 6, 2) := by decide +kernel
theorem dX5_mean_72 : decode cX5_mean 72 = .ok (.iload_n 2, 1) := by decide +kernel
theorem dX5_mean_73 : decode cX5_mean 73 = .ok (.invokevirtual 220, 3) := by decide +kernel
theorem dX5_mean_76 : decode cX5_mean 76 = .ok (.lload 4, 2) := by decide +kernel
theorem dX5_mean_78 : decode cX5_mean 78 = .ok (.lload 7, 2) := by decide +kernel
theorem dX5_mean_80 : decode cX5_mean 80 = .ok (.aload_n 0, 1) := by decide +kernel
theorem dX5_mean_81 : decode cX5_mean 81 = .ok (.getfield 16, 3) := by decide +kernel
theorem dX5_mean_84 : decode cX5_mean 84 = .ok (.getfield 89, 3) := by decide +kernel
theorem dX5_mean_87 : decode cX5_mean 87 = .ok (.i2l, 1) := by decide +kernel
theorem dX5_mean_88 : decode cX5_mean 88 = .ok (.lmul, 1) := by decide +kernel
theorem dX5_mean_89 : decode cX5_mean 89 = .ok (.ladd, 1) := by decide +kernel
theorem dX5_mean_90 : decode cX5_mean 90 = .ok (.lstore 4, 2) := by decide +kernel
theorem dX5_mean_92 : decode cX5_mean 92 = .ok (.iinc 6 1, 3) := by decide +kernel
theorem dX5_mean_95 : decode cX5_mean 95 = .ok (.goto (-59), 3) := by decide +kernel
theorem dX5_mean_98 : decode cX5_mean 98 = .ok (.lload 4, 2) := by decide +kernel
theorem dX5_mean_100 : decode cX5_mean 100 = .ok (.aload_n 0, 1) := by decide +kernel
theorem dX5_mean_101 : decode cX5_mean 101 = .ok (.invokevirtual 223, 3) := by decide +kernel
theorem dX5_mean_104 : decode cX5_mean 104 = .ok (.iload_n 3, 1) := by decide +kernel
theorem dX5_mean_105 : decode cX5_mean 105 = .ok (.invokestatic 227, 3) := by decide +kernel
theorem dX5_mean_108 : decode cX5_mean 108 = .ok (.lreturn, 1) := by decide +kernel
theorem dX5_oddsThatFail_0 : decode cX5_oddsThatFail 0 = .ok (.lconst 1, 1) := by decide +kernel
theorem dX5_oddsThatFail_1 : decode cX5_oddsThatFail 1 = .ok (.lstore_n 3, 1) := by decide +kernel
theorem dX5_oddsThatFail_2 : decode cX5_oddsThatFail 2 = .ok (.iconst 0, 1) := by decide +kernel
theorem dX5_oddsThatFail_3 : decode cX5_oddsThatFail 3 = .ok (.istore 5, 2) := by decide +kernel
theorem dX5_oddsThatFail_5 : decode cX5_oddsThatFail 5 = .ok (.iload 5, 2) := by decide +kernel
theorem dX5_oddsThatFail_7 : decode cX5_oddsThatFail 7 = .ok (.aload_n 0, 1) := by decide +kernel
theorem dX5_oddsThatFail_8 : decode cX5_oddsThatFail 8 = .ok (.getfield 10, 3) := by decide +kernel
theorem dX5_oddsThatFail_11 : decode cX5_oddsThatFail 11 = .ok (.getfield 105, 3) := by decide +kernel
theorem dX5_oddsThatFail_14 : decode cX5_oddsThatFail 14 = .ok (.getfield 109, 3) := by decide +kernel
theorem dX5_oddsThatFail_17 : decode cX5_oddsThatFail 17 = .ok (.if_icmp .ge 32, 3) := by decide +kernel
theorem dX5_oddsThatFail_20 : decode cX5_oddsThatFail 20 = .ok (.lload_n 3, 1) := by decide +kernel
theorem dX5_oddsThatFail_21 : decode cX5_oddsThatFail 21 = .ok (.iload_n 1, 1) := by decide +kernel
theorem dX5_oddsThatFail_22 : decode cX5_oddsThatFail 22 = .ok (.iload 5, 2) := by decide +kernel
theorem dX5_oddsThatFail_24 : decode cX5_oddsThatFail 24 = .ok (.ishr, 1) := by decide +kernel
theorem dX5_oddsThatFail_25 : decode cX5_oddsThatFail 25 = .ok (.iconst 1, 1) := by decide +kernel
theorem dX5_oddsThatFail_26 : decode cX5_oddsThatFail 26 = .ok (.iand, 1) := by decide +kernel
theorem dX5_oddsThatFail_27 : decode cX5_oddsThatFail 27 = .ok (.iconst 1, 1) := by decide +kernel
theorem dX5_oddsThatFail_28 : decode cX5_oddsThatFail 28 = .ok (.if_icmp .ne 8, 3) := by decide +kernel
theorem dX5_oddsThatFail_31 : decode cX5_oddsThatFail 31 = .ok (.iload_n 2, 1) := by decide +kernel
theorem dX5_oddsThatFail_32 : decode cX5_oddsThatFail 32 = .ok (.i2l, 1) := by decide +kernel
theorem dX5_oddsThatFail_33 : decode cX5_oddsThatFail 33 = .ok (.goto 8, 3) := by decide +kernel
theorem dX5_oddsThatFail_36 : decode cX5_oddsThatFail 36 = .ok (.bipush 10, 2) := by decide +kernel
theorem dX5_oddsThatFail_38 : decode cX5_oddsThatFail 38 = .ok (.iload_n 2, 1) := by decide +kernel
theorem dX5_oddsThatFail_39 : decode cX5_oddsThatFail 39 = .ok (.isub, 1) := by decide +kernel
theorem dX5_oddsThatFail_40 : decode cX5_oddsThatFail 40 = .ok (.i2l, 1) := by decide +kernel
theorem dX5_oddsThatFail_41 : decode cX5_oddsThatFail 41 = .ok (.lmul, 1) := by decide +kernel
theorem dX5_oddsThatFail_42 : decode cX5_oddsThatFail 42 = .ok (.lstore_n 3, 1) := by decide +kernel
theorem dX5_oddsThatFail_43 : decode cX5_oddsThatFail 43 = .ok (.iinc 5 1, 3) := by decide +kernel
theorem dX5_oddsThatFail_46 : decode cX5_oddsThatFail 46 = .ok (.goto (-41), 3) := by decide +kernel
theorem dX5_oddsThatFail_49 : decode cX5_oddsThatFail 49 = .ok (.lload_n 3, 1) := by decide +kernel
theorem dX5_oddsThatFail_50 : decode cX5_oddsThatFail 50 = .ok (.lreturn, 1) := by decide +kernel
theorem dX5_allOdds_0 : decode cX5_allOdds 0 = .ok (.lconst 1, 1) := by decide +kernel
theorem dX5_allOdds_1 : decode cX5_allOdds 1 = .ok (.lstore_n 1, 1) := by decide +kernel
theorem dX5_allOdds_2 : decode cX5_allOdds 2 = .ok (.iconst 0, 1) := by decide +kernel
theorem dX5_allOdds_3 : decode cX5_allOdds 3 = .ok (.istore_n 3, 1) := by decide +kernel
theorem dX5_allOdds_4 : decode cX5_allOdds 4 = .ok (.iload_n 3, 1) := by decide +kernel
theorem dX5_allOdds_5 : decode cX5_allOdds 5 = .ok (.aload_n 0, 1) := by decide +kernel
theorem dX5_allOdds_6 : decode cX5_allOdds 6 = .ok (.getfield 10, 3) := by decide +kernel
theorem dX5_allOdds_9 : decode cX5_allOdds 9 = .ok (.getfield 105, 3) := by decide +kernel
theorem dX5_allOdds_12 : decode cX5_allOdds 12 = .ok (.getfield 109, 3) := by decide +kernel
theorem dX5_allOdds_15 : decode cX5_allOdds 15 = .ok (.if_icmp .ge 15, 3) := by decide +kernel
theorem dX5_allOdds_18 : decode cX5_allOdds 18 = .ok (.lload_n 1, 1) := by decide +kernel
theorem dX5_allOdds_19 : decode cX5_allOdds 19 = .ok (.ldc2_w 231, 3) := by decide +kernel
theorem dX5_allOdds_22 : decode cX5_allOdds 22 = .ok (.lmul, 1) := by decide +kernel
theorem dX5_allOdds_23 : decode cX5_allOdds 23 = .ok (.lstore_n 1, 1) := by decide +kernel
theorem dX5_allOdds_24 : decode cX5_allOdds 24 = .ok (.iinc 3 1, 3) := by decide +kernel
theorem dX5_allOdds_27 : decode cX5_allOdds 27 = .ok (.goto (-23), 3) := by decide +kernel
theorem dX5_allOdds_30 : decode cX5_allOdds 30 = .ok (.lload_n 1, 1) := by decide +kernel
theorem dX5_allOdds_31 : decode cX5_allOdds 31 = .ok (.lreturn, 1) := by decide +kernel
theorem dX5_tryWithout_0 : decode cX5_tryWithout 0 = .ok (.aload_n 0, 1) := by decide +kernel
theorem dX5_tryWithout_1 : decode cX5_tryWithout 1 = .ok (.invokevirtual 171, 3) := by decide +kernel
theorem dX5_tryWithout_4 : decode cX5_tryWithout 4 = .ok (.iconst 0, 1) := by decide +kernel
theorem dX5_tryWithout_5 : decode cX5_tryWithout 5 = .ok (.istore_n 3, 1) := by decide +kernel
theorem dX5_tryWithout_6 : decode cX5_tryWithout 6 = .ok (.iload_n 3, 1) := by decide +kernel
theorem dX5_tryWithout_7 : decode cX5_tryWithout 7 = .ok (.aload_n 0, 1) := by decide +kernel
theorem dX5_tryWithout_8 : decode cX5_tryWithout 8 = .ok (.getfield 10, 3) := by decide +kernel
theorem dX5_tryWithout_11 : decode cX5_tryWithout 11 = .ok (.getfield 105, 3) := by decide +kernel
theorem dX5_tryWithout_14 : decode cX5_tryWithout 14 = .ok (.getfield 109, 3) := by decide +kernel
theorem dX5_tryWithout_17 : decode cX5_tryWithout 17 = .ok (.if_icmp .ge 31, 3) := by decide +kernel
theorem dX5_tryWithout_20 : decode cX5_tryWithout 20 = .ok (.iload_n 1, 1) := by decide +kernel
theorem dX5_tryWithout_21 : decode cX5_tryWithout 21 = .ok (.iload_n 3, 1) := by decide +kernel
theorem dX5_tryWithout_22 : decode cX5_tryWithout 22 = .ok (.ishr, 1) := by decide +kernel
theorem dX5_tryWithout_23 : decode cX5_tryWithout 23 = .ok (.iconst 1, 1) := by decide +kernel
theorem dX5_tryWithout_24 : decode cX5_tryWithout 24 = .ok (.iand, 1) := by decide +kernel
theorem dX5_tryWithout_25 : decode cX5_tryWithout 25 = .ok (.iconst 1, 1) := by decide +kernel
theorem dX5_tryWithout_26 : decode cX5_tryWithout 26 = .ok (.if_icmp .ne 16, 3) := by decide +kernel
theorem dX5_tryWithout_29 : decode cX5_tryWithout 29 = .ok (.aload_n 0, 1) := by decide +kernel
theorem dX5_tryWithout_30 : decode cX5_tryWithout 30 = .ok (.getfield 16, 3) := by decide +kernel
theorem dX5_tryWithout_33 : decode cX5_tryWithout 33 = .ok (.getfield 105, 3) := by decide +kernel
theorem dX5_tryWithout_36 : decode cX5_tryWithout 36 = .ok (.getfield 139, 3) := by decide +kernel
theorem dX5_tryWithout_39 : decode cX5_tryWithout 39 = .ok (.iload_n 3, 1) := by decide +kernel
theorem dX5_tryWithout_40 : decode cX5_tryWithout 40 = .ok (.iconst (-1), 1) := by decide +kernel
theorem dX5_tryWithout_41 : decode cX5_tryWithout 41 = .ok (.iastore, 1) := by decide +kernel
theorem dX5_tryWithout_42 : decode cX5_tryWithout 42 = .ok (.iinc 3 1, 3) := by decide +kernel
theorem dX5_tryWithout_45 : decode cX5_tryWithout 45 = .ok (.goto (-39), 3) := by decide +kernel
theorem dX5_tryWithout_48 : decode cX5_tryWithout 48 = .ok (.aload_n 0, 1) := by decide +kernel
theorem dX5_tryWithout_49 : decode cX5_tryWithout 49 = .ok (.getfield 16, 3) := by decide +kernel
theorem dX5_tryWithout_52 : decode cX5_tryWithout 52 = .ok (.iload_n 2, 1) := by decide +kernel
theorem dX5_tryWithout_53 : decode cX5_tryWithout 53 = .ok (.invokevirtual 164, 3) := by decide +kernel
theorem dX5_tryWithout_56 : decode cX5_tryWithout 56 = .ok (.return_, 1) := by decide +kernel
theorem dX5_see_0 : decode cX5_see 0 = .ok (.iload_n 1, 1) := by decide +kernel
theorem dX5_see_1 : decode cX5_see 1 = .ok (.iconst 0, 1) := by decide +kernel
theorem dX5_see_2 : decode cX5_see 2 = .ok (.bipush 30, 2) := by decide +kernel
theorem dX5_see_4 : decode cX5_see 4 = .ok (.invokestatic 57, 3) := by decide +kernel
theorem dX5_see_7 : decode cX5_see 7 = .ok (.ifCond .eq 10, 3) := by decide +kernel
theorem dX5_see_10 : decode cX5_see 10 = .ok (.iload_n 2, 1) := by decide +kernel
theorem dX5_see_11 : decode cX5_see 11 = .ok (.invokestatic 211, 3) := by decide +kernel
theorem dX5_see_14 : decode cX5_see 14 = .ok (.ifCond .ne 5, 3) := by decide +kernel
theorem dX5_see_17 : decode cX5_see 17 = .ok (.iconst (-1), 1) := by decide +kernel
theorem dX5_see_18 : decode cX5_see 18 = .ok (.ireturn, 1) := by decide +kernel
theorem dX5_see_19 : decode cX5_see 19 = .ok (.aload_n 0, 1) := by decide +kernel
theorem dX5_see_20 : decode cX5_see 20 = .ok (.getfield 10, 3) := by decide +kernel
theorem dX5_see_23 : decode cX5_see 23 = .ok (.getfield 233, 3) := by decide +kernel
theorem dX5_see_26 : decode cX5_see 26 = .ok (.iload_n 1, 1) := by decide +kernel
theorem dX5_see_27 : decode cX5_see 27 = .ok (.iload_n 2, 1) := by decide +kernel
theorem dX5_see_28 : decode cX5_see 28 = .ok (.invokevirtual 236, 3) := by decide +kernel
theorem dX5_see_31 : decode cX5_see 31 = .ok (.ireturn, 1) := by decide +kernel
theorem dX5_forget_0 : decode cX5_forget 0 = .ok (.aload_n 0, 1) := by decide +kernel
theorem dX5_forget_1 : decode cX5_forget 1 = .ok (.getfield 10, 3) := by decide +kernel
theorem dX5_forget_4 : decode cX5_forget 4 = .ok (.getfield 233, 3) := by decide +kernel
theorem dX5_forget_7 : decode cX5_forget 7 = .ok (.iload_n 1, 1) := by decide +kernel
theorem dX5_forget_8 : decode cX5_forget 8 = .ok (.invokevirtual 163, 3) := by decide +kernel
theorem dX5_forget_11 : decode cX5_forget 11 = .ok (.ireturn, 1) := by decide +kernel
theorem dX5_kinds_0 : decode cX5_kinds 0 = .ok (.aload_n 0, 1) := by decide +kernel
theorem dX5_kinds_1 : decode cX5_kinds 1 = .ok (.getfield 10, 3) := by decide +kernel
theorem dX5_kinds_4 : decode cX5_kinds 4 = .ok (.iload_n 1, 1) := by decide +kernel
theorem dX5_kinds_5 : decode cX5_kinds 5 = .ok (.invokevirtual 114, 3) := by decide +kernel
theorem dX5_kinds_8 : decode cX5_kinds 8 = .ok (.ifCond .eq 12, 3) := by decide +kernel
theorem dX5_kinds_11 : decode cX5_kinds 11 = .ok (.aload_n 0, 1) := by decide +kernel
theorem dX5_kinds_12 : decode cX5_kinds 12 = .ok (.iload_n 1, 1) := by decide +kernel
theorem dX5_kinds_13 : decode cX5_kinds 13 = .ok (.iconst 0, 1) := by decide +kernel
theorem dX5_kinds_14 : decode cX5_kinds 14 = .ok (.invokevirtual 239, 3) := by decide +kernel
theorem dX5_kinds_17 : decode cX5_kinds 17 = .ok (.goto 4, 3) := by decide +kernel
theorem dX5_kinds_20 : decode cX5_kinds 20 = .ok (.iconst (-1), 1) := by decide +kernel
theorem dX5_kinds_21 : decode cX5_kinds 21 = .ok (.ireturn, 1) := by decide +kernel
theorem dX5_weights_0 : decode cX5_weights 0 = .ok (.aload_n 0, 1) := by decide +kernel
theorem dX5_weights_1 : decode cX5_weights 1 = .ok (.getfield 10, 3) := by decide +kernel
theorem dX5_weights_4 : decode cX5_weights 4 = .ok (.iload_n 1, 1) := by decide +kernel
theorem dX5_weights_5 : decode cX5_weights 5 = .ok (.invokevirtual 114, 3) := by decide +kernel
theorem dX5_weights_8 : decode cX5_weights 8 = .ok (.ifCond .eq 12, 3) := by decide +kernel
theorem dX5_weights_11 : decode cX5_weights 11 = .ok (.aload_n 0, 1) := by decide +kernel
theorem dX5_weights_12 : decode cX5_weights 12 = .ok (.iload_n 1, 1) := by decide +kernel
theorem dX5_weights_13 : decode cX5_weights 13 = .ok (.iconst 1, 1) := by decide +kernel
theorem dX5_weights_14 : decode cX5_weights 14 = .ok (.invokevirtual 239, 3) := by decide +kernel
theorem dX5_weights_17 : decode cX5_weights 17 = .ok (.goto 4, 3) := by decide +kernel
theorem dX5_weights_20 : decode cX5_weights 20 = .ok (.iconst (-1), 1) := by decide +kernel
theorem dX5_weights_21 : decode cX5_weights 21 = .ok (.ireturn, 1) := by decide +kernel
theorem dX5_saids_0 : decode cX5_saids 0 = .ok (.iload_n 1, 1) := by decide +kernel
theorem dX5_saids_1 : decode cX5_saids 1 = .ok (.iconst 0, 1) := by decide +kernel
theorem dX5_saids_2 : decode cX5_saids 2 = .ok (.iconst 1, 1) := by decide +kernel
theorem dX5_saids_3 : decode cX5_saids 3 = .ok (.invokestatic 57, 3) := by decide +kernel
theorem dX5_saids_6 : decode cX5_saids 6 = .ok (.ifCond .ne 5, 3) := by decide +kernel
theorem dX5_saids_9 : decode cX5_saids 9 = .ok (.iconst (-1), 1) := by decide +kernel
theorem dX5_saids_10 : decode cX5_saids 10 = .ok (.ireturn, 1) := by decide +kernel
theorem dX5_saids_11 : decode cX5_saids 11 = .ok (.iconst 0, 1) := by decide +kernel
theorem dX5_saids_12 : decode cX5_saids 12 = .ok (.istore_n 2, 1) := by decide +kernel
theorem dX5_saids_13 : decode cX5_saids 13 = .ok (.bipush (-4), 2) := by decide +kernel
theorem dX5_saids_15 : decode cX5_saids 15 = .ok (.istore_n 3, 1) := by decide +kernel
theorem dX5_saids_16 : decode cX5_saids 16 = .ok (.iconst 0, 1) := by decide +kernel
theorem dX5_saids_17 : decode cX5_saids 17 = .ok (.istore 4, 2) := by decide +kernel
theorem dX5_saids_19 : decode cX5_saids 19 = .ok (.iload 4, 2) := by decide +kernel
theorem dX5_saids_21 : decode cX5_saids 21 = .ok (.iconst 1, 1) := by decide +kernel
theorem dX5_saids_22 : decode cX5_saids 22 = .ok (.aload_n 0, 1) := by decide +kernel
theorem dX5_saids_23 : decode cX5_saids 23 = .ok (.getfield 10, 3) := by decide +kernel
theorem dX5_saids_26 : decode cX5_saids 26 = .ok (.getfield 83, 3) := by decide +kernel
theorem dX5_saids_29 : decode cX5_saids 29 = .ok (.ishl, 1) := by decide +kernel
theorem dX5_saids_30 : decode cX5_saids 30 = .ok (.if_icmp .ge 46, 3) := by decide +kernel
theorem dX5_saids_33 : decode cX5_saids 33 = .ok (.aload_n 0, 1) := by decide +kernel
theorem dX5_saids_34 : decode cX5_saids 34 = .ok (.invokevirtual 171, 3) := by decide +kernel
theorem dX5_saids_37 : decode cX5_saids 37 = .ok (.aload_n 0, 1) := by decide +kernel
theorem dX5_saids_38 : decode cX5_saids 38 = .ok (.getfield 16, 3) := by decide +kernel
theorem dX5_saids_41 : decode cX5_saids 41 = .ok (.iload 4, 2) := by decide +kernel
theorem dX5_saids_43 : decode cX5_saids 43 = .ok (.putfield 99, 3) := by decide +kernel
theorem dX5_saids_46 : decode cX5_saids 46 = .ok (.aload_n 0, 1) := by decide +kernel
theorem dX5_saids_47 : decode cX5_saids 47 = .ok (.getfield 16, 3) := by decide +kernel
theorem dX5_saids_50 : decode cX5_saids 50 = .ok (.invokevirtual 242, 3) := by decide +kernel
theorem dX5_saids_53 : decode cX5_saids 53 = .ok (.ifCond .eq 17, 3) := by decide +kernel
theorem dX5_saids_56 : decode cX5_saids 56 = .ok (.iload_n 2, 1) := by decide +kernel
theorem dX5_saids_57 : decode cX5_saids 57 = .ok (.ifCond .ne 8, 3) := by decide +kernel
theorem dX5_saids_60 : decode cX5_saids 60 = .ok (.iload 4, 2) := by decide +kernel
theorem dX5_saids_62 : decode cX5_saids 62 = .ok (.goto 4, 3) := by decide +kernel
theorem dX5_saids_65 : decode cX5_saids 65 = .ok (.iload_n 3, 1) := by decide +kernel
theorem dX5_saids_66 : decode cX5_saids 66 = .ok (.istore_n 3, 1) := by decide +kernel
theorem dX5_saids_67 : decode cX5_saids 67 = .ok (.iinc 2 1, 3) := by decide +kernel
theorem dX5_saids_70 : decode cX5_saids 70 = .ok (.iinc 4 1, 3) := by decide +kernel
theorem dX5_saids_73 : decode cX5_saids 73 = .ok (.goto (-54), 3) := by decide +kernel
theorem dX5_saids_76 : decode cX5_saids 76 = .ok (.iload_n 1, 1) := by decide +kernel
theorem dX5_saids_77 : decode cX5_saids 77 = .ok (.ifCond .ne 7, 3) := by decide +kernel
theorem dX5_saids_80 : decode cX5_saids 80 = .ok (.iload_n 2, 1) := by decide +kernel
theorem dX5_saids_81 : decode cX5_saids 81 = .ok (.goto 4, 3) := by decide +kernel
theorem dX5_saids_84 : decode cX5_saids 84 = .ok (.iload_n 3, 1) := by decide +kernel
theorem dX5_saids_85 : decode cX5_saids 85 = .ok (.ireturn, 1) := by decide +kernel
theorem dX5_ask_0 : decode cX5_ask 0 = .ok (.aload_n 0, 1) := by decide +kernel
theorem dX5_ask_1 : decode cX5_ask 1 = .ok (.getfield 10, 3) := by decide +kernel
theorem dX5_ask_4 : decode cX5_ask 4 = .ok (.iload_n 1, 1) := by decide +kernel
theorem dX5_ask_5 : decode cX5_ask 5 = .ok (.invokevirtual 114, 3) := by decide +kernel
theorem dX5_ask_8 : decode cX5_ask 8 = .ok (.ifCond .eq 12, 3) := by decide +kernel
theorem dX5_ask_11 : decode cX5_ask 11 = .ok (.iload_n 2, 1) := by decide +kernel
theorem dX5_ask_12 : decode cX5_ask 12 = .ok (.iconst 0, 1) := by decide +kernel
theorem dX5_ask_13 : decode cX5_ask 13 = .ok (.iconst 1, 1) := by decide +kernel
theorem dX5_ask_14 : decode cX5_ask 14 = .ok (.invokestatic 57, 3) := by decide +kernel
theorem dX5_ask_17 : decode cX5_ask 17 = .ok (.ifCond .ne 5, 3) := by decide +kernel
theorem dX5_ask_20 : decode cX5_ask 20 = .ok (.iconst (-1), 1) := by decide +kernel
theorem dX5_ask_21 : decode cX5_ask 21 = .ok (.ireturn, 1) := by decide +kernel
theorem dX5_ask_22 : decode cX5_ask 22 = .ok (.aload_n 0, 1) := by decide +kernel
theorem dX5_ask_23 : decode cX5_ask 23 = .ok (.iload_n 1, 1) := by decide +kernel
theorem dX5_ask_24 : decode cX5_ask 24 = .ok (.iconst 1, 1) := by decide +kernel
theorem dX5_ask_25 : decode cX5_ask 25 = .ok (.invokevirtual 239, 3) := by decide +kernel
theorem dX5_ask_28 : decode cX5_ask 28 = .ok (.istore_n 3, 1) := by decide +kernel
theorem dX5_ask_29 : decode cX5_ask 29 = .ok (.aload_n 0, 1) := by decide +kernel
theorem dX5_ask_30 : decode cX5_ask 30 = .ok (.iload_n 1, 1) := by decide +kernel
theorem dX5_ask_31 : decode cX5_ask 31 = .ok (.invokevirtual 246, 3) := by decide +kernel
theorem dX5_ask_34 : decode cX5_ask 34 = .ok (.aload_n 0, 1) := by decide +kernel
theorem dX5_ask_35 : decode cX5_ask 35 = .ok (.getfield 43, 3) := by decide +kernel
theorem dX5_ask_38 : decode cX5_ask 38 = .ok (.iload_n 3, 1) := by decide +kernel
theorem dX5_ask_39 : decode cX5_ask 39 = .ok (.invokestatic 249, 3) := by decide +kernel
theorem dX5_ask_42 : decode cX5_ask 42 = .ok (.invokevirtual 193, 3) := by decide +kernel
theorem dX5_ask_45 : decode cX5_ask 45 = .ok (.iconst 0, 1) := by decide +kernel
theorem dX5_ask_46 : decode cX5_ask 46 = .ok (.istore 4, 2) := by decide +kernel
theorem dX5_ask_48 : decode cX5_ask 48 = .ok (.iload 4, 2) := by decide +kernel
theorem dX5_ask_50 : decode cX5_ask 50 = .ok (.bipush 30, 2) := by decide +kernel
theorem dX5_ask_52 : decode cX5_ask 52 = .ok (.if_icmp .gt 25, 3) := by decide +kernel
theorem dX5_ask_55 : decode cX5_ask 55 = .ok (.aload_n 0, 1) := by decide +kernel
theorem dX5_ask_56 : decode cX5_ask 56 = .ok (.getfield 43, 3) := by decide +kernel
theorem dX5_ask_59 : decode cX5_ask 59 = .ok (.iload 4, 2) := by decide +kernel
theorem dX5_ask_61 : decode cX5_ask 61 = .ok (.aload_n 0, 1) := by decide +kernel
theorem dX5_ask_62 : decode cX5_ask 62 = .ok (.iload_n 3, 1) := by decide +kernel
theorem dX5_ask_63 : decode cX5_ask 63 = .ok (.iload 4, 2) := by decide +kernel
theorem dX5_ask_65 : decode cX5_ask 65 = .ok (.invokevirtual 254, 3) := by decide +kernel
theorem dX5_ask_68 : decode cX5_ask 68 = .ok (.invokevirtual 196, 3) := by decide +kernel
theorem dX5_ask_71 : decode cX5_ask 71 = .ok (.iinc 4 1, 3) := by decide +kernel
theorem dX5_ask_74 : decode cX5_ask 74 = .ok (.goto (-26), 3) := by decide +kernel
theorem dX5_ask_77 : decode cX5_ask 77 = .ok (.aload_n 0, 1) := by decide +kernel
theorem dX5_ask_78 : decode cX5_ask 78 = .ok (.getfield 43, 3) := by decide +kernel
theorem dX5_ask_81 : decode cX5_ask 81 = .ok (.iload_n 2, 1) := by decide +kernel
theorem dX5_ask_82 : decode cX5_ask 82 = .ok (.invokevirtual 200, 3) := by decide +kernel
theorem dX5_ask_85 : decode cX5_ask 85 = .ok (.ireturn, 1) := by decide +kernel
theorem dX5_valuesAsSeen_0 : decode cX5_valuesAsSeen 0 = .ok (.iconst 0, 1) := by decide +kernel
theorem dX5_valuesAsSeen_1 : decode cX5_valuesAsSeen 1 = .ok (.istore_n 3, 1) := by decide +kernel
theorem dX5_valuesAsSeen_2 : decode cX5_valuesAsSeen 2 = .ok (.iload_n 2, 1) := by decide +kernel
theorem dX5_valuesAsSeen_3 : decode cX5_valuesAsSeen 3 = .ok (.invokestatic 145, 3) := by decide +kernel
theorem dX5_valuesAsSeen_6 : decode cX5_valuesAsSeen 6 = .ok (.istore 4, 2) := by decide +kernel
theorem dX5_valuesAsSeen_8 : decode cX5_valuesAsSeen 8 = .ok (.iload 4, 2) := by decide +kernel
theorem dX5_valuesAsSeen_10 : decode cX5_valuesAsSeen 10 = .ok (.iload_n 2, 1) := by decide +kernel
theorem dX5_valuesAsSeen_11 : decode cX5_valuesAsSeen 11 = .ok (.invokestatic 148, 3) := by decide +kernel
theorem dX5_valuesAsSeen_14 : decode cX5_valuesAsSeen 14 = .ok (.if_icmp .gt 42, 3) := by decide +kernel
theorem dX5_valuesAsSeen_17 : decode cX5_valuesAsSeen 17 = .ok (.aload_n 0, 1) := by decide +kernel
theorem dX5_valuesAsSeen_18 : decode cX5_valuesAsSeen 18 = .ok (.invokevirtual 171, 3) := by decide +kernel
theorem dX5_valuesAsSeen_21 : decode cX5_valuesAsSeen 21 = .ok (.aload_n 0, 1) := by decide +kernel
theorem dX5_valuesAsSeen_22 : decode cX5_valuesAsSeen 22 = .ok (.getfield 16, 3) := by decide +kernel
theorem dX5_valuesAsSeen_25 : decode cX5_valuesAsSeen 25 = .ok (.iload_n 2, 1) := by decide +kernel
theorem dX5_valuesAsSeen_26 : decode cX5_valuesAsSeen 26 = .ok (.invokevirtual 151, 3) := by decide +kernel
theorem dX5_valuesAsSeen_29 : decode cX5_valuesAsSeen 29 = .ok (.iload_n 1, 1) := by decide +kernel
theorem dX5_valuesAsSeen_30 : decode cX5_valuesAsSeen 30 = .ok (.iload 4, 2) := by decide +kernel
theorem dX5_valuesAsSeen_32 : decode cX5_valuesAsSeen 32 = .ok (.iastore, 1) := by decide +kernel
theorem dX5_valuesAsSeen_33 : decode cX5_valuesAsSeen 33 = .ok (.aload_n 0, 1) := by decide +kernel
theorem dX5_valuesAsSeen_34 : decode cX5_valuesAsSeen 34 = .ok (.getfield 16, 3) := by decide +kernel
theorem dX5_valuesAsSeen_37 : decode cX5_valuesAsSeen 37 = .ok (.invokevirtual 242, 3) := by decide +kernel
theorem dX5_valuesAsSeen_40 : decode cX5_valuesAsSeen 40 = .ok (.ifCond .eq 10, 3) := by decide +kernel
theorem dX5_valuesAsSeen_43 : decode cX5_valuesAsSeen 43 = .ok (.iload_n 3, 1) := by decide +kernel
theorem dX5_valuesAsSeen_44 : decode cX5_valuesAsSeen 44 = .ok (.iconst 1, 1) := by decide +kernel
theorem dX5_valuesAsSeen_45 : decode cX5_valuesAsSeen 45 = .ok (.iload 4, 2) := by decide +kernel
theorem dX5_valuesAsSeen_47 : decode cX5_valuesAsSeen 47 = .ok (.ishl, 1) := by decide +kernel
theorem dX5_valuesAsSeen_48 : decode cX5_valuesAsSeen 48 = .ok (.ior, 1) := by decide +kernel
theorem dX5_valuesAsSeen_49 : decode cX5_valuesAsSeen 49 = .ok (.istore_n 3, 1) := by decide +kernel
theorem dX5_valuesAsSeen_50 : decode cX5_valuesAsSeen 50 = .ok (.iinc 4 1, 3) := by decide +kernel
theorem dX5_valuesAsSeen_53 : decode cX5_valuesAsSeen 53 = .ok (.goto (-45), 3) := by decide +kernel
theorem dX5_valuesAsSeen_56 : decode cX5_valuesAsSeen 56 = .ok (.iload_n 3, 1) := by decide +kernel
theorem dX5_valuesAsSeen_57 : decode cX5_valuesAsSeen 57 = .ok (.ireturn, 1) := by decide +kernel
theorem dX5_foreseeHeightsByWeight_0 : decode cX5_foreseeHeightsByWeight 0 = .ok (.iconst 1, 1) := by decide +kernel
theorem dX5_foreseeHeightsByWeight_1 : decode cX5_foreseeHeightsByWeight 1 = .ok (.istore_n 2, 1) := by decide +kernel
theorem dX5_foreseeHeightsByWeight_2 : decode cX5_foreseeHeightsByWeight 2 = .ok (.iload_n 2, 1) := by decide +kernel
theorem dX5_foreseeHeightsByWeight_3 : decode cX5_foreseeHeightsByWeight 3 = .ok (.bipush 9, 2) := by decide +kernel
theorem dX5_foreseeHeightsByWeight_5 : decode cX5_foreseeHeightsByWeight 5 = .ok (.if_icmp .gt 59, 3) := by decide +kernel
theorem dX5_foreseeHeightsByWeight_8 : decode cX5_foreseeHeightsByWeight 8 = .ok (.aload_n 0, 1) := by decide +kernel
theorem dX5_foreseeHeightsByWeight_9 : decode cX5_foreseeHeightsByWeight 9 = .ok (.invokevirtual 171, 3) := by decide +kernel
theorem dX5_foreseeHeightsByWeight_12 : decode cX5_foreseeHeightsByWeight 12 = .ok (.aload_n 0, 1) := by decide +kernel
theorem dX5_foreseeHeightsByWeight_13 : decode cX5_foreseeHeightsByWeight 13 = .ok (.getfield 16, 3) := by decide +kernel
theorem dX5_foreseeHeightsByWeight_16 : decode cX5_foreseeHeightsByWeight 16 = .ok (.getfield 121, 3) := by decide +kernel
theorem dX5_foreseeHeightsByWeight_19 : decode cX5_foreseeHeightsByWeight 19 = .ok (.iload_n 1, 1) := by decide +kernel
theorem dX5_foreseeHeightsByWeight_20 : decode cX5_foreseeHeightsByWeight 20 = .ok (.iload_n 2, 1) := by decide +kernel
theorem dX5_foreseeHeightsByWeight_21 : decode cX5_foreseeHeightsByWeight 21 = .ok (.iastore, 1) := by decide +kernel
theorem dX5_foreseeHeightsByWeight_22 : decode cX5_foreseeHeightsByWeight 22 = .ok (.iconst 0, 1) := by decide +kernel
theorem dX5_foreseeHeightsByWeight_23 : decode cX5_foreseeHeightsByWeight 23 = .ok (.istore_n 3, 1) := by decide +kernel
theorem dX5_foreseeHeightsByWeight_24 : decode cX5_foreseeHeightsByWeight 24 = .ok (.iload_n 3, 1) := by decide +kernel
theorem dX5_foreseeHeightsByWeight_25 : decode cX5_foreseeHeightsByWeight 25 = .ok (.bipush 30, 2) := by decide +kernel
theorem dX5_foreseeHeightsByWeight_27 : decode cX5_foreseeHeightsByWeight 27 = .ok (.if_icmp .gt 31, 3) := by decide +kernel
theorem dX5_foreseeHeightsByWeight_30 : decode cX5_foreseeHeightsByWeight 30 = .ok (.aload_n 0, 1) := by decide +kernel
theorem dX5_foreseeHeightsByWeight_31 : decode cX5_foreseeHeightsByWeight 31 = .ok (.getfield 49, 3) := by decide +kernel
theorem dX5_foreseeHeightsByWeight_34 : decode cX5_foreseeHeightsByWeight 34 = .ok (.iload_n 2, 1) := by decide +kernel
theorem dX5_foreseeHeightsByWeight_35 : decode cX5_foreseeHeightsByWeight 35 = .ok (.aaload, 1) := by decide +kernel
theorem dX5_foreseeHeightsByWeight_36 : decode cX5_foreseeHeightsByWeight 36 = .ok (.iload_n 3, 1) := by decide +kernel
theorem dX5_foreseeHeightsByWeight_37 : decode cX5_foreseeHeightsByWeight 37 = .ok (.aload_n 0, 1) := by decide +kernel
theorem dX5_foreseeHeightsByWeight_38 : decode cX5_foreseeHeightsByWeight 38 = .ok (.getfield 16, 3) := by decide +kernel
theorem dX5_foreseeHeightsByWeight_41 : decode cX5_foreseeHeightsByWeight 41 = .ok (.getfield 89, 3) := by decide +kernel
theorem dX5_foreseeHeightsByWeight_44 : decode cX5_foreseeHeightsByWeight 44 = .ok (.iastore, 1) := by decide +kernel
theorem dX5_foreseeHeightsByWeight_45 : decode cX5_foreseeHeightsByWeight 45 = .ok (.aload_n 0, 1) := by decide +kernel
theorem dX5_foreseeHeightsByWeight_46 : decode cX5_foreseeHeightsByWeight 46 = .ok (.getfield 16, 3) := by decide +kernel
theorem dX5_foreseeHeightsByWeight_49 : decode cX5_foreseeHeightsByWeight 49 = .ok (.invokevirtual 257, 3) := by decide +kernel
theorem dX5_foreseeHeightsByWeight_52 : decode cX5_foreseeHeightsByWeight 52 = .ok (.iinc 3 1, 3) := by decide +kernel
theorem dX5_foreseeHeightsByWeight_55 : decode cX5_foreseeHeightsByWeight 55 = .ok (.goto (-31), 3) := by decide +kernel
theorem dX5_foreseeHeightsByWeight_58 : decode cX5_foreseeHeightsByWeight 58 = .ok (.iinc 2 1, 3) := by decide +kernel
theorem dX5_foreseeHeightsByWeight_61 : decode cX5_foreseeHeightsByWeight 61 = .ok (.goto (-59), 3) := by decide +kernel
theorem dX5_foreseeHeightsByWeight_64 : decode cX5_foreseeHeightsByWeight 64 = .ok (.return_, 1) := by decide +kernel
theorem dX5_mostLeftByLooking_0 : decode cX5_mostLeftByLooking 0 = .ok (.aload_n 0, 1) := by decide +kernel
theorem dX5_mostLeftByLooking_1 : decode cX5_mostLeftByLooking 1 = .ok (.getfield 52, 3) := by decide +kernel
theorem dX5_mostLeftByLooking_4 : decode cX5_mostLeftByLooking 4 = .ok (.iconst 0, 1) := by decide +kernel
theorem dX5_mostLeftByLooking_5 : decode cX5_mostLeftByLooking 5 = .ok (.invokestatic 260, 3) := by decide +kernel
theorem dX5_mostLeftByLooking_8 : decode cX5_mostLeftByLooking 8 = .ok (.iconst 0, 1) := by decide +kernel
theorem dX5_mostLeftByLooking_9 : decode cX5_mostLeftByLooking 9 = .ok (.istore_n 3, 1) := by decide +kernel
theorem dX5_mostLeftByLooking_10 : decode cX5_mostLeftByLooking 10 = .ok (.iconst 1, 1) := by decide +kernel
theorem dX5_mostLeftByLooking_11 : decode cX5_mostLeftByLooking 11 = .ok (.istore 4, 2) := by decide +kernel
theorem dX5_mostLeftByLooking_13 : decode cX5_mostLeftByLooking 13 = .ok (.iload 4, 2) := by decide +kernel
theorem dX5_mostLeftByLooking_15 : decode cX5_mostLeftByLooking 15 = .ok (.bipush 9, 2) := by decide +kernel
theorem dX5_mostLeftByLooking_17 : decode cX5_mostLeftByLooking 17 = .ok (.if_icmp .gt 53, 3) := by decide +kernel
theorem dX5_mostLeftByLooking_20 : decode cX5_mostLeftByLooking 20 = .ok (.iload_n 1, 1) := by decide +kernel
theorem dX5_mostLeftByLooking_21 : decode cX5_mostLeftByLooking 21 = .ok (.iload 4, 2) := by decide +kernel
theorem dX5_mostLeftByLooking_23 : decode cX5_mostLeftByLooking 23 = .ok (.ishr, 1) := by decide +kernel
theorem dX5_mostLeftByLooking_24 : decode cX5_mostLeftByLooking 24 = .ok (.iconst 1, 1) := by decide +kernel
theorem dX5_mostLeftByLooking_25 : decode cX5_mostLeftByLooking 25 = .ok (.iand, 1) := by decide +kernel
theorem dX5_mostLeftByLooking_26 : decode cX5_mostLeftByLooking 26 = .ok (.iconst 1, 1) := by decide +kernel
theorem dX5_mostLeftByLooking_27 : decode cX5_mostLeftByLooking 27 = .ok (.if_icmp .ne 37, 3) := by decide +kernel
theorem dX5_mostLeftByLooking_30 : decode cX5_mostLeftByLooking 30 = .ok (.aload_n 0, 1) := by decide +kernel
theorem dX5_mostLeftByLooking_31 : decode cX5_mostLeftByLooking 31 = .ok (.getfield 49, 3) := by decide +kernel
theorem dX5_mostLeftByLooking_34 : decode cX5_mostLeftByLooking 34 = .ok (.iload 4, 2) := by decide +kernel
theorem dX5_mostLeftByLooking_36 : decode cX5_mostLeftByLooking 36 = .ok (.aaload, 1) := by decide +kernel
theorem dX5_mostLeftByLooking_37 : decode cX5_mostLeftByLooking 37 = .ok (.iload_n 2, 1) := by decide +kernel
theorem dX5_mostLeftByLooking_38 : decode cX5_mostLeftByLooking 38 = .ok (.iaload, 1) := by decide +kernel
theorem dX5_mostLeftByLooking_39 : decode cX5_mostLeftByLooking 39 = .ok (.istore 5, 2) := by decide +kernel
theorem dX5_mostLeftByLooking_41 : decode cX5_mostLeftByLooking 41 = .ok (.aload_n 0, 1) := by decide +kernel
theorem dX5_mostLeftByLooking_42 : decode cX5_mostLeftByLooking 42 = .ok (.getfield 52, 3) := by decide +kernel
theorem dX5_mostLeftByLooking_45 : decode cX5_mostLeftByLooking 45 = .ok (.iload 5, 2) := by decide +kernel
theorem dX5_mostLeftByLooking_47 : decode cX5_mostLeftByLooking 47 = .ok (.dup2, 1) := by decide +kernel
theorem dX5_mostLeftByLooking_48 : decode cX5_mostLeftByLooking 48 = .ok (.iaload, 1) := by decide +kernel
theorem dX5_mostLeftByLooking_49 : decode cX5_mostLeftByLooking 49 = .ok (.iconst 1, 1) := by decide +kernel
theorem dX5_mostLeftByLooking_50 : decode cX5_mostLeftByLooking 50 = .ok (.iadd, 1) := by decide +kernel
theorem dX5_mostLeftByLooking_51 : decode cX5_mostLeftByLooking 51 = .ok (.iastore, 1) := by decide +kernel
theorem dX5_mostLeftByLooking_52 : decode cX5_mostLeftByLooking 52 = .ok (.iload_n 3, 1) := by decide +kernel
theorem dX5_mostLeftByLooking_53 : decode cX5_mostLeftByLooking 53 = .ok (.aload_n 0, 1) := by decide +kernel
theorem dX5_mostLeftByLooking_54 : decode cX5_mostLeftByLooking 54 = .ok (.getfield 52, 3) := by decide +kernel
theorem dX5_mostLeftByLooking_57 : decode cX5_mostLeftByLooking 57 = .ok (.iload 5, 2) := by decide +kernel
theorem dX5_mostLeftByLooking_59 : decode cX5_mostLeftByLooking 59 = .ok (.iaload, 1) := by decide +kernel
theorem dX5_mostLeftByLooking_60 : decode cX5_mostLeftByLooking 60 = .ok (.invokestatic 266, 3) := by decide +kernel
theorem dX5_mostLeftByLooking_63 : decode cX5_mostLeftByLooking 63 = .ok (.istore_n 3, 1) := by decide +kernel
theorem dX5_mostLeftByLooking_64 : decode cX5_mostLeftByLooking 64 = .ok (.iinc 4 1, 3) := by decide +kernel
theorem dX5_mostLeftByLooking_67 : decode cX5_mostLeftByLooking 67 = .ok (.goto (-54), 3) := by decide +kernel
theorem dX5_mostLeftByLooking_70 : decode cX5_mostLeftByLooking 70 = .ok (.iload_n 3, 1) := by decide +kernel
theorem dX5_mostLeftByLooking_71 : decode cX5_mostLeftByLooking 71 = .ok (.ireturn, 1) := by decide +kernel
theorem dX5_drift_0 : decode cX5_drift 0 = .ok (.iload_n 2, 1) := by decide +kernel
theorem dX5_drift_1 : decode cX5_drift 1 = .ok (.iconst 1, 1) := by decide +kernel
theorem dX5_drift_2 : decode cX5_drift 2 = .ok (.bipush 60, 2) := by decide +kernel
theorem dX5_drift_4 : decode cX5_drift 4 = .ok (.invokestatic 57, 3) := by decide +kernel
theorem dX5_drift_7 : decode cX5_drift 7 = .ok (.ifCond .eq 12, 3) := by decide +kernel
theorem dX5_drift_10 : decode cX5_drift 10 = .ok (.iload_n 3, 1) := by decide +kernel
theorem dX5_drift_11 : decode cX5_drift 11 = .ok (.iconst 0, 1) := by decide +kernel
theorem dX5_drift_12 : decode cX5_drift 12 = .ok (.iconst 1, 1) := by decide +kernel
theorem dX5_drift_13 : decode cX5_drift 13 = .ok (.invokestatic 57, 3) := by decide +kernel
theorem dX5_drift_16 : decode cX5_drift 16 = .ok (.ifCond .ne 5, 3) := by decide +kernel
theorem dX5_drift_19 : decode cX5_drift 19 = .ok (.iconst (-1), 1) := by decide +kernel
theorem dX5_drift_20 : decode cX5_drift 20 = .ok (.ireturn, 1) := by decide +kernel
theorem dX5_drift_21 : decode cX5_drift 21 = .ok (.aload_n 0, 1) := by decide +kernel
theorem dX5_drift_22 : decode cX5_drift 22 = .ok (.getfield 10, 3) := by decide +kernel
theorem dX5_drift_25 : decode cX5_drift 25 = .ok (.getfield 83, 3) := by decide +kernel
theorem dX5_drift_28 : decode cX5_drift 28 = .ok (.ifCond .gt 6, 3) := by decide +kernel
theorem dX5_drift_31 : decode cX5_drift 31 = .ok (.bipush (-2), 2) := by decide +kernel
theorem dX5_drift_33 : decode cX5_drift 33 = .ok (.ireturn, 1) := by decide +kernel
theorem dX5_drift_34 : decode cX5_drift 34 = .ok (.aload_n 0, 1) := by decide +kernel
theorem dX5_drift_35 : decode cX5_drift 35 = .ok (.invokevirtual 171, 3) := by decide +kernel
theorem dX5_drift_38 : decode cX5_drift 38 = .ok (.iload_n 1, 1) := by decide +kernel
theorem dX5_drift_39 : decode cX5_drift 39 = .ok (.istore 4, 2) := by decide +kernel
theorem dX5_drift_41 : decode cX5_drift 41 = .ok (.iconst 0, 1) := by decide +kernel
theorem dX5_drift_42 : decode cX5_drift 42 = .ok (.istore 5, 2) := by decide +kernel
theorem dX5_drift_44 : decode cX5_drift 44 = .ok (.iload 5, 2) := by decide +kernel
theorem dX5_drift_46 : decode cX5_drift 46 = .ok (.iload_n 2, 1) := by decide +kernel
theorem dX5_drift_47 : decode cX5_drift 47 = .ok (.if_icmp .ge 72, 3) := by decide +kernel
theorem dX5_drift_50 : decode cX5_drift 50 = .ok (.iload 4, 2) := by decide +kernel
theorem dX5_drift_52 : decode cX5_drift 52 = .ok (.ldc_w 269, 3) := by decide +kernel
theorem dX5_drift_55 : decode cX5_drift 55 = .ok (.imul, 1) := by decide +kernel
theorem dX5_drift_56 : decode cX5_drift 56 = .ok (.sipush 12345, 3) := by decide +kernel
theorem dX5_drift_59 : decode cX5_drift 59 = .ok (.iadd, 1) := by decide +kernel
theorem dX5_drift_60 : decode cX5_drift 60 = .ok (.istore 4, 2) := by decide +kernel
theorem dX5_drift_62 : decode cX5_drift 62 = .ok (.iload 4, 2) := by decide +kernel
theorem dX5_drift_64 : decode cX5_drift 64 = .ok (.bipush 16, 2) := by decide +kernel
theorem dX5_drift_66 : decode cX5_drift 66 = .ok (.ishr, 1) := by decide +kernel
theorem dX5_drift_67 : decode cX5_drift 67 = .ok (.sipush 32767, 3) := by decide +kernel
theorem dX5_drift_70 : decode cX5_drift 70 = .ok (.iand, 1) := by decide +kernel
theorem dX5_drift_71 : decode cX5_drift 71 = .ok (.istore 6, 2) := by decide +kernel
theorem dX5_drift_73 : decode cX5_drift 73 = .ok (.aload_n 0, 1) := by decide +kernel
theorem dX5_drift_74 : decode cX5_drift 74 = .ok (.getfield 16, 3) := by decide +kernel
theorem dX5_drift_77 : decode cX5_drift 77 = .ok (.iload 6, 2) := by decide +kernel
theorem dX5_drift_79 : decode cX5_drift 79 = .ok (.aload_n 0, 1) := by decide +kernel
theorem dX5_drift_80 : decode cX5_drift 80 = .ok (.getfield 10, 3) := by decide +kernel
theorem dX5_drift_83 : decode cX5_drift 83 = .ok (.getfield 83, 3) := by decide +kernel
theorem dX5_drift_86 : decode cX5_drift 86 = .ok (.irem, 1) := by decide +kernel
theorem dX5_drift_87 : decode cX5_drift 87 = .ok (.iload 6, 2) := by decide +kernel
theorem dX5_drift_89 : decode cX5_drift 89 = .ok (.bipush 8, 2) := by decide +kernel
theorem dX5_drift_91 : decode cX5_drift 91 = .ok (.idiv, 1) := by decide +kernel
theorem dX5_drift_92 : decode cX5_drift 92 = .ok (.iconst 2, 1) := by decide +kernel
theorem dX5_drift_93 : decode cX5_drift 93 = .ok (.irem, 1) := by decide +kernel
theorem dX5_drift_94 : decode cX5_drift 94 = .ok (.iconst 1, 1) := by decide +kernel
theorem dX5_drift_95 : decode cX5_drift 95 = .ok (.if_icmp .ne 7, 3) := by decide +kernel
theorem dX5_drift_98 : decode cX5_drift 98 = .ok (.iconst 1, 1) := by decide +kernel
theorem dX5_drift_99 : decode cX5_drift 99 = .ok (.goto 4, 3) := by decide +kernel
theorem dX5_drift_102 : decode cX5_drift 102 = .ok (.iconst 0, 1) := by decide +kernel
theorem dX5_drift_103 : decode cX5_drift 103 = .ok (.invokevirtual 155, 3) := by decide +kernel
theorem dX5_drift_106 : decode cX5_drift 106 = .ok (.aload_n 0, 1) := by decide +kernel
theorem dX5_drift_107 : decode cX5_drift 107 = .ok (.getfield 16, 3) := by decide +kernel
theorem dX5_drift_110 : decode cX5_drift 110 = .ok (.invokevirtual 257, 3) := by decide +kernel
theorem dX5_drift_113 : decode cX5_drift 113 = .ok (.iinc 5 1, 3) := by decide +kernel
theorem dX5_drift_116 : decode cX5_drift 116 = .ok (.goto (-72), 3) := by decide +kernel
theorem dX5_drift_119 : decode cX5_drift 119 = .ok (.iload_n 3, 1) := by decide +kernel
theorem dX5_drift_120 : decode cX5_drift 120 = .ok (.ifCond .ne 13, 3) := by decide +kernel
theorem dX5_drift_123 : decode cX5_drift 123 = .ok (.aload_n 0, 1) := by decide +kernel
theorem dX5_drift_124 : decode cX5_drift 124 = .ok (.getfield 16, 3) := by decide +kernel
theorem dX5_drift_127 : decode cX5_drift 127 = .ok (.getfield 89, 3) := by decide +kernel
theorem dX5_drift_130 : decode cX5_drift 130 = .ok (.goto 10, 3) := by decide +kernel
theorem dX5_drift_133 : decode cX5_drift 133 = .ok (.aload_n 0, 1) := by decide +kernel
theorem dX5_drift_134 : decode cX5_drift 134 = .ok (.getfield 16, 3) := by decide +kernel
theorem dX5_drift_137 : decode cX5_drift 137 = .ok (.getfield 92, 3) := by decide +kernel
theorem dX5_drift_140 : decode cX5_drift 140 = .ok (.ireturn, 1) := by decide +kernel
theorem dX5_keep_0 : decode cX5_keep 0 = .ok (.iload_n 1, 1) := by decide +kernel
theorem dX5_keep_1 : decode cX5_keep 1 = .ok (.iconst 0, 1) := by decide +kernel
theorem dX5_keep_2 : decode cX5_keep 2 = .ok (.iconst 1, 1) := by decide +kernel
theorem dX5_keep_3 : decode cX5_keep 3 = .ok (.invokestatic 57, 3) := by decide +kernel
theorem dX5_keep_6 : decode cX5_keep 6 = .ok (.ifCond .ne 5, 3) := by decide +kernel
theorem dX5_keep_9 : decode cX5_keep 9 = .ok (.iconst (-1), 1) := by decide +kernel
theorem dX5_keep_10 : decode cX5_keep 10 = .ok (.ireturn, 1) := by decide +kernel
theorem dX5_keep_11 : decode cX5_keep 11 = .ok (.aload_n 0, 1) := by decide +kernel
theorem dX5_keep_12 : decode cX5_keep 12 = .ok (.getfield 23, 3) := by decide +kernel
theorem dX5_keep_15 : decode cX5_keep 15 = .ok (.iload_n 1, 1) := by decide +kernel
theorem dX5_keep_16 : decode cX5_keep 16 = .ok (.baload, 1) := by decide +kernel
theorem dX5_keep_17 : decode cX5_keep 17 = .ok (.ifCond .eq 7, 3) := by decide +kernel
theorem dX5_keep_20 : decode cX5_keep 20 = .ok (.iconst 1, 1) := by decide +kernel
theorem dX5_keep_21 : decode cX5_keep 21 = .ok (.goto 4, 3) := by decide +kernel
theorem dX5_keep_24 : decode cX5_keep 24 = .ok (.iconst 0, 1) := by decide +kernel
theorem dX5_keep_25 : decode cX5_keep 25 = .ok (.istore_n 2, 1) := by decide +kernel
theorem dX5_keep_26 : decode cX5_keep 26 = .ok (.aload_n 0, 1) := by decide +kernel
theorem dX5_keep_27 : decode cX5_keep 27 = .ok (.getfield 19, 3) := by decide +kernel
theorem dX5_keep_30 : decode cX5_keep 30 = .ok (.iload_n 1, 1) := by decide +kernel
theorem dX5_keep_31 : decode cX5_keep 31 = .ok (.aaload, 1) := by decide +kernel
theorem dX5_keep_32 : decode cX5_keep 32 = .ok (.aload_n 0, 1) := by decide +kernel
theorem dX5_keep_33 : decode cX5_keep 33 = .ok (.getfield 10, 3) := by decide +kernel
theorem dX5_keep_36 : decode cX5_keep 36 = .ok (.invokevirtual 72, 3) := by decide +kernel
theorem dX5_keep_39 : decode cX5_keep 39 = .ok (.aload_n 0, 1) := by decide +kernel
theorem dX5_keep_40 : decode cX5_keep 40 = .ok (.getfield 23, 3) := by decide +kernel
theorem dX5_keep_43 : decode cX5_keep 43 = .ok (.iload_n 1, 1) := by decide +kernel
theorem dX5_keep_44 : decode cX5_keep 44 = .ok (.iconst 1, 1) := by decide +kernel
theorem dX5_keep_45 : decode cX5_keep 45 = .ok (.bastore, 1) := by decide +kernel
theorem dX5_keep_46 : decode cX5_keep 46 = .ok (.iload_n 2, 1) := by decide +kernel
theorem dX5_keep_47 : decode cX5_keep 47 = .ok (.ireturn, 1) := by decide +kernel
theorem dX5_back_0 : decode cX5_back 0 = .ok (.iload_n 1, 1) := by decide +kernel
theorem dX5_back_1 : decode cX5_back 1 = .ok (.iconst 0, 1) := by decide +kernel
theorem dX5_back_2 : decode cX5_back 2 = .ok (.iconst 1, 1) := by decide +kernel
theorem dX5_back_3 : decode cX5_back 3 = .ok (.invokestatic 57, 3) := by decide +kernel
theorem dX5_back_6 : decode cX5_back 6 = .ok (.ifCond .ne 5, 3) := by decide +kernel
theorem dX5_back_9 : decode cX5_back 9 = .ok (.iconst (-1), 1) := by decide +kernel
theorem dX5_back_10 : decode cX5_back 10 = .ok (.ireturn, 1) := by decide +kernel
theorem dX5_back_11 : decode cX5_back 11 = .ok (.aload_n 0, 1) := by decide +kernel
theorem dX5_back_12 : decode cX5_back 12 = .ok (.getfield 23, 3) := by decide +kernel
theorem dX5_back_15 : decode cX5_back 15 = .ok (.iload_n 1, 1) := by decide +kernel
theorem dX5_back_16 : decode cX5_back 16 = .ok (.baload, 1) := by decide +kernel
theorem dX5_back_17 : decode cX5_back 17 = .ok (.ifCond .ne 6, 3) := by decide +kernel
theorem dX5_back_20 : decode cX5_back 20 = .ok (.bipush (-2), 2) := by decide +kernel
theorem dX5_back_22 : decode cX5_back 22 = .ok (.ireturn, 1) := by decide +kernel
theorem dX5_back_23 : decode cX5_back 23 = .ok (.aload_n 0, 1) := by decide +kernel
theorem dX5_back_24 : decode cX5_back 24 = .ok (.getfield 10, 3) := by decide +kernel
theorem dX5_back_27 : decode cX5_back 27 = .ok (.aload_n 0, 1) := by decide +kernel
theorem dX5_back_28 : decode cX5_back 28 = .ok (.getfield 19, 3) := by decide +kernel
theorem dX5_back_31 : decode cX5_back 31 = .ok (.iload_n 1, 1) := by decide +kernel
theorem dX5_back_32 : decode cX5_back 32 = .ok (.aaload, 1) := by decide +kernel
theorem dX5_back_33 : decode cX5_back 33 = .ok (.invokevirtual 72, 3) := by decide +kernel
theorem dX5_back_36 : decode cX5_back 36 = .ok (.aload_n 0, 1) := by decide +kernel
theorem dX5_back_37 : decode cX5_back 37 = .ok (.getfield 10, 3) := by decide +kernel
theorem dX5_back_40 : decode cX5_back 40 = .ok (.getfield 86, 3) := by decide +kernel
theorem dX5_back_43 : decode cX5_back 43 = .ok (.ireturn, 1) := by decide +kernel
theorem dX5_sheet_0 : decode cX5_sheet 0 = .ok (.iload_n 1, 1) := by decide +kernel
theorem dX5_sheet_1 : decode cX5_sheet 1 = .ok (.invokestatic 270, 3) := by decide +kernel
theorem dX5_sheet_4 : decode cX5_sheet 4 = .ok (.ifCond .eq 16, 3) := by decide +kernel
theorem dX5_sheet_7 : decode cX5_sheet 7 = .ok (.iload_n 2, 1) := by decide +kernel
theorem dX5_sheet_8 : decode cX5_sheet 8 = .ok (.invokestatic 273, 3) := by decide +kernel
theorem dX5_sheet_11 : decode cX5_sheet 11 = .ok (.ifCond .eq 9, 3) := by decide +kernel
theorem dX5_sheet_14 : decode cX5_sheet 14 = .ok (.iload_n 3, 1) := by decide +kernel
theorem dX5_sheet_15 : decode cX5_sheet 15 = .ok (.bipush 40, 2) := by decide +kernel
theorem dX5_sheet_17 : decode cX5_sheet 17 = .ok (.if_icmp .le 5, 3) := by decide +kernel
theorem dX5_sheet_20 : decode cX5_sheet 20 = .ok (.iconst (-1), 1) := by decide +kernel
theorem dX5_sheet_21 : decode cX5_sheet 21 = .ok (.ireturn, 1) := by decide +kernel
theorem dX5_sheet_22 : decode cX5_sheet 22 = .ok (.iload_n 3, 1) := by decide +kernel
theorem dX5_sheet_23 : decode cX5_sheet 23 = .ok (.ifCond .ge 6, 3) := by decide +kernel
theorem dX5_sheet_26 : decode cX5_sheet 26 = .ok (.bipush (-14), 2) := by decide +kernel
theorem dX5_sheet_28 : decode cX5_sheet 28 = .ok (.ireturn, 1) := by decide +kernel
theorem dX5_sheet_29 : decode cX5_sheet 29 = .ok (.aload_n 0, 1) := by decide +kernel
theorem dX5_sheet_30 : decode cX5_sheet 30 = .ok (.getfield 36, 3) := by decide +kernel
theorem dX5_sheet_33 : decode cX5_sheet 33 = .ok (.iload_n 1, 1) := by decide +kernel
theorem dX5_sheet_34 : decode cX5_sheet 34 = .ok (.aaload, 1) := by decide +kernel
theorem dX5_sheet_35 : decode cX5_sheet 35 = .ok (.iload_n 2, 1) := by decide +kernel
theorem dX5_sheet_36 : decode cX5_sheet 36 = .ok (.iload_n 3, 1) := by decide +kernel
theorem dX5_sheet_37 : decode cX5_sheet 37 = .ok (.invokevirtual 276, 3) := by decide +kernel
theorem dX5_sheet_40 : decode cX5_sheet 40 = .ok (.iconst 1, 1) := by decide +kernel
theorem dX5_sheet_41 : decode cX5_sheet 41 = .ok (.ireturn, 1) := by decide +kernel
theorem dX5_lay_0 : decode cX5_lay 0 = .ok (.iload_n 1, 1) := by decide +kernel
theorem dX5_lay_1 : decode cX5_lay 1 = .ok (.invokestatic 270, 3) := by decide +kernel
theorem dX5_lay_4 : decode cX5_lay 4 = .ok (.ifCond .ne 5, 3) := by decide +kernel
theorem dX5_lay_7 : decode cX5_lay 7 = .ok (.iconst (-1), 1) := by decide +kernel
theorem dX5_lay_8 : decode cX5_lay 8 = .ok (.ireturn, 1) := by decide +kernel
theorem dX5_lay_9 : decode cX5_lay 9 = .ok (.aload_n 0, 1) := by decide +kernel
theorem dX5_lay_10 : decode cX5_lay 10 = .ok (.getfield 36, 3) := by decide +kernel
theorem dX5_lay_13 : decode cX5_lay 13 = .ok (.iload_n 1, 1) := by decide +kernel
theorem dX5_lay_14 : decode cX5_lay 14 = .ok (.aaload, 1) := by decide +kernel
theorem dX5_lay_15 : decode cX5_lay 15 = .ok (.astore 4, 2) := by decide +kernel
theorem dX5_lay_17 : decode cX5_lay 17 = .ok (.aload 4, 2) := by decide +kernel
theorem dX5_lay_19 : decode cX5_lay 19 = .ok (.aload 4, 2) := by decide +kernel
theorem dX5_lay_21 : decode cX5_lay 21 = .ok (.getfield 279, 3) := by decide +kernel
theorem dX5_lay_24 : decode cX5_lay 24 = .ok (.iload_n 2, 1) := by decide +kernel
theorem dX5_lay_25 : decode cX5_lay 25 = .ok (.invokevirtual 282, 3) := by decide +kernel
theorem dX5_lay_28 : decode cX5_lay 28 = .ok (.istore 5, 2) := by decide +kernel
theorem dX5_lay_30 : decode cX5_lay 30 = .ok (.iload 5, 2) := by decide +kernel
theorem dX5_lay_32 : decode cX5_lay 32 = .ok (.ifCond .eq 9, 3) := by decide +kernel
theorem dX5_lay_35 : decode cX5_lay 35 = .ok (.bipush (-10), 2) := by decide +kernel
theorem dX5_lay_37 : decode cX5_lay 37 = .ok (.iload 5, 2) := by decide +kernel
theorem dX5_lay_39 : decode cX5_lay 39 = .ok (.isub, 1) := by decide +kernel
theorem dX5_lay_40 : decode cX5_lay 40 = .ok (.ireturn, 1) := by decide +kernel
theorem dX5_lay_41 : decode cX5_lay 41 = .ok (.aload 4, 2) := by decide +kernel
theorem dX5_lay_43 : decode cX5_lay 43 = .ok (.iload_n 2, 1) := by decide +kernel
theorem dX5_lay_44 : decode cX5_lay 44 = .ok (.iload_n 3, 1) := by decide +kernel
theorem dX5_lay_45 : decode cX5_lay 45 = .ok (.invokevirtual 285, 3) := by decide +kernel
theorem dX5_lay_48 : decode cX5_lay 48 = .ok (.iconst 1, 1) := by decide +kernel
theorem dX5_lay_49 : decode cX5_lay 49 = .ok (.ireturn, 1) := by decide +kernel
theorem dX5_read_0 : decode cX5_read 0 = .ok (.iload_n 1, 1) := by decide +kernel
theorem dX5_read_1 : decode cX5_read 1 = .ok (.invokestatic 270, 3) := by decide +kernel
theorem dX5_read_4 : decode cX5_read 4 = .ok (.ifCond .eq 21, 3) := by decide +kernel
theorem dX5_read_7 : decode cX5_read 7 = .ok (.iload_n 2, 1) := by decide +kernel
theorem dX5_read_8 : decode cX5_read 8 = .ok (.invokestatic 273, 3) := by decide +kernel
theorem dX5_read_11 : decode cX5_read 11 = .ok (.ifCond .eq 14, 3) := by decide +kernel
theorem dX5_read_14 : decode cX5_read 14 = .ok (.iload 4, 2) := by decide +kernel
theorem dX5_read_16 : decode cX5_read 16 = .ok (.iconst 0, 1) := by decide +kernel
theorem dX5_read_17 : decode cX5_read 17 = .ok (.bipush 20, 2) := by decide +kernel
theorem dX5_read_19 : decode cX5_read 19 = .ok (.invokestatic 57, 3) := by decide +kernel
theorem dX5_read_22 : decode cX5_read 22 = .ok (.ifCond .ne 5, 3) := by decide +kernel
theorem dX5_read_25 : decode cX5_read 25 = .ok (.iconst (-1), 1) := by decide +kernel
theorem dX5_read_26 : decode cX5_read 26 = .ok (.ireturn, 1) := by decide +kernel
theorem dX5_read_27 : decode cX5_read 27 = .ok (.aload_n 0, 1) := by decide +kernel
theorem dX5_read_28 : decode cX5_read 28 = .ok (.getfield 36, 3) := by decide +kernel
theorem dX5_read_31 : decode cX5_read 31 = .ok (.iload_n 1, 1) := by decide +kernel
theorem dX5_read_32 : decode cX5_read 32 = .ok (.aaload, 1) := by decide +kernel
theorem dX5_read_33 : decode cX5_read 33 = .ok (.astore 5, 2) := by decide +kernel
theorem dX5_read_35 : decode cX5_read 35 = .ok (.aload_n 0, 1) := by decide +kernel
theorem dX5_read_36 : decode cX5_read 36 = .ok (.getfield 10, 3) := by decide +kernel
theorem dX5_read_39 : decode cX5_read 39 = .ok (.getfield 105, 3) := by decide +kernel
theorem dX5_read_42 : decode cX5_read 42 = .ok (.getfield 109, 3) := by decide +kernel
theorem dX5_read_45 : decode cX5_read 45 = .ok (.istore 6, 2) := by decide +kernel
theorem dX5_read_47 : decode cX5_read 47 = .ok (.iconst 0, 1) := by decide +kernel
theorem dX5_read_48 : decode cX5_read 48 = .ok (.istore 7, 2) := by decide +kernel
theorem dX5_read_50 : decode cX5_read 50 = .ok (.iconst 0, 1) := by decide +kernel
theorem dX5_read_51 : decode cX5_read 51 = .ok (.istore 8, 2) := by decide +kernel
theorem dX5_read_53 : decode cX5_read 53 = .ok (.iload 7, 2) := by decide +kernel
theorem dX5_read_55 : decode cX5_read 55 = .ok (.iload 4, 2) := by decide +kernel
theorem dX5_read_57 : decode cX5_read 57 = .ok (.if_icmp .ge 84, 3) := by decide +kernel
theorem dX5_read_60 : decode cX5_read 60 = .ok (.iload 8, 2) := by decide +kernel
theorem dX5_read_62 : decode cX5_read 62 = .ok (.ifCond .ne 79, 3) := by decide +kernel
theorem dX5_read_65 : decode cX5_read 65 = .ok (.iload_n 3, 1) := by decide +kernel
theorem dX5_read_66 : decode cX5_read 66 = .ok (.iconst 2, 1) := by decide +kernel
theorem dX5_read_67 : decode cX5_read 67 = .ok (.iload 7, 2) := by decide +kernel
theorem dX5_read_69 : decode cX5_read 69 = .ok (.imul, 1) := by decide +kernel
theorem dX5_read_70 : decode cX5_read 70 = .ok (.iadd, 1) := by decide +kernel
theorem dX5_read_71 : decode cX5_read 71 = .ok (.istore 9, 2) := by decide +kernel
theorem dX5_read_73 : decode cX5_read 73 = .ok (.aload 5, 2) := by decide +kernel
theorem dX5_read_75 : decode cX5_read 75 = .ok (.iload_n 2, 1) := by decide +kernel
theorem dX5_read_76 : decode cX5_read 76 = .ok (.iload 9, 2) := by decide +kernel
theorem dX5_read_78 : decode cX5_read 78 = .ok (.invokevirtual 288, 3) := by decide +kernel
theorem dX5_read_81 : decode cX5_read 81 = .ok (.istore 8, 2) := by decide +kernel
theorem dX5_read_83 : decode cX5_read 83 = .ok (.iload 8, 2) := by decide +kernel
theorem dX5_read_85 : decode cX5_read 85 = .ok (.ifCond .ne 53, 3) := by decide +kernel
theorem dX5_read_88 : decode cX5_read 88 = .ok (.aload_n 0, 1) := by decide +kernel
theorem dX5_read_89 : decode cX5_read 89 = .ok (.getfield 10, 3) := by decide +kernel
theorem dX5_read_92 : decode cX5_read 92 = .ok (.aload 5, 2) := by decide +kernel
theorem dX5_read_94 : decode cX5_read 94 = .ok (.getfield 291, 3) := by decide +kernel
theorem dX5_read_97 : decode cX5_read 97 = .ok (.iload 9, 2) := by decide +kernel
theorem dX5_read_99 : decode cX5_read 99 = .ok (.iaload, 1) := by decide +kernel
theorem dX5_read_100 : decode cX5_read 100 = .ok (.aload 5, 2) := by decide +kernel
theorem dX5_read_102 : decode cX5_read 102 = .ok (.getfield 291, 3) := by decide +kernel
theorem dX5_read_105 : decode cX5_read 105 = .ok (.iload 9, 2) := by decide +kernel
theorem dX5_read_107 : decode cX5_read 107 = .ok (.iconst 1, 1) := by decide +kernel
theorem dX5_read_108 : decode cX5_read 108 = .ok (.iadd, 1) := by decide +kernel
theorem dX5_read_109 : decode cX5_read 109 = .ok (.iaload, 1) := by decide +kernel
theorem dX5_read_110 : decode cX5_read 110 = .ok (.invokevirtual 159, 3) := by decide +kernel
theorem dX5_read_113 : decode cX5_read 113 = .ok (.ifCond .ge 22, 3) := by decide +kernel
theorem dX5_read_116 : decode cX5_read 116 = .ok (.aload_n 0, 1) := by decide +kernel
theorem dX5_read_117 : decode cX5_read 117 = .ok (.getfield 10, 3) := by decide +kernel
theorem dX5_read_120 : decode cX5_read 120 = .ok (.getfield 105, 3) := by decide +kernel
theorem dX5_read_123 : decode cX5_read 123 = .ok (.iload 6, 2) := by decide +kernel
theorem dX5_read_125 : decode cX5_read 125 = .ok (.invokevirtual 163, 3) := by decide +kernel
theorem dX5_read_128 : decode cX5_read 128 = .ok (.pop, 1) := by decide +kernel
theorem dX5_read_129 : decode cX5_read 129 = .ok (.bipush (-20), 2) := by decide +kernel
theorem dX5_read_131 : decode cX5_read 131 = .ok (.iload 7, 2) := by decide +kernel
theorem dX5_read_133 : decode cX5_read 133 = .ok (.isub, 1) := by decide +kernel
theorem dX5_read_134 : decode cX5_read 134 = .ok (.ireturn, 1) := by decide +kernel
theorem dX5_read_135 : decode cX5_read 135 = .ok (.iinc 7 1, 3) := by decide +kernel
theorem dX5_read_138 : decode cX5_read 138 = .ok (.goto (-85), 3) := by decide +kernel
theorem dX5_read_141 : decode cX5_read 141 = .ok (.aload_n 0, 1) := by decide +kernel
theorem dX5_read_142 : decode cX5_read 142 = .ok (.iload 8, 2) := by decide +kernel
theorem dX5_read_144 : decode cX5_read 144 = .ok (.putfield 294, 3) := by decide +kernel
theorem dX5_read_147 : decode cX5_read 147 = .ok (.iload 7, 2) := by decide +kernel
theorem dX5_read_149 : decode cX5_read 149 = .ok (.ireturn, 1) := by decide +kernel
theorem dX5_torn_0 : decode cX5_torn 0 = .ok (.aload_n 0, 1) := by decide +kernel
theorem dX5_torn_1 : decode cX5_torn 1 = .ok (.getfield 294, 3) := by decide +kernel
theorem dX5_torn_4 : decode cX5_torn 4 = .ok (.ireturn, 1) := by decide +kernel
theorem dX5_count_0 : decode cX5_count 0 = .ok (.iload_n 1, 1) := by decide +kernel
theorem dX5_count_1 : decode cX5_count 1 = .ok (.tableswitch 108 0 5 #[39, 50, 55, 63, 90, 99], 39) := by decide +kernel
theorem dX5_count_40 : decode cX5_count 40 = .ok (.aload_n 0, 1) := by decide +kernel
theorem dX5_count_41 : decode cX5_count 41 = .ok (.getfield 10, 3) := by decide +kernel
theorem dX5_count_44 : decode cX5_count 44 = .ok (.getfield 233, 3) := by decide +kernel
theorem dX5_count_47 : decode cX5_count 47 = .ok (.getfield 109, 3) := by decide +kernel
theorem dX5_count_50 : decode cX5_count 50 = .ok (.ireturn, 1) := by decide +kernel
theorem dX5_count_51 : decode cX5_count 51 = .ok (.aload_n 0, 1) := by decide +kernel
theorem dX5_count_52 : decode cX5_count 52 = .ok (.invokevirtual 297, 3) := by decide +kernel
theorem dX5_count_55 : decode cX5_count 55 = .ok (.ireturn, 1) := by decide +kernel
theorem dX5_count_56 : decode cX5_count 56 = .ok (.aload_n 0, 1) := by decide +kernel
theorem dX5_count_57 : decode cX5_count 57 = .ok (.getfield 30, 3) := by decide +kernel
theorem dX5_count_60 : decode cX5_count 60 = .ok (.getfield 300, 3) := by decide +kernel
theorem dX5_count_63 : decode cX5_count 63 = .ok (.ireturn, 1) := by decide +kernel
theorem dX5_count_64 : decode cX5_count 64 = .ok (.aload_n 0, 1) := by decide +kernel
theorem dX5_count_65 : decode cX5_count 65 = .ok (.getfield 36, 3) := by decide +kernel
theorem dX5_count_68 : decode cX5_count 68 = .ok (.iconst 0, 1) := by decide +kernel
theorem dX5_count_69 : decode cX5_count 69 = .ok (.aaload, 1) := by decide +kernel
theorem dX5_count_70 : decode cX5_count 70 = .ok (.invokevirtual 303, 3) := by decide +kernel
theorem dX5_count_73 : decode cX5_count 73 = .ok (.ifCond .eq 8, 3) := by decide +kernel
theorem dX5_count_76 : decode cX5_count 76 = .ok (.bipush (-4), 2) := by decide +kernel
theorem dX5_count_78 : decode cX5_count 78 = .ok (.goto 12, 3) := by decide +kernel
theorem dX5_count_81 : decode cX5_count 81 = .ok (.aload_n 0, 1) := by decide +kernel
theorem dX5_count_82 : decode cX5_count 82 = .ok (.getfield 36, 3) := by decide +kernel
theorem dX5_count_85 : decode cX5_count 85 = .ok (.iconst 0, 1) := by decide +kernel
theorem dX5_count_86 : decode cX5_count 86 = .ok (.aaload, 1) := by decide +kernel
theorem dX5_count_87 : decode cX5_count 87 = .ok (.getfield 306, 3) := by decide +kernel
theorem dX5_count_90 : decode cX5_count 90 = .ok (.ireturn, 1) := by decide +kernel
theorem dX5_count_91 : decode cX5_count 91 = .ok (.aload_n 0, 1) := by decide +kernel
theorem dX5_count_92 : decode cX5_count 92 = .ok (.getfield 10, 3) := by decide +kernel
theorem dX5_count_95 : decode cX5_count 95 = .ok (.iconst 0, 1) := by decide +kernel
theorem dX5_count_96 : decode cX5_count 96 = .ok (.invokevirtual 307, 3) := by decide +kernel
theorem dX5_count_99 : decode cX5_count 99 = .ok (.ireturn, 1) := by decide +kernel
theorem dX5_count_100 : decode cX5_count 100 = .ok (.aload_n 0, 1) := by decide +kernel
theorem dX5_count_101 : decode cX5_count 101 = .ok (.getfield 10, 3) := by decide +kernel
theorem dX5_count_104 : decode cX5_count 104 = .ok (.iconst 1, 1) := by decide +kernel
theorem dX5_count_105 : decode cX5_count 105 = .ok (.invokevirtual 307, 3) := by decide +kernel
theorem dX5_count_108 : decode cX5_count 108 = .ok (.ireturn, 1) := by decide +kernel
theorem dX5_count_109 : decode cX5_count 109 = .ok (.iconst (-1), 1) := by decide +kernel
theorem dX5_count_110 : decode cX5_count 110 = .ok (.ireturn, 1) := by decide +kernel
theorem dX5_forgetImages_0 : decode cX5_forgetImages 0 = .ok (.iconst 0, 1) := by decide +kernel
theorem dX5_forgetImages_1 : decode cX5_forgetImages 1 = .ok (.istore_n 1, 1) := by decide +kernel
theorem dX5_forgetImages_2 : decode cX5_forgetImages 2 = .ok (.iload_n 1, 1) := by decide +kernel
theorem dX5_forgetImages_3 : decode cX5_forgetImages 3 = .ok (.iconst 2, 1) := by decide +kernel
theorem dX5_forgetImages_4 : decode cX5_forgetImages 4 = .ok (.if_icmp .ge 16, 3) := by decide +kernel
theorem dX5_forgetImages_7 : decode cX5_forgetImages 7 = .ok (.aload_n 0, 1) := by decide +kernel
theorem dX5_forgetImages_8 : decode cX5_forgetImages 8 = .ok (.getfield 23, 3) := by decide +kernel
theorem dX5_forgetImages_11 : decode cX5_forgetImages 11 = .ok (.iload_n 1, 1) := by decide +kernel
theorem dX5_forgetImages_12 : decode cX5_forgetImages 12 = .ok (.iconst 0, 1) := by decide +kernel
theorem dX5_forgetImages_13 : decode cX5_forgetImages 13 = .ok (.bastore, 1) := by decide +kernel
theorem dX5_forgetImages_14 : decode cX5_forgetImages 14 = .ok (.iinc 1 1, 3) := by decide +kernel
theorem dX5_forgetImages_17 : decode cX5_forgetImages 17 = .ok (.goto (-15), 3) := by decide +kernel
theorem dX5_forgetImages_20 : decode cX5_forgetImages 20 = .ok (.return_, 1) := by decide +kernel
theorem dX5_keptImages_0 : decode cX5_keptImages 0 = .ok (.iconst 0, 1) := by decide +kernel
theorem dX5_keptImages_1 : decode cX5_keptImages 1 = .ok (.istore_n 1, 1) := by decide +kernel
theorem dX5_keptImages_2 : decode cX5_keptImages 2 = .ok (.iconst 0, 1) := by decide +kernel
theorem dX5_keptImages_3 : decode cX5_keptImages 3 = .ok (.istore_n 2, 1) := by decide +kernel
theorem dX5_keptImages_4 : decode cX5_keptImages 4 = .ok (.iload_n 2, 1) := by decide +kernel
theorem dX5_keptImages_5 : decode cX5_keptImages 5 = .ok (.iconst 2, 1) := by decide +kernel
theorem dX5_keptImages_6 : decode cX5_keptImages 6 = .ok (.if_icmp .ge 26, 3) := by decide +kernel
theorem dX5_keptImages_9 : decode cX5_keptImages 9 = .ok (.iload_n 1, 1) := by decide +kernel
theorem dX5_keptImages_10 : decode cX5_keptImages 10 = .ok (.aload_n 0, 1) := by decide +kernel
theorem dX5_keptImages_11 : decode cX5_keptImages 11 = .ok (.getfield 23, 3) := by decide +kernel
theorem dX5_keptImages_14 : decode cX5_keptImages 14 = .ok (.iload_n 2, 1) := by decide +kernel
theorem dX5_keptImages_15 : decode cX5_keptImages 15 = .ok (.baload, 1) := by decide +kernel
theorem dX5_keptImages_16 : decode cX5_keptImages 16 = .ok (.ifCond .eq 7, 3) := by decide +kernel
theorem dX5_keptImages_19 : decode cX5_keptImages 19 = .ok (.iconst 1, 1) := by decide +kernel
theorem dX5_keptImages_20 : decode cX5_keptImages 20 = .ok (.goto 4, 3) := by decide +kernel
theorem dX5_keptImages_23 : decode cX5_keptImages 23 = .ok (.iconst 0, 1) := by decide +kernel
theorem dX5_keptImages_24 : decode cX5_keptImages 24 = .ok (.iadd, 1) := by decide +kernel
theorem dX5_keptImages_25 : decode cX5_keptImages 25 = .ok (.istore_n 1, 1) := by decide +kernel
theorem dX5_keptImages_26 : decode cX5_keptImages 26 = .ok (.iinc 2 1, 3) := by decide +kernel
theorem dX5_keptImages_29 : decode cX5_keptImages 29 = .ok (.goto (-25), 3) := by decide +kernel
theorem dX5_keptImages_32 : decode cX5_keptImages 32 = .ok (.iload_n 1, 1) := by decide +kernel
theorem dX5_keptImages_33 : decode cX5_keptImages 33 = .ok (.ireturn, 1) := by decide +kernel
theorem dX5_restartTrial_0 : decode cX5_restartTrial 0 = .ok (.aload_n 0, 1) := by decide +kernel
theorem dX5_restartTrial_1 : decode cX5_restartTrial 1 = .ok (.getfield 16, 3) := by decide +kernel
theorem dX5_restartTrial_4 : decode cX5_restartTrial 4 = .ok (.aload_n 0, 1) := by decide +kernel
theorem dX5_restartTrial_5 : decode cX5_restartTrial 5 = .ok (.getfield 10, 3) := by decide +kernel
theorem dX5_restartTrial_8 : decode cX5_restartTrial 8 = .ok (.invokevirtual 72, 3) := by decide +kernel
theorem dX5_restartTrial_11 : decode cX5_restartTrial 11 = .ok (.return_, 1) := by decide +kernel
theorem dX5_isIn_0 : decode cX5_isIn 0 = .ok (.iload_n 0, 1) := by decide +kernel
theorem dX5_isIn_1 : decode cX5_isIn 1 = .ok (.iload_n 1, 1) := by decide +kernel
theorem dX5_isIn_2 : decode cX5_isIn 2 = .ok (.if_icmp .lt 12, 3) := by decide +kernel
theorem dX5_isIn_5 : decode cX5_isIn 5 = .ok (.iload_n 0, 1) := by decide +kernel
theorem dX5_isIn_6 : decode cX5_isIn 6 = .ok (.iload_n 2, 1) := by decide +kernel
theorem dX5_isIn_7 : decode cX5_isIn 7 = .ok (.if_icmp .gt 7, 3) := by decide +kernel
theorem dX5_isIn_10 : decode cX5_isIn 10 = .ok (.iconst 1, 1) := by decide +kernel
theorem dX5_isIn_11 : decode cX5_isIn 11 = .ok (.goto 4, 3) := by decide +kernel
theorem dX5_isIn_14 : decode cX5_isIn 14 = .ok (.iconst 0, 1) := by decide +kernel
theorem dX5_isIn_15 : decode cX5_isIn 15 = .ok (.ireturn, 1) := by decide +kernel
theorem dX5_isPlace_0 : decode cX5_isPlace 0 = .ok (.iload_n 0, 1) := by decide +kernel
theorem dX5_isPlace_1 : decode cX5_isPlace 1 = .ok (.iconst 0, 1) := by decide +kernel
theorem dX5_isPlace_2 : decode cX5_isPlace 2 = .ok (.bipush 99, 2) := by decide +kernel
theorem dX5_isPlace_4 : decode cX5_isPlace 4 = .ok (.invokestatic 57, 3) := by decide +kernel
theorem dX5_isPlace_7 : decode cX5_isPlace 7 = .ok (.ireturn, 1) := by decide +kernel
theorem dX5_isHeight_0 : decode cX5_isHeight 0 = .ok (.iload_n 0, 1) := by decide +kernel
theorem dX5_isHeight_1 : decode cX5_isHeight 1 = .ok (.iconst 0, 1) := by decide +kernel
theorem dX5_isHeight_2 : decode cX5_isHeight 2 = .ok (.bipush 60, 2) := by decide +kernel
theorem dX5_isHeight_4 : decode cX5_isHeight 4 = .ok (.invokestatic 57, 3) := by decide +kernel
theorem dX5_isHeight_7 : decode cX5_isHeight 7 = .ok (.ireturn, 1) := by decide +kernel
theorem dX5_isForecast_0 : decode cX5_isForecast 0 = .ok (.iload_n 0, 1) := by decide +kernel
theorem dX5_isForecast_1 : decode cX5_isForecast 1 = .ok (.iconst 0, 1) := by decide +kernel
theorem dX5_isForecast_2 : decode cX5_isForecast 2 = .ok (.bipush 60, 2) := by decide +kernel
theorem dX5_isForecast_4 : decode cX5_isForecast 4 = .ok (.invokestatic 57, 3) := by decide +kernel
theorem dX5_isForecast_7 : decode cX5_isForecast 7 = .ok (.ireturn, 1) := by decide +kernel
theorem dX5_isWind_0 : decode cX5_isWind 0 = .ok (.iload_n 0, 1) := by decide +kernel
theorem dX5_isWind_1 : decode cX5_isWind 1 = .ok (.iconst 0, 1) := by decide +kernel
theorem dX5_isWind_2 : decode cX5_isWind 2 = .ok (.iconst 4, 1) := by decide +kernel
theorem dX5_isWind_3 : decode cX5_isWind 3 = .ok (.invokestatic 57, 3) := by decide +kernel
theorem dX5_isWind_6 : decode cX5_isWind 6 = .ok (.ireturn, 1) := by decide +kernel
theorem dX5_isSheet_0 : decode cX5_isSheet 0 = .ok (.iload_n 0, 1) := by decide +kernel
theorem dX5_isSheet_1 : decode cX5_isSheet 1 = .ok (.iconst 0, 1) := by decide +kernel
theorem dX5_isSheet_2 : decode cX5_isSheet 2 = .ok (.iconst 3, 1) := by decide +kernel
theorem dX5_isSheet_3 : decode cX5_isSheet 3 = .ok (.invokestatic 57, 3) := by decide +kernel
theorem dX5_isSheet_6 : decode cX5_isSheet 6 = .ok (.ireturn, 1) := by decide +kernel
theorem dX5_isLane_0 : decode cX5_isLane 0 = .ok (.iload_n 0, 1) := by decide +kernel
theorem dX5_isLane_1 : decode cX5_isLane 1 = .ok (.iconst 0, 1) := by decide +kernel
theorem dX5_isLane_2 : decode cX5_isLane 2 = .ok (.iconst 2, 1) := by decide +kernel
theorem dX5_isLane_3 : decode cX5_isLane 3 = .ok (.invokestatic 57, 3) := by decide +kernel
theorem dX5_isLane_6 : decode cX5_isLane 6 = .ok (.ireturn, 1) := by decide +kernel
theorem dX5_leastOf_0 : decode cX5_leastOf 0 = .ok (.iload_n 0, 1) := by decide +kernel
theorem dX5_leastOf_1 : decode cX5_leastOf 1 = .ok (.iconst 1, 1) := by decide +kernel
theorem dX5_leastOf_2 : decode cX5_leastOf 2 = .ok (.if_icmp .ne 7, 3) := by decide +kernel
theorem dX5_leastOf_5 : decode cX5_leastOf 5 = .ok (.iconst 1, 1) := by decide +kernel
theorem dX5_leastOf_6 : decode cX5_leastOf 6 = .ok (.goto 4, 3) := by decide +kernel
theorem dX5_leastOf_9 : decode cX5_leastOf 9 = .ok (.iconst 0, 1) := by decide +kernel
theorem dX5_leastOf_10 : decode cX5_leastOf 10 = .ok (.ireturn, 1) := by decide +kernel
theorem dX5_greatestOf_0 : decode cX5_greatestOf 0 = .ok (.iload_n 0, 1) := by decide +kernel
theorem dX5_greatestOf_1 : decode cX5_greatestOf 1 = .ok (.ifCond .ne 7, 3) := by decide +kernel
theorem dX5_greatestOf_4 : decode cX5_greatestOf 4 = .ok (.iconst 3, 1) := by decide +kernel
theorem dX5_greatestOf_5 : decode cX5_greatestOf 5 = .ok (.goto 14, 3) := by decide +kernel
theorem dX5_greatestOf_8 : decode cX5_greatestOf 8 = .ok (.iload_n 0, 1) := by decide +kernel
theorem dX5_greatestOf_9 : decode cX5_greatestOf 9 = .ok (.iconst 1, 1) := by decide +kernel
theorem dX5_greatestOf_10 : decode cX5_greatestOf 10 = .ok (.if_icmp .ne 8, 3) := by decide +kernel
theorem dX5_greatestOf_13 : decode cX5_greatestOf 13 = .ok (.bipush 9, 2) := by decide +kernel
theorem dX5_greatestOf_15 : decode cX5_greatestOf 15 = .ok (.goto 4, 3) := by decide +kernel
theorem dX5_greatestOf_18 : decode cX5_greatestOf 18 = .ok (.iconst 1, 1) := by decide +kernel
theorem dX5_greatestOf_19 : decode cX5_greatestOf 19 = .ok (.ireturn, 1) := by decide +kernel
theorem dX5_orNone_0 : decode cX5_orNone 0 = .ok (.iload_n 0, 1) := by decide +kernel
theorem dX5_orNone_1 : decode cX5_orNone 1 = .ok (.ldc 192, 2) := by decide +kernel
theorem dX5_orNone_3 : decode cX5_orNone 3 = .ok (.if_icmp .ne 8, 3) := by decide +kernel
theorem dX5_orNone_6 : decode cX5_orNone 6 = .ok (.bipush (-4), 2) := by decide +kernel
theorem dX5_orNone_8 : decode cX5_orNone 8 = .ok (.goto 4, 3) := by decide +kernel
theorem dX5_orNone_11 : decode cX5_orNone 11 = .ok (.iload_n 0, 1) := by decide +kernel
theorem dX5_orNone_12 : decode cX5_orNone 12 = .ok (.ireturn, 1) := by decide +kernel
theorem dX5_bounded_0 : decode cX5_bounded 0 = .ok (.iload_n 1, 1) := by decide +kernel
theorem dX5_bounded_1 : decode cX5_bounded 1 = .ok (.iload_n 2, 1) := by decide +kernel
theorem dX5_bounded_2 : decode cX5_bounded 2 = .ok (.iload_n 0, 1) := by decide +kernel
theorem dX5_bounded_3 : decode cX5_bounded 3 = .ok (.invokestatic 203, 3) := by decide +kernel
theorem dX5_bounded_6 : decode cX5_bounded 6 = .ok (.invokestatic 266, 3) := by decide +kernel
theorem dX5_bounded_9 : decode cX5_bounded 9 = .ok (.ireturn, 1) := by decide +kernel
theorem dX5_inLowestTerms_0 : decode cX5_inLowestTerms 0 = .ok (.iload 4, 2) := by decide +kernel
theorem dX5_inLowestTerms_2 : decode cX5_inLowestTerms 2 = .ok (.ifCond .ne 7, 3) := by decide +kernel
theorem dX5_inLowestTerms_5 : decode cX5_inLowestTerms 5 = .ok (.lload_n 0, 1) := by decide +kernel
theorem dX5_inLowestTerms_6 : decode cX5_inLowestTerms 6 = .ok (.goto 4, 3) := by decide +kernel
theorem dX5_inLowestTerms_9 : decode cX5_inLowestTerms 9 = .ok (.lload_n 2, 1) := by decide +kernel
theorem dX5_inLowestTerms_10 : decode cX5_inLowestTerms 10 = .ok (.lstore 5, 2) := by decide +kernel
theorem dX5_inLowestTerms_12 : decode cX5_inLowestTerms 12 = .ok (.lload_n 0, 1) := by decide +kernel
theorem dX5_inLowestTerms_13 : decode cX5_inLowestTerms 13 = .ok (.lload_n 2, 1) := by decide +kernel
theorem dX5_inLowestTerms_14 : decode cX5_inLowestTerms 14 = .ok (.invokestatic 310, 3) := by decide +kernel
theorem dX5_inLowestTerms_17 : decode cX5_inLowestTerms 17 = .ok (.lstore 7, 2) := by decide +kernel
theorem dX5_inLowestTerms_19 : decode cX5_inLowestTerms 19 = .ok (.lload 7, 2) := by decide +kernel
theorem dX5_inLowestTerms_21 : decode cX5_inLowestTerms 21 = .ok (.lconst 0, 1) := by decide +kernel
theorem dX5_inLowestTerms_22 : decode cX5_inLowestTerms 22 = .ok (.lcmp, 1) := by decide +kernel
theorem dX5_inLowestTerms_23 : decode cX5_inLowestTerms 23 = .ok (.ifCond .le 11, 3) := by decide +kernel
theorem dX5_inLowestTerms_26 : decode cX5_inLowestTerms 26 = .ok (.lload 5, 2) := by decide +kernel
theorem dX5_inLowestTerms_28 : decode cX5_inLowestTerms 28 = .ok (.lload 7, 2) := by decide +kernel
theorem dX5_inLowestTerms_30 : decode cX5_inLowestTerms 30 = .ok (.ldiv, 1) := by decide +kernel
theorem dX5_inLowestTerms_31 : decode cX5_inLowestTerms 31 = .ok (.goto 5, 3) := by decide +kernel
theorem dX5_inLowestTerms_34 : decode cX5_inLowestTerms 34 = .ok (.lload 5, 2) := by decide +kernel
theorem dX5_inLowestTerms_36 : decode cX5_inLowestTerms 36 = .ok (.lreturn, 1) := by decide +kernel
theorem dX5_commonDivisor_0 : decode cX5_commonDivisor 0 = .ok (.iconst 0, 1) := by decide +kernel
theorem dX5_commonDivisor_1 : decode cX5_commonDivisor 1 = .ok (.istore 4, 2) := by decide +kernel
theorem dX5_commonDivisor_3 : decode cX5_commonDivisor 3 = .ok (.iload 4, 2) := by decide +kernel
theorem dX5_commonDivisor_5 : decode cX5_commonDivisor 5 = .ok (.sipush 200, 3) := by decide +kernel
theorem dX5_commonDivisor_8 : decode cX5_commonDivisor 8 = .ok (.if_icmp .ge 25, 3) := by decide +kernel
theorem dX5_commonDivisor_11 : decode cX5_commonDivisor 11 = .ok (.lload_n 2, 1) := by decide +kernel
theorem dX5_commonDivisor_12 : decode cX5_commonDivisor 12 = .ok (.lconst 0, 1) := by decide +kernel
theorem dX5_commonDivisor_13 : decode cX5_commonDivisor 13 = .ok (.lcmp, 1) := by decide +kernel
theorem dX5_commonDivisor_14 : decode cX5_commonDivisor 14 = .ok (.ifCond .eq 19, 3) := by decide +kernel
theorem dX5_commonDivisor_17 : decode cX5_commonDivisor 17 = .ok (.lload_n 0, 1) := by decide +kernel
theorem dX5_commonDivisor_18 : decode cX5_commonDivisor 18 = .ok (.lload_n 2, 1) := by decide +kernel
theorem dX5_commonDivisor_19 : decode cX5_commonDivisor 19 = .ok (.lrem, 1) := by decide +kernel
theorem dX5_commonDivisor_20 : decode cX5_commonDivisor 20 = .ok (.lstore 5, 2) := by decide +kernel
theorem dX5_commonDivisor_22 : decode cX5_commonDivisor 22 = .ok (.lload_n 2, 1) := by decide +kernel
theorem dX5_commonDivisor_23 : decode cX5_commonDivisor 23 = .ok (.lstore_n 0, 1) := by decide +kernel
theorem dX5_commonDivisor_24 : decode cX5_commonDivisor 24 = .ok (.lload 5, 2) := by decide +kernel
theorem dX5_commonDivisor_26 : decode cX5_commonDivisor 26 = .ok (.lstore_n 2, 1) := by decide +kernel
theorem dX5_commonDivisor_27 : decode cX5_commonDivisor 27 = .ok (.iinc 4 1, 3) := by decide +kernel
theorem dX5_commonDivisor_30 : decode cX5_commonDivisor 30 = .ok (.goto (-27), 3) := by decide +kernel
theorem dX5_commonDivisor_33 : decode cX5_commonDivisor 33 = .ok (.lload_n 0, 1) := by decide +kernel
theorem dX5_commonDivisor_34 : decode cX5_commonDivisor 34 = .ok (.lreturn, 1) := by decide +kernel
end
section
theorem dX6_init_0 : decode cX6_init 0 = .ok (.aload_n 0, 1) := by decide +kernel
theorem dX6_init_1 : decode cX6_init 1 = .ok (.invokespecial 1, 3) := by decide +kernel
theorem dX6_init_4 : decode cX6_init 4 = .ok (.aload_n 0, 1) := by decide +kernel
theorem dX6_init_5 : decode cX6_init 5 = .ok (.sipush 189, 3) := by decide +kernel
theorem dX6_init_8 : decode cX6_init 8 = .ok (.newarray .int, 2) := by decide +kernel
theorem dX6_init_10 : decode cX6_init 10 = .ok (.putfield 7, 3) := by decide +kernel
theorem dX6_init_13 : decode cX6_init 13 = .ok (.aload_n 0, 1) := by decide +kernel
theorem dX6_init_14 : decode cX6_init 14 = .ok (.bipush 63, 2) := by decide +kernel
theorem dX6_init_16 : decode cX6_init 16 = .ok (.newarray .int, 2) := by decide +kernel
theorem dX6_init_18 : decode cX6_init 18 = .ok (.putfield 13, 3) := by decide +kernel
theorem dX6_init_21 : decode cX6_init 21 = .ok (.aload_n 0, 1) := by decide +kernel
theorem dX6_init_22 : decode cX6_init 22 = .ok (.iconst 2, 1) := by decide +kernel
theorem dX6_init_23 : decode cX6_init 23 = .ok (.newarray .boolean, 2) := by decide +kernel
theorem dX6_init_25 : decode cX6_init 25 = .ok (.putfield 16, 3) := by decide +kernel
theorem dX6_init_28 : decode cX6_init 28 = .ok (.aload_n 0, 1) := by decide +kernel
theorem dX6_init_29 : decode cX6_init 29 = .ok (.bipush 63, 2) := by decide +kernel
theorem dX6_init_31 : decode cX6_init 31 = .ok (.newarray .int, 2) := by decide +kernel
theorem dX6_init_33 : decode cX6_init 33 = .ok (.putfield 20, 3) := by decide +kernel
theorem dX6_init_36 : decode cX6_init 36 = .ok (.aload_n 0, 1) := by decide +kernel
theorem dX6_init_37 : decode cX6_init 37 = .ok (.sipush 160, 3) := by decide +kernel
theorem dX6_init_40 : decode cX6_init 40 = .ok (.newarray .int, 2) := by decide +kernel
theorem dX6_init_42 : decode cX6_init 42 = .ok (.putfield 23, 3) := by decide +kernel
theorem dX6_init_45 : decode cX6_init 45 = .ok (.aload_n 0, 1) := by decide +kernel
theorem dX6_init_46 : decode cX6_init 46 = .ok (.bipush 31, 2) := by decide +kernel
theorem dX6_init_48 : decode cX6_init 48 = .ok (.newarray .int, 2) := by decide +kernel
theorem dX6_init_50 : decode cX6_init 50 = .ok (.putfield 26, 3) := by decide +kernel
theorem dX6_init_53 : decode cX6_init 53 = .ok (.aload_n 0, 1) := by decide +kernel
theorem dX6_init_54 : decode cX6_init 54 = .ok (.sipush 279, 3) := by decide +kernel
theorem dX6_init_57 : decode cX6_init 57 = .ok (.newarray .int, 2) := by decide +kernel
theorem dX6_init_59 : decode cX6_init 59 = .ok (.putfield 29, 3) := by decide +kernel
theorem dX6_init_62 : decode cX6_init 62 = .ok (.aload_n 0, 1) := by decide +kernel
theorem dX6_init_63 : decode cX6_init 63 = .ok (.iconst 4, 1) := by decide +kernel
theorem dX6_init_64 : decode cX6_init 64 = .ok (.newarray .int, 2) := by decide +kernel
theorem dX6_init_66 : decode cX6_init 66 = .ok (.putfield 32, 3) := by decide +kernel
theorem dX6_init_69 : decode cX6_init 69 = .ok (.aload_n 0, 1) := by decide +kernel
theorem dX6_init_70 : decode cX6_init 70 = .ok (.iconst 4, 1) := by decide +kernel
theorem dX6_init_71 : decode cX6_init 71 = .ok (.newarray .int, 2) := by decide +kernel
theorem dX6_init_73 : decode cX6_init 73 = .ok (.putfield 35, 3) := by decide +kernel
theorem dX6_init_76 : decode cX6_init 76 = .ok (.aload_n 0, 1) := by decide +kernel
theorem dX6_init_77 : decode cX6_init 77 = .ok (.sipush 160, 3) := by decide +kernel
theorem dX6_init_80 : decode cX6_init 80 = .ok (.newarray .int, 2) := by decide +kernel
theorem dX6_init_82 : decode cX6_init 82 = .ok (.putfield 38, 3) := by decide +kernel
theorem dX6_init_85 : decode cX6_init 85 = .ok (.aload_n 0, 1) := by decide +kernel
theorem dX6_init_86 : decode cX6_init 86 = .ok (.bipush 63, 2) := by decide +kernel
theorem dX6_init_88 : decode cX6_init 88 = .ok (.newarray .int, 2) := by decide +kernel
theorem dX6_init_90 : decode cX6_init 90 = .ok (.putfield 41, 3) := by decide +kernel
theorem dX6_init_93 : decode cX6_init 93 = .ok (.iconst 0, 1) := by decide +kernel
theorem dX6_init_94 : decode cX6_init 94 = .ok (.istore_n 1, 1) := by decide +kernel
theorem dX6_init_95 : decode cX6_init 95 = .ok (.iload_n 1, 1) := by decide +kernel
theorem dX6_init_96 : decode cX6_init 96 = .ok (.iconst 4, 1) := by decide +kernel
theorem dX6_init_97 : decode cX6_init 97 = .ok (.if_icmp .ge 17, 3) := by decide +kernel
theorem dX6_init_100 : decode cX6_init 100 = .ok (.aload_n 0, 1) := by decide +kernel
theorem dX6_init_101 : decode cX6_init 101 = .ok (.getfield 32, 3) := by decide +kernel
theorem dX6_init_104 : decode cX6_init 104 = .ok (.iload_n 1, 1) := by decide +kernel
theorem dX6_init_105 : decode cX6_init 105 = .ok (.bipush (-4), 2) := by decide +kernel
theorem dX6_init_107 : decode cX6_init 107 = .ok (.iastore, 1) := by decide +kernel
theorem dX6_init_108 : decode cX6_init 108 = .ok (.iinc 1 1, 3) := by decide +kernel
theorem dX6_init_111 : decode cX6_init 111 = .ok (.goto (-16), 3) := by decide +kernel
theorem dX6_init_114 : decode cX6_init 114 = .ok (.aload_n 0, 1) := by decide +kernel
theorem dX6_init_115 : decode cX6_init 115 = .ok (.invokevirtual 44, 3) := by decide +kernel
theorem dX6_init_118 : decode cX6_init 118 = .ok (.aload_n 0, 1) := by decide +kernel
theorem dX6_init_119 : decode cX6_init 119 = .ok (.invokevirtual 47, 3) := by decide +kernel
theorem dX6_init_122 : decode cX6_init 122 = .ok (.return_, 1) := by decide +kernel
theorem dX6_in_0 : decode cX6_in 0 = .ok (.lload_n 0, 1) := by decide +kernel
theorem dX6_in_1 : decode cX6_in 1 = .ok (.lload_n 2, 1) := by decide +kernel
theorem dX6_in_2 : decode cX6_in 2 = .ok (.lcmp, 1) := by decide +kernel
theorem dX6_in_3 : decode cX6_in 3 = .ok (.ifCond .lt 14, 3) := by decide +kernel
theorem dX6_in_6 : decode cX6_in 6 = .ok (.lload_n 0, 1) := by decide +kernel
theorem dX6_in_7 : decode cX6_in 7 = .ok (.lload 4, 2) := by decide +kernel
theorem dX6_in_9 : decode cX6_in 9 = .ok (.lcmp, 1) := by decide +kernel
theorem dX6_in_10 : decode cX6_in 10 = .ok (.ifCond .gt 7, 3) := by decide +kernel
theorem dX6_in_13 : decode cX6_in 13 = .ok (.iconst 1, 1) := by decide +kernel
theorem dX6_in_14 : decode cX6_in 14 = .ok (.goto 4, 3) := by decide +kernel
theorem dX6_in_17 : decode cX6_in 17 = .ok (.iconst 0, 1) := by decide +kernel
theorem dX6_in_18 : decode cX6_in 18 = .ok (.ireturn, 1) := by decide +kernel
theorem dX6_flag_0 : decode cX6_flag 0 = .ok (.iload_n 0, 1) := by decide +kernel
theorem dX6_flag_1 : decode cX6_flag 1 = .ok (.ifCond .eq 7, 3) := by decide +kernel
theorem dX6_flag_4 : decode cX6_flag 4 = .ok (.iconst 1, 1) := by decide +kernel
theorem dX6_flag_5 : decode cX6_flag 5 = .ok (.goto 4, 3) := by decide +kernel
theorem dX6_flag_8 : decode cX6_flag 8 = .ok (.iconst 0, 1) := by decide +kernel
theorem dX6_flag_9 : decode cX6_flag 9 = .ok (.ireturn, 1) := by decide +kernel
theorem dX6_within_0 : decode cX6_within 0 = .ok (.iload_n 0, 1) := by decide +kernel
theorem dX6_within_1 : decode cX6_within 1 = .ok (.iload_n 1, 1) := by decide +kernel
theorem dX6_within_2 : decode cX6_within 2 = .ok (.if_icmp .ge 7, 3) := by decide +kernel
theorem dX6_within_5 : decode cX6_within 5 = .ok (.iload_n 1, 1) := by decide +kernel
theorem dX6_within_6 : decode cX6_within 6 = .ok (.goto 13, 3) := by decide +kernel
theorem dX6_within_9 : decode cX6_within 9 = .ok (.iload_n 0, 1) := by decide +kernel
theorem dX6_within_10 : decode cX6_within 10 = .ok (.iload_n 2, 1) := by decide +kernel
theorem dX6_within_11 : decode cX6_within 11 = .ok (.if_icmp .le 7, 3) := by decide +kernel
theorem dX6_within_14 : decode cX6_within 14 = .ok (.iload_n 2, 1) := by decide +kernel
theorem dX6_within_15 : decode cX6_within 15 = .ok (.goto 4, 3) := by decide +kernel
theorem dX6_within_18 : decode cX6_within 18 = .ok (.iload_n 0, 1) := by decide +kernel
theorem dX6_within_19 : decode cX6_within 19 = .ok (.ireturn, 1) := by decide +kernel
theorem dX6_firstDraft_0 : decode cX6_firstDraft 0 = .ok (.iconst 0, 1) := by decide +kernel
theorem dX6_firstDraft_1 : decode cX6_firstDraft 1 = .ok (.istore_n 1, 1) := by decide +kernel
theorem dX6_firstDraft_2 : decode cX6_firstDraft 2 = .ok (.iload_n 1, 1) := by decide +kernel
theorem dX6_firstDraft_3 : decode cX6_firstDraft 3 = .ok (.bipush 63, 2) := by decide +kernel
theorem dX6_firstDraft_5 : decode cX6_firstDraft 5 = .ok (.if_icmp .ge 16, 3) := by decide +kernel
theorem dX6_firstDraft_8 : decode cX6_firstDraft 8 = .ok (.aload_n 0, 1) := by decide +kernel
theorem dX6_firstDraft_9 : decode cX6_firstDraft 9 = .ok (.getfield 20, 3) := by decide +kernel
theorem dX6_firstDraft_12 : decode cX6_firstDraft 12 = .ok (.iload_n 1, 1) := by decide +kernel
theorem dX6_firstDraft_13 : decode cX6_firstDraft 13 = .ok (.iconst 0, 1) := by decide +kernel
theorem dX6_firstDraft_14 : decode cX6_firstDraft 14 = .ok (.iastore, 1) := by decide +kernel
theorem dX6_firstDraft_15 : decode cX6_firstDraft 15 = .ok (.iinc 1 1, 3) := by decide +kernel
theorem dX6_firstDraft_18 : decode cX6_firstDraft 18 = .ok (.goto (-16), 3) := by decide +kernel
theorem dX6_firstDraft_21 : decode cX6_firstDraft 21 = .ok (.iconst 0, 1) := by decide +kernel
theorem dX6_firstDraft_22 : decode cX6_firstDraft 22 = .ok (.istore_n 1, 1) := by decide +kernel
theorem dX6_firstDraft_23 : decode cX6_firstDraft 23 = .ok (.iload_n 1, 1) := by decide +kernel
theorem dX6_firstDraft_24 : decode cX6_firstDraft 24 = .ok (.iconst 5, 1) := by decide +kernel
theorem dX6_firstDraft_25 : decode cX6_firstDraft 25 = .ok (.if_icmp .ge 19, 3) := by decide +kernel
theorem dX6_firstDraft_28 : decode cX6_firstDraft 28 = .ok (.aload_n 0, 1) := by decide +kernel
theorem dX6_firstDraft_29 : decode cX6_firstDraft 29 = .ok (.getfield 20, 3) := by decide +kernel
theorem dX6_firstDraft_32 : decode cX6_firstDraft 32 = .ok (.bipush 28, 2) := by decide +kernel
theorem dX6_firstDraft_34 : decode cX6_firstDraft 34 = .ok (.iload_n 1, 1) := by decide +kernel
theorem dX6_firstDraft_35 : decode cX6_firstDraft 35 = .ok (.iadd, 1) := by decide +kernel
theorem dX6_firstDraft_36 : decode cX6_firstDraft 36 = .ok (.iconst 4, 1) := by decide +kernel
theorem dX6_firstDraft_37 : decode cX6_firstDraft 37 = .ok (.iastore, 1) := by decide +kernel
theorem dX6_firstDraft_38 : decode cX6_firstDraft 38 = .ok (.iinc 1 1, 3) := by decide +kernel
theorem dX6_firstDraft_41 : decode cX6_firstDraft 41 = .ok (.goto (-18), 3) := by decide +kernel
theorem dX6_firstDraft_44 : decode cX6_firstDraft 44 = .ok (.aload_n 0, 1) := by decide +kernel
theorem dX6_firstDraft_45 : decode cX6_firstDraft 45 = .ok (.getfield 20, 3) := by decide +kernel
theorem dX6_firstDraft_48 : decode cX6_firstDraft 48 = .ok (.bipush 26, 2) := by decide +kernel
theorem dX6_firstDraft_50 : decode cX6_firstDraft 50 = .ok (.iconst 1, 1) := by decide +kernel
theorem dX6_firstDraft_51 : decode cX6_firstDraft 51 = .ok (.iastore, 1) := by decide +kernel
theorem dX6_firstDraft_52 : decode cX6_firstDraft 52 = .ok (.aload_n 0, 1) := by decide +kernel
theorem dX6_firstDraft_53 : decode cX6_firstDraft 53 = .ok (.iconst 0, 1) := by decide +kernel
theorem dX6_firstDraft_54 : decode cX6_firstDraft 54 = .ok (.putfield 50, 3) := by decide +kernel
theorem dX6_firstDraft_57 : decode cX6_firstDraft 57 = .ok (.aload_n 0, 1) := by decide +kernel
theorem dX6_firstDraft_58 : decode cX6_firstDraft 58 = .ok (.iconst 0, 1) := by decide +kernel
theorem dX6_firstDraft_59 : decode cX6_firstDraft 59 = .ok (.putfield 54, 3) := by decide +kernel
theorem dX6_firstDraft_62 : decode cX6_firstDraft 62 = .ok (.aload_n 0, 1) := by decide +kernel
theorem dX6_firstDraft_63 : decode cX6_firstDraft 63 = .ok (.iconst 0, 1) := by decide +kernel
theorem dX6_firstDraft_64 : decode cX6_firstDraft 64 = .ok (.putfield 57, 3) := by decide +kernel
theorem dX6_firstDraft_67 : decode cX6_firstDraft 67 = .ok (.aload_n 0, 1) := by decide +kernel
theorem dX6_firstDraft_68 : decode cX6_firstDraft 68 = .ok (.iconst 0, 1) := by decide +kernel
theorem dX6_firstDraft_69 : decode cX6_firstDraft 69 = .ok (.putfield 61, 3) := by decide +kernel
theorem dX6_firstDraft_72 : decode cX6_firstDraft 72 = .ok (.return_, 1) := by decide +kernel
theorem dX6_keepDraft_0 : decode cX6_keepDraft 0 = .ok (.iconst 0, 1) := by decide +kernel
theorem dX6_keepDraft_1 : decode cX6_keepDraft 1 = .ok (.istore_n 1, 1) := by decide +kernel
theorem dX6_keepDraft_2 : decode cX6_keepDraft 2 = .ok (.iload_n 1, 1) := by decide +kernel
theorem dX6_keepDraft_3 : decode cX6_keepDraft 3 = .ok (.bipush 63, 2) := by decide +kernel
theorem dX6_keepDraft_5 : decode cX6_keepDraft 5 = .ok (.if_icmp .ge 21, 3) := by decide +kernel
theorem dX6_keepDraft_8 : decode cX6_keepDraft 8 = .ok (.aload_n 0, 1) := by decide +kernel
theorem dX6_keepDraft_9 : decode cX6_keepDraft 9 = .ok (.getfield 7, 3) := by decide +kernel
theorem dX6_keepDraft_12 : decode cX6_keepDraft 12 = .ok (.iload_n 1, 1) := by decide +kernel
theorem dX6_keepDraft_13 : decode cX6_keepDraft 13 = .ok (.aload_n 0, 1) := by decide +kernel
theorem dX6_keepDraft_14 : decode cX6_keepDraft 14 = .ok (.getfield 20, 3) := by decide +kernel
theorem dX6_keepDraft_17 : decode cX6_keepDraft 17 = .ok (.iload_n 1, 1) := by decide +kernel
theorem dX6_keepDraft_18 : decode cX6_keepDraft 18 = .ok (.iaload, 1) := by decide +kernel
theorem dX6_keepDraft_19 : decode cX6_keepDraft 19 = .ok (.iastore, 1) := by decide +kernel
theorem dX6_keepDraft_20 : decode cX6_keepDraft 20 = .ok (.iinc 1 1, 3) := by decide +kernel
theorem dX6_keepDraft_23 : decode cX6_keepDraft 23 = .ok (.goto (-21), 3) := by decide +kernel
theorem dX6_keepDraft_26 : decode cX6_keepDraft 26 = .ok (.aload_n 0, 1) := by decide +kernel
theorem dX6_keepDraft_27 : decode cX6_keepDraft 27 = .ok (.aload_n 0, 1) := by decide +kernel
theorem dX6_keepDraft_28 : decode cX6_keepDraft 28 = .ok (.getfield 50, 3) := by decide +kernel
theorem dX6_keepDraft_31 : decode cX6_keepDraft 31 = .ok (.putfield 64, 3) := by decide +kernel
theorem dX6_keepDraft_34 : decode cX6_keepDraft 34 = .ok (.aload_n 0, 1) := by decide +kernel
theorem dX6_keepDraft_35 : decode cX6_keepDraft 35 = .ok (.getfield 16, 3) := by decide +kernel
theorem dX6_keepDraft_38 : decode cX6_keepDraft 38 = .ok (.iconst 0, 1) := by decide +kernel
theorem dX6_keepDraft_39 : decode cX6_keepDraft 39 = .ok (.iconst 0, 1) := by decide +kernel
theorem dX6_keepDraft_40 : decode cX6_keepDraft 40 = .ok (.bastore, 1) := by decide +kernel
theorem dX6_keepDraft_41 : decode cX6_keepDraft 41 = .ok (.aload_n 0, 1) := by decide +kernel
theorem dX6_keepDraft_42 : decode cX6_keepDraft 42 = .ok (.getfield 16, 3) := by decide +kernel
theorem dX6_keepDraft_45 : decode cX6_keepDraft 45 = .ok (.iconst 1, 1) := by decide +kernel
theorem dX6_keepDraft_46 : decode cX6_keepDraft 46 = .ok (.iconst 0, 1) := by decide +kernel
theorem dX6_keepDraft_47 : decode cX6_keepDraft 47 = .ok (.bastore, 1) := by decide +kernel
theorem dX6_keepDraft_48 : decode cX6_keepDraft 48 = .ok (.return_, 1) := by decide +kernel
theorem dX6_feed_0 : decode cX6_feed 0 = .ok (.iload_n 1, 1) := by decide +kernel
theorem dX6_feed_1 : decode cX6_feed 1 = .ok (.i2l, 1) := by decide +kernel
theorem dX6_feed_2 : decode cX6_feed 2 = .ok (.lconst 0, 1) := by decide +kernel
theorem dX6_feed_3 : decode cX6_feed 3 = .ok (.ldc2_w 67, 3) := by decide +kernel
theorem dX6_feed_6 : decode cX6_feed 6 = .ok (.invokestatic 69, 3) := by decide +kernel
theorem dX6_feed_9 : decode cX6_feed 9 = .ok (.ifCond .ne 5, 3) := by decide +kernel
theorem dX6_feed_12 : decode cX6_feed 12 = .ok (.iconst (-1), 1) := by decide +kernel
theorem dX6_feed_13 : decode cX6_feed 13 = .ok (.ireturn, 1) := by decide +kernel
theorem dX6_feed_14 : decode cX6_feed 14 = .ok (.aload_n 0, 1) := by decide +kernel
theorem dX6_feed_15 : decode cX6_feed 15 = .ok (.getfield 73, 3) := by decide +kernel
theorem dX6_feed_18 : decode cX6_feed 18 = .ok (.sipush 160, 3) := by decide +kernel
theorem dX6_feed_21 : decode cX6_feed 21 = .ok (.if_icmp .ne 6, 3) := by decide +kernel
theorem dX6_feed_24 : decode cX6_feed 24 = .ok (.bipush (-3), 2) := by decide +kernel
theorem dX6_feed_26 : decode cX6_feed 26 = .ok (.ireturn, 1) := by decide +kernel
theorem dX6_feed_27 : decode cX6_feed 27 = .ok (.aload_n 0, 1) := by decide +kernel
theorem dX6_feed_28 : decode cX6_feed 28 = .ok (.getfield 23, 3) := by decide +kernel
theorem dX6_feed_31 : decode cX6_feed 31 = .ok (.aload_n 0, 1) := by decide +kernel
theorem dX6_feed_32 : decode cX6_feed 32 = .ok (.getfield 73, 3) := by decide +kernel
theorem dX6_feed_35 : decode cX6_feed 35 = .ok (.iload_n 1, 1) := by decide +kernel
theorem dX6_feed_36 : decode cX6_feed 36 = .ok (.iastore, 1) := by decide +kernel
theorem dX6_feed_37 : decode cX6_feed 37 = .ok (.aload_n 0, 1) := by decide +kernel
theorem dX6_feed_38 : decode cX6_feed 38 = .ok (.dup, 1) := by decide +kernel
theorem dX6_feed_39 : decode cX6_feed 39 = .ok (.getfield 73, 3) := by decide +kernel
theorem dX6_feed_42 : decode cX6_feed 42 = .ok (.iconst 1, 1) := by decide +kernel
theorem dX6_feed_43 : decode cX6_feed 43 = .ok (.iadd, 1) := by decide +kernel
theorem dX6_feed_44 : decode cX6_feed 44 = .ok (.putfield 73, 3) := by decide +kernel
theorem dX6_feed_47 : decode cX6_feed 47 = .ok (.aload_n 0, 1) := by decide +kernel
theorem dX6_feed_48 : decode cX6_feed 48 = .ok (.getfield 73, 3) := by decide +kernel
theorem dX6_feed_51 : decode cX6_feed 51 = .ok (.ireturn, 1) := by decide +kernel
theorem dX6_end_0 : decode cX6_end 0 = .ok (.iload_n 1, 1) := by decide +kernel
theorem dX6_end_1 : decode cX6_end 1 = .ok (.i2l, 1) := by decide +kernel
theorem dX6_end_2 : decode cX6_end 2 = .ok (.lconst 0, 1) := by decide +kernel
theorem dX6_end_3 : decode cX6_end 3 = .ok (.aload_n 0, 1) := by decide +kernel
theorem dX6_end_4 : decode cX6_end 4 = .ok (.getfield 73, 3) := by decide +kernel
theorem dX6_end_7 : decode cX6_end 7 = .ok (.i2l, 1) := by decide +kernel
theorem dX6_end_8 : decode cX6_end 8 = .ok (.invokestatic 69, 3) := by decide +kernel
theorem dX6_end_11 : decode cX6_end 11 = .ok (.ifCond .ne 5, 3) := by decide +kernel
theorem dX6_end_14 : decode cX6_end 14 = .ok (.iconst (-1), 1) := by decide +kernel
theorem dX6_end_15 : decode cX6_end 15 = .ok (.ireturn, 1) := by decide +kernel
theorem dX6_end_16 : decode cX6_end 16 = .ok (.aload_n 0, 1) := by decide +kernel
theorem dX6_end_17 : decode cX6_end 17 = .ok (.getfield 73, 3) := by decide +kernel
theorem dX6_end_20 : decode cX6_end 20 = .ok (.istore_n 2, 1) := by decide +kernel
theorem dX6_end_21 : decode cX6_end 21 = .ok (.aload_n 0, 1) := by decide +kernel
theorem dX6_end_22 : decode cX6_end 22 = .ok (.iload_n 1, 1) := by decide +kernel
theorem dX6_end_23 : decode cX6_end 23 = .ok (.putfield 73, 3) := by decide +kernel
theorem dX6_end_26 : decode cX6_end 26 = .ok (.iload_n 2, 1) := by decide +kernel
theorem dX6_end_27 : decode cX6_end 27 = .ok (.ireturn, 1) := by decide +kernel
theorem dX6_needs_0 : decode cX6_needs 0 = .ok (.iload_n 1, 1) := by decide +kernel
theorem dX6_needs_1 : decode cX6_needs 1 = .ok (.ifCond .ne 23, 3) := by decide +kernel
theorem dX6_needs_4 : decode cX6_needs 4 = .ok (.aload_n 0, 1) := by decide +kernel
theorem dX6_needs_5 : decode cX6_needs 5 = .ok (.getfield 76, 3) := by decide +kernel
theorem dX6_needs_8 : decode cX6_needs 8 = .ok (.ifCond .ne 16, 3) := by decide +kernel
theorem dX6_needs_11 : decode cX6_needs 11 = .ok (.aload_n 0, 1) := by decide +kernel
theorem dX6_needs_12 : decode cX6_needs 12 = .ok (.iload_n 2, 1) := by decide +kernel
theorem dX6_needs_13 : decode cX6_needs 13 = .ok (.putfield 76, 3) := by decide +kernel
theorem dX6_needs_16 : decode cX6_needs 16 = .ok (.aload_n 0, 1) := by decide +kernel
theorem dX6_needs_17 : decode cX6_needs 17 = .ok (.aload_n 0, 1) := by decide +kernel
theorem dX6_needs_18 : decode cX6_needs 18 = .ok (.getfield 79, 3) := by decide +kernel
theorem dX6_needs_21 : decode cX6_needs 21 = .ok (.putfield 82, 3) := by decide +kernel
theorem dX6_needs_24 : decode cX6_needs 24 = .ok (.return_, 1) := by decide +kernel
theorem dX6_byteAt_0 : decode cX6_byteAt 0 = .ok (.iload_n 1, 1) := by decide +kernel
theorem dX6_byteAt_1 : decode cX6_byteAt 1 = .ok (.aload_n 0, 1) := by decide +kernel
theorem dX6_byteAt_2 : decode cX6_byteAt 2 = .ok (.getfield 73, 3) := by decide +kernel
theorem dX6_byteAt_5 : decode cX6_byteAt 5 = .ok (.if_icmp .ge 12, 3) := by decide +kernel
theorem dX6_byteAt_8 : decode cX6_byteAt 8 = .ok (.aload_n 0, 1) := by decide +kernel
theorem dX6_byteAt_9 : decode cX6_byteAt 9 = .ok (.getfield 23, 3) := by decide +kernel
theorem dX6_byteAt_12 : decode cX6_byteAt 12 = .ok (.iload_n 1, 1) := by decide +kernel
theorem dX6_byteAt_13 : decode cX6_byteAt 13 = .ok (.iaload, 1) := by decide +kernel
theorem dX6_byteAt_14 : decode cX6_byteAt 14 = .ok (.goto 4, 3) := by decide +kernel
theorem dX6_byteAt_17 : decode cX6_byteAt 17 = .ok (.iconst (-1), 1) := by decide +kernel
theorem dX6_byteAt_18 : decode cX6_byteAt 18 = .ok (.ireturn, 1) := by decide +kernel
theorem dX6_is_0 : decode cX6_is 0 = .ok (.aload_n 0, 1) := by decide +kernel
theorem dX6_is_1 : decode cX6_is 1 = .ok (.getfield 85, 3) := by decide +kernel
theorem dX6_is_4 : decode cX6_is 4 = .ok (.aload_n 0, 1) := by decide +kernel
theorem dX6_is_5 : decode cX6_is 5 = .ok (.getfield 79, 3) := by decide +kernel
theorem dX6_is_8 : decode cX6_is 8 = .ok (.isub, 1) := by decide +kernel
theorem dX6_is_9 : decode cX6_is 9 = .ok (.iload_n 1, 1) := by decide +kernel
theorem dX6_is_10 : decode cX6_is 10 = .ok (.if_icmp .ne 63, 3) := by decide +kernel
theorem dX6_is_13 : decode cX6_is 13 = .ok (.aload_n 0, 1) := by decide +kernel
theorem dX6_is_14 : decode cX6_is 14 = .ok (.aload_n 0, 1) := by decide +kernel
theorem dX6_is_15 : decode cX6_is 15 = .ok (.getfield 79, 3) := by decide +kernel
theorem dX6_is_18 : decode cX6_is 18 = .ok (.invokevirtual 88, 3) := by decide +kernel
theorem dX6_is_21 : decode cX6_is 21 = .ok (.iload_n 2, 1) := by decide +kernel
theorem dX6_is_22 : decode cX6_is 22 = .ok (.if_icmp .ne 51, 3) := by decide +kernel
theorem dX6_is_25 : decode cX6_is 25 = .ok (.aload_n 0, 1) := by decide +kernel
theorem dX6_is_26 : decode cX6_is 26 = .ok (.aload_n 0, 1) := by decide +kernel
theorem dX6_is_27 : decode cX6_is 27 = .ok (.getfield 79, 3) := by decide +kernel
theorem dX6_is_30 : decode cX6_is 30 = .ok (.iconst 1, 1) := by decide +kernel
theorem dX6_is_31 : decode cX6_is 31 = .ok (.iadd, 1) := by decide +kernel
theorem dX6_is_32 : decode cX6_is 32 = .ok (.invokevirtual 88, 3) := by decide +kernel
theorem dX6_is_35 : decode cX6_is 35 = .ok (.iload_n 3, 1) := by decide +kernel
theorem dX6_is_36 : decode cX6_is 36 = .ok (.if_icmp .ne 37, 3) := by decide +kernel
theorem dX6_is_39 : decode cX6_is 39 = .ok (.aload_n 0, 1) := by decide +kernel
theorem dX6_is_40 : decode cX6_is 40 = .ok (.aload_n 0, 1) := by decide +kernel
theorem dX6_is_41 : decode cX6_is 41 = .ok (.getfield 79, 3) := by decide +kernel
theorem dX6_is_44 : decode cX6_is 44 = .ok (.iconst 2, 1) := by decide +kernel
theorem dX6_is_45 : decode cX6_is 45 = .ok (.iadd, 1) := by decide +kernel
theorem dX6_is_46 : decode cX6_is 46 = .ok (.invokevirtual 88, 3) := by decide +kernel
theorem dX6_is_49 : decode cX6_is 49 = .ok (.iload 4, 2) := by decide +kernel
theorem dX6_is_51 : decode cX6_is 51 = .ok (.if_icmp .ne 22, 3) := by decide +kernel
theorem dX6_is_54 : decode cX6_is 54 = .ok (.aload_n 0, 1) := by decide +kernel
theorem dX6_is_55 : decode cX6_is 55 = .ok (.aload_n 0, 1) := by decide +kernel
theorem dX6_is_56 : decode cX6_is 56 = .ok (.getfield 79, 3) := by decide +kernel
theorem dX6_is_59 : decode cX6_is 59 = .ok (.iconst 3, 1) := by decide +kernel
theorem dX6_is_60 : decode cX6_is 60 = .ok (.iadd, 1) := by decide +kernel
theorem dX6_is_61 : decode cX6_is 61 = .ok (.invokevirtual 88, 3) := by decide +kernel
theorem dX6_is_64 : decode cX6_is 64 = .ok (.iload 5, 2) := by decide +kernel
theorem dX6_is_66 : decode cX6_is 66 = .ok (.if_icmp .ne 7, 3) := by decide +kernel
theorem dX6_is_69 : decode cX6_is 69 = .ok (.iconst 1, 1) := by decide +kernel
theorem dX6_is_70 : decode cX6_is 70 = .ok (.goto 4, 3) := by decide +kernel
theorem dX6_is_73 : decode cX6_is 73 = .ok (.iconst 0, 1) := by decide +kernel
theorem dX6_is_74 : decode cX6_is 74 = .ok (.ireturn, 1) := by decide +kernel
theorem dX6_ends_0 : decode cX6_ends 0 = .ok (.aload_n 0, 1) := by decide +kernel
theorem dX6_ends_1 : decode cX6_ends 1 = .ok (.aload_n 0, 1) := by decide +kernel
theorem dX6_ends_2 : decode cX6_ends 2 = .ok (.getfield 79, 3) := by decide +kernel
theorem dX6_ends_5 : decode cX6_ends 5 = .ok (.iconst 4, 1) := by decide +kernel
theorem dX6_ends_6 : decode cX6_ends 6 = .ok (.iadd, 1) := by decide +kernel
theorem dX6_ends_7 : decode cX6_ends 7 = .ok (.invokevirtual 88, 3) := by decide +kernel
theorem dX6_ends_10 : decode cX6_ends 10 = .ok (.iload_n 1, 1) := by decide +kernel
theorem dX6_ends_11 : decode cX6_ends 11 = .ok (.if_icmp .ne 25, 3) := by decide +kernel
theorem dX6_ends_14 : decode cX6_ends 14 = .ok (.iload_n 2, 1) := by decide +kernel
theorem dX6_ends_15 : decode cX6_ends 15 = .ok (.ifCond .eq 17, 3) := by decide +kernel
theorem dX6_ends_18 : decode cX6_ends 18 = .ok (.aload_n 0, 1) := by decide +kernel
theorem dX6_ends_19 : decode cX6_ends 19 = .ok (.aload_n 0, 1) := by decide +kernel
theorem dX6_ends_20 : decode cX6_ends 20 = .ok (.getfield 79, 3) := by decide +kernel
theorem dX6_ends_23 : decode cX6_ends 23 = .ok (.iconst 5, 1) := by decide +kernel
theorem dX6_ends_24 : decode cX6_ends 24 = .ok (.iadd, 1) := by decide +kernel
theorem dX6_ends_25 : decode cX6_ends 25 = .ok (.invokevirtual 88, 3) := by decide +kernel
theorem dX6_ends_28 : decode cX6_ends 28 = .ok (.iload_n 2, 1) := by decide +kernel
theorem dX6_ends_29 : decode cX6_ends 29 = .ok (.if_icmp .ne 7, 3) := by decide +kernel
theorem dX6_ends_32 : decode cX6_ends 32 = .ok (.iconst 1, 1) := by decide +kernel
theorem dX6_ends_33 : decode cX6_ends 33 = .ok (.goto 4, 3) := by decide +kernel
theorem dX6_ends_36 : decode cX6_ends 36 = .ok (.iconst 0, 1) := by decide +kernel
theorem dX6_ends_37 : decode cX6_ends 37 = .ok (.ireturn, 1) := by decide +kernel
theorem dX6_lineNow_0 : decode cX6_lineNow 0 = .ok (.aload_n 0, 1) := by decide +kernel
theorem dX6_lineNow_1 : decode cX6_lineNow 1 = .ok (.iconst 5, 1) := by decide +kernel
theorem dX6_lineNow_2 : decode cX6_lineNow 2 = .ok (.bipush 112, 2) := by decide +kernel
theorem dX6_lineNow_4 : decode cX6_lineNow 4 = .ok (.bipush 108, 2) := by decide +kernel
theorem dX6_lineNow_6 : decode cX6_lineNow 6 = .ok (.bipush 97, 2) := by decide +kernel
theorem dX6_lineNow_8 : decode cX6_lineNow 8 = .ok (.bipush 105, 2) := by decide +kernel
theorem dX6_lineNow_10 : decode cX6_lineNow 10 = .ok (.invokevirtual 92, 3) := by decide +kernel
theorem dX6_lineNow_13 : decode cX6_lineNow 13 = .ok (.ifCond .eq 15, 3) := by decide +kernel
theorem dX6_lineNow_16 : decode cX6_lineNow 16 = .ok (.aload_n 0, 1) := by decide +kernel
theorem dX6_lineNow_17 : decode cX6_lineNow 17 = .ok (.bipush 110, 2) := by decide +kernel
theorem dX6_lineNow_19 : decode cX6_lineNow 19 = .ok (.iconst 0, 1) := by decide +kernel
theorem dX6_lineNow_20 : decode cX6_lineNow 20 = .ok (.invokevirtual 96, 3) := by decide +kernel
theorem dX6_lineNow_23 : decode cX6_lineNow 23 = .ok (.ifCond .eq 5, 3) := by decide +kernel
theorem dX6_lineNow_26 : decode cX6_lineNow 26 = .ok (.iconst 0, 1) := by decide +kernel
theorem dX6_lineNow_27 : decode cX6_lineNow 27 = .ok (.ireturn, 1) := by decide +kernel
theorem dX6_lineNow_28 : decode cX6_lineNow 28 = .ok (.aload_n 0, 1) := by decide +kernel
theorem dX6_lineNow_29 : decode cX6_lineNow 29 = .ok (.iconst 4, 1) := by decide +kernel
theorem dX6_lineNow_30 : decode cX6_lineNow 30 = .ok (.bipush 116, 2) := by decide +kernel
theorem dX6_lineNow_32 : decode cX6_lineNow 32 = .ok (.bipush 97, 2) := by decide +kernel
theorem dX6_lineNow_34 : decode cX6_lineNow 34 = .ok (.bipush 99, 2) := by decide +kernel
theorem dX6_lineNow_36 : decode cX6_lineNow 36 = .ok (.bipush 116, 2) := by decide +kernel
theorem dX6_lineNow_38 : decode cX6_lineNow 38 = .ok (.invokevirtual 92, 3) := by decide +kernel
theorem dX6_lineNow_41 : decode cX6_lineNow 41 = .ok (.ifCond .eq 5, 3) := by decide +kernel
theorem dX6_lineNow_44 : decode cX6_lineNow 44 = .ok (.iconst 1, 1) := by decide +kernel
theorem dX6_lineNow_45 : decode cX6_lineNow 45 = .ok (.ireturn, 1) := by decide +kernel
theorem dX6_lineNow_46 : decode cX6_lineNow 46 = .ok (.aload_n 0, 1) := by decide +kernel
theorem dX6_lineNow_47 : decode cX6_lineNow 47 = .ok (.bipush 6, 2) := by decide +kernel
theorem dX6_lineNow_49 : decode cX6_lineNow 49 = .ok (.bipush 115, 2) := by decide +kernel
theorem dX6_lineNow_51 : decode cX6_lineNow 51 = .ok (.bipush 101, 2) := by decide +kernel
theorem dX6_lineNow_53 : decode cX6_lineNow 53 = .ok (.bipush 99, 2) := by decide +kernel
theorem dX6_lineNow_55 : decode cX6_lineNow 55 = .ok (.bipush 114, 2) := by decide +kernel
theorem dX6_lineNow_57 : decode cX6_lineNow 57 = .ok (.invokevirtual 92, 3) := by decide +kernel
theorem dX6_lineNow_60 : decode cX6_lineNow 60 = .ok (.ifCond .eq 16, 3) := by decide +kernel
theorem dX6_lineNow_63 : decode cX6_lineNow 63 = .ok (.aload_n 0, 1) := by decide +kernel
theorem dX6_lineNow_64 : decode cX6_lineNow 64 = .ok (.bipush 101, 2) := by decide +kernel
theorem dX6_lineNow_66 : decode cX6_lineNow 66 = .ok (.bipush 116, 2) := by decide +kernel
theorem dX6_lineNow_68 : decode cX6_lineNow 68 = .ok (.invokevirtual 96, 3) := by decide +kernel
theorem dX6_lineNow_71 : decode cX6_lineNow 71 = .ok (.ifCond .eq 5, 3) := by decide +kernel
theorem dX6_lineNow_74 : decode cX6_lineNow 74 = .ok (.iconst 2, 1) := by decide +kernel
theorem dX6_lineNow_75 : decode cX6_lineNow 75 = .ok (.ireturn, 1) := by decide +kernel
theorem dX6_lineNow_76 : decode cX6_lineNow 76 = .ok (.aload_n 0, 1) := by decide +kernel
theorem dX6_lineNow_77 : decode cX6_lineNow 77 = .ok (.iconst 4, 1) := by decide +kernel
theorem dX6_lineNow_78 : decode cX6_lineNow 78 = .ok (.bipush 106, 2) := by decide +kernel
theorem dX6_lineNow_80 : decode cX6_lineNow 80 = .ok (.bipush 111, 2) := by decide +kernel
theorem dX6_lineNow_82 : decode cX6_lineNow 82 = .ok (.bipush 107, 2) := by decide +kernel
theorem dX6_lineNow_84 : decode cX6_lineNow 84 = .ok (.bipush 101, 2) := by decide +kernel
theorem dX6_lineNow_86 : decode cX6_lineNow 86 = .ok (.invokevirtual 92, 3) := by decide +kernel
theorem dX6_lineNow_89 : decode cX6_lineNow 89 = .ok (.ifCond .eq 5, 3) := by decide +kernel
theorem dX6_lineNow_92 : decode cX6_lineNow 92 = .ok (.iconst 3, 1) := by decide +kernel
theorem dX6_lineNow_93 : decode cX6_lineNow 93 = .ok (.ireturn, 1) := by decide +kernel
theorem dX6_lineNow_94 : decode cX6_lineNow 94 = .ok (.aload_n 0, 1) := by decide +kernel
theorem dX6_lineNow_95 : decode cX6_lineNow 95 = .ok (.iconst 4, 1) := by decide +kernel
theorem dX6_lineNow_96 : decode cX6_lineNow 96 = .ok (.bipush 119, 2) := by decide +kernel
theorem dX6_lineNow_98 : decode cX6_lineNow 98 = .ok (.bipush 105, 2) := by decide +kernel
theorem dX6_lineNow_100 : decode cX6_lineNow 100 = .ok (.bipush 110, 2) := by decide +kernel
theorem dX6_lineNow_102 : decode cX6_lineNow 102 = .ok (.bipush 100, 2) := by decide +kernel
theorem dX6_lineNow_104 : decode cX6_lineNow 104 = .ok (.invokevirtual 92, 3) := by decide +kernel
theorem dX6_lineNow_107 : decode cX6_lineNow 107 = .ok (.ifCond .eq 5, 3) := by decide +kernel
theorem dX6_lineNow_110 : decode cX6_lineNow 110 = .ok (.iconst 4, 1) := by decide +kernel
theorem dX6_lineNow_111 : decode cX6_lineNow 111 = .ok (.ireturn, 1) := by decide +kernel
theorem dX6_lineNow_112 : decode cX6_lineNow 112 = .ok (.aload_n 0, 1) := by decide +kernel
theorem dX6_lineNow_113 : decode cX6_lineNow 113 = .ok (.iconst 4, 1) := by decide +kernel
theorem dX6_lineNow_114 : decode cX6_lineNow 114 = .ok (.bipush 114, 2) := by decide +kernel
theorem dX6_lineNow_116 : decode cX6_lineNow 116 = .ok (.bipush 97, 2) := by decide +kernel
theorem dX6_lineNow_118 : decode cX6_lineNow 118 = .ok (.bipush 116, 2) := by decide +kernel
theorem dX6_lineNow_120 : decode cX6_lineNow 120 = .ok (.bipush 101, 2) := by decide +kernel
theorem dX6_lineNow_122 : decode cX6_lineNow 122 = .ok (.invokevirtual 92, 3) := by decide +kernel
theorem dX6_lineNow_125 : decode cX6_lineNow 125 = .ok (.ifCond .eq 7, 3) := by decide +kernel
theorem dX6_lineNow_128 : decode cX6_lineNow 128 = .ok (.iconst 5, 1) := by decide +kernel
theorem dX6_lineNow_129 : decode cX6_lineNow 129 = .ok (.goto 36, 3) := by decide +kernel
theorem dX6_lineNow_132 : decode cX6_lineNow 132 = .ok (.aload_n 0, 1) := by decide +kernel
theorem dX6_lineNow_133 : decode cX6_lineNow 133 = .ok (.iconst 5, 1) := by decide +kernel
theorem dX6_lineNow_134 : decode cX6_lineNow 134 = .ok (.bipush 115, 2) := by decide +kernel
theorem dX6_lineNow_136 : decode cX6_lineNow 136 = .ok (.bipush 116, 2) := by decide +kernel
theorem dX6_lineNow_138 : decode cX6_lineNow 138 = .ok (.bipush 97, 2) := by decide +kernel
theorem dX6_lineNow_140 : decode cX6_lineNow 140 = .ok (.bipush 114, 2) := by decide +kernel
theorem dX6_lineNow_142 : decode cX6_lineNow 142 = .ok (.invokevirtual 92, 3) := by decide +kernel
theorem dX6_lineNow_145 : decode cX6_lineNow 145 = .ok (.ifCond .eq 18, 3) := by decide +kernel
theorem dX6_lineNow_148 : decode cX6_lineNow 148 = .ok (.aload_n 0, 1) := by decide +kernel
theorem dX6_lineNow_149 : decode cX6_lineNow 149 = .ok (.bipush 116, 2) := by decide +kernel
theorem dX6_lineNow_151 : decode cX6_lineNow 151 = .ok (.iconst 0, 1) := by decide +kernel
theorem dX6_lineNow_152 : decode cX6_lineNow 152 = .ok (.invokevirtual 96, 3) := by decide +kernel
theorem dX6_lineNow_155 : decode cX6_lineNow 155 = .ok (.ifCond .eq 8, 3) := by decide +kernel
theorem dX6_lineNow_158 : decode cX6_lineNow 158 = .ok (.bipush 6, 2) := by decide +kernel
theorem dX6_lineNow_160 : decode cX6_lineNow 160 = .ok (.goto 5, 3) := by decide +kernel
theorem dX6_lineNow_163 : decode cX6_lineNow 163 = .ok (.bipush (-4), 2) := by decide +kernel
theorem dX6_lineNow_165 : decode cX6_lineNow 165 = .ok (.ireturn, 1) := by decide +kernel
theorem dX6_takes_0 : decode cX6_takes 0 = .ok (.aload_n 0, 1) := by decide +kernel
theorem dX6_takes_1 : decode cX6_takes 1 = .ok (.getfield 76, 3) := by decide +kernel
theorem dX6_takes_4 : decode cX6_takes 4 = .ok (.ifCond .le 4, 3) := by decide +kernel
theorem dX6_takes_7 : decode cX6_takes 7 = .ok (.return_, 1) := by decide +kernel
theorem dX6_takes_8 : decode cX6_takes 8 = .ok (.aload_n 0, 1) := by decide +kernel
theorem dX6_takes_9 : decode cX6_takes 9 = .ok (.aload_n 0, 1) := by decide +kernel
theorem dX6_takes_10 : decode cX6_takes 10 = .ok (.getfield 85, 3) := by decide +kernel
theorem dX6_takes_13 : decode cX6_takes 13 = .ok (.invokevirtual 88, 3) := by decide +kernel
theorem dX6_takes_16 : decode cX6_takes 16 = .ok (.bipush 32, 2) := by decide +kernel
theorem dX6_takes_18 : decode cX6_takes 18 = .ok (.if_icmp .ne 16, 3) := by decide +kernel
theorem dX6_takes_21 : decode cX6_takes 21 = .ok (.aload_n 0, 1) := by decide +kernel
theorem dX6_takes_22 : decode cX6_takes 22 = .ok (.dup, 1) := by decide +kernel
theorem dX6_takes_23 : decode cX6_takes 23 = .ok (.getfield 85, 3) := by decide +kernel
theorem dX6_takes_26 : decode cX6_takes 26 = .ok (.iconst 1, 1) := by decide +kernel
theorem dX6_takes_27 : decode cX6_takes 27 = .ok (.iadd, 1) := by decide +kernel
theorem dX6_takes_28 : decode cX6_takes 28 = .ok (.putfield 85, 3) := by decide +kernel
theorem dX6_takes_31 : decode cX6_takes 31 = .ok (.goto (-23), 3) := by decide +kernel
theorem dX6_takes_34 : decode cX6_takes 34 = .ok (.aload_n 0, 1) := by decide +kernel
theorem dX6_takes_35 : decode cX6_takes 35 = .ok (.aload_n 0, 1) := by decide +kernel
theorem dX6_takes_36 : decode cX6_takes 36 = .ok (.getfield 85, 3) := by decide +kernel
theorem dX6_takes_39 : decode cX6_takes 39 = .ok (.putfield 79, 3) := by decide +kernel
theorem dX6_takes_42 : decode cX6_takes 42 = .ok (.aload_n 0, 1) := by decide +kernel
theorem dX6_takes_43 : decode cX6_takes 43 = .ok (.aload_n 0, 1) := by decide +kernel
theorem dX6_takes_44 : decode cX6_takes 44 = .ok (.getfield 85, 3) := by decide +kernel
theorem dX6_takes_47 : decode cX6_takes 47 = .ok (.invokevirtual 88, 3) := by decide +kernel
theorem dX6_takes_50 : decode cX6_takes 50 = .ok (.istore_n 1, 1) := by decide +kernel
theorem dX6_takes_51 : decode cX6_takes 51 = .ok (.iload_n 1, 1) := by decide +kernel
theorem dX6_takes_52 : decode cX6_takes 52 = .ok (.ifCond .ge 11, 3) := by decide +kernel
theorem dX6_takes_55 : decode cX6_takes 55 = .ok (.aload_n 0, 1) := by decide +kernel
theorem dX6_takes_56 : decode cX6_takes 56 = .ok (.iconst 0, 1) := by decide +kernel
theorem dX6_takes_57 : decode cX6_takes 57 = .ok (.putfield 100, 3) := by decide +kernel
theorem dX6_takes_60 : decode cX6_takes 60 = .ok (.goto 214, 3) := by decide +kernel
theorem dX6_takes_63 : decode cX6_takes 63 = .ok (.iload_n 1, 1) := by decide +kernel
theorem dX6_takes_64 : decode cX6_takes 64 = .ok (.i2l, 1) := by decide +kernel
theorem dX6_takes_65 : decode cX6_takes 65 = .ok (.ldc2_w 103, 3) := by decide +kernel
theorem dX6_takes_68 : decode cX6_takes 68 = .ok (.ldc2_w 105, 3) := by decide +kernel
theorem dX6_takes_71 : decode cX6_takes 71 = .ok (.invokestatic 69, 3) := by decide +kernel
theorem dX6_takes_74 : decode cX6_takes 74 = .ok (.ifCond .eq 42, 3) := by decide +kernel
theorem dX6_takes_77 : decode cX6_takes 77 = .ok (.aload_n 0, 1) := by decide +kernel
theorem dX6_takes_78 : decode cX6_takes 78 = .ok (.iconst 1, 1) := by decide +kernel
theorem dX6_takes_79 : decode cX6_takes 79 = .ok (.putfield 100, 3) := by decide +kernel
theorem dX6_takes_82 : decode cX6_takes 82 = .ok (.aload_n 0, 1) := by decide +kernel
theorem dX6_takes_83 : decode cX6_takes 83 = .ok (.aload_n 0, 1) := by decide +kernel
theorem dX6_takes_84 : decode cX6_takes 84 = .ok (.getfield 85, 3) := by decide +kernel
theorem dX6_takes_87 : decode cX6_takes 87 = .ok (.invokevirtual 88, 3) := by decide +kernel
theorem dX6_takes_90 : decode cX6_takes 90 = .ok (.i2l, 1) := by decide +kernel
theorem dX6_takes_91 : decode cX6_takes 91 = .ok (.ldc2_w 103, 3) := by decide +kernel
theorem dX6_takes_94 : decode cX6_takes 94 = .ok (.ldc2_w 105, 3) := by decide +kernel
theorem dX6_takes_97 : decode cX6_takes 97 = .ok (.invokestatic 69, 3) := by decide +kernel
theorem dX6_takes_100 : decode cX6_takes 100 = .ok (.ifCond .eq 174, 3) := by decide +kernel
theorem dX6_takes_103 : decode cX6_takes 103 = .ok (.aload_n 0, 1) := by decide +kernel
theorem dX6_takes_104 : decode cX6_takes 104 = .ok (.dup, 1) := by decide +kernel
theorem dX6_takes_105 : decode cX6_takes 105 = .ok (.getfield 85, 3) := by decide +kernel
theorem dX6_takes_108 : decode cX6_takes 108 = .ok (.iconst 1, 1) := by decide +kernel
theorem dX6_takes_109 : decode cX6_takes 109 = .ok (.iadd, 1) := by decide +kernel
theorem dX6_takes_110 : decode cX6_takes 110 = .ok (.putfield 85, 3) := by decide +kernel
theorem dX6_takes_113 : decode cX6_takes 113 = .ok (.goto (-31), 3) := by decide +kernel
theorem dX6_takes_116 : decode cX6_takes 116 = .ok (.iload_n 1, 1) := by decide +kernel
theorem dX6_takes_117 : decode cX6_takes 117 = .ok (.i2l, 1) := by decide +kernel
theorem dX6_takes_118 : decode cX6_takes 118 = .ok (.ldc2_w 107, 3) := by decide +kernel
theorem dX6_takes_121 : decode cX6_takes 121 = .ok (.ldc2_w 109, 3) := by decide +kernel
theorem dX6_takes_124 : decode cX6_takes 124 = .ok (.invokestatic 69, 3) := by decide +kernel
theorem dX6_takes_127 : decode cX6_takes 127 = .ok (.ifCond .eq 116, 3) := by decide +kernel
theorem dX6_takes_130 : decode cX6_takes 130 = .ok (.aload_n 0, 1) := by decide +kernel
theorem dX6_takes_131 : decode cX6_takes 131 = .ok (.iconst 2, 1) := by decide +kernel
theorem dX6_takes_132 : decode cX6_takes 132 = .ok (.putfield 100, 3) := by decide +kernel
theorem dX6_takes_135 : decode cX6_takes 135 = .ok (.aload_n 0, 1) := by decide +kernel
theorem dX6_takes_136 : decode cX6_takes 136 = .ok (.iconst 0, 1) := by decide +kernel
theorem dX6_takes_137 : decode cX6_takes 137 = .ok (.putfield 111, 3) := by decide +kernel
theorem dX6_takes_140 : decode cX6_takes 140 = .ok (.aload_n 0, 1) := by decide +kernel
theorem dX6_takes_141 : decode cX6_takes 141 = .ok (.aload_n 0, 1) := by decide +kernel
theorem dX6_takes_142 : decode cX6_takes 142 = .ok (.getfield 85, 3) := by decide +kernel
theorem dX6_takes_145 : decode cX6_takes 145 = .ok (.invokevirtual 88, 3) := by decide +kernel
theorem dX6_takes_148 : decode cX6_takes 148 = .ok (.i2l, 1) := by decide +kernel
theorem dX6_takes_149 : decode cX6_takes 149 = .ok (.ldc2_w 107, 3) := by decide +kernel
theorem dX6_takes_152 : decode cX6_takes 152 = .ok (.ldc2_w 109, 3) := by decide +kernel
theorem dX6_takes_155 : decode cX6_takes 155 = .ok (.invokestatic 69, 3) := by decide +kernel
theorem dX6_takes_158 : decode cX6_takes 158 = .ok (.ifCond .eq 59, 3) := by decide +kernel
theorem dX6_takes_161 : decode cX6_takes 161 = .ok (.aload_n 0, 1) := by decide +kernel
theorem dX6_takes_162 : decode cX6_takes 162 = .ok (.aload_n 0, 1) := by decide +kernel
theorem dX6_takes_163 : decode cX6_takes 163 = .ok (.getfield 85, 3) := by decide +kernel
theorem dX6_takes_166 : decode cX6_takes 166 = .ok (.aload_n 0, 1) := by decide +kernel
theorem dX6_takes_167 : decode cX6_takes 167 = .ok (.getfield 79, 3) := by decide +kernel
theorem dX6_takes_170 : decode cX6_takes 170 = .ok (.isub, 1) := by decide +kernel
theorem dX6_takes_171 : decode cX6_takes 171 = .ok (.iconst 2, 1) := by decide +kernel
theorem dX6_takes_172 : decode cX6_takes 172 = .ok (.if_icmp .ge 25, 3) := by decide +kernel
theorem dX6_takes_175 : decode cX6_takes 175 = .ok (.bipush 10, 2) := by decide +kernel
theorem dX6_takes_177 : decode cX6_takes 177 = .ok (.aload_n 0, 1) := by decide +kernel
theorem dX6_takes_178 : decode cX6_takes 178 = .ok (.getfield 111, 3) := by decide +kernel
theorem dX6_takes_181 : decode cX6_takes 181 = .ok (.imul, 1) := by decide +kernel
theorem dX6_takes_182 : decode cX6_takes 182 = .ok (.aload_n 0, 1) := by decide +kernel
theorem dX6_takes_183 : decode cX6_takes 183 = .ok (.aload_n 0, 1) := by decide +kernel
theorem dX6_takes_184 : decode cX6_takes 184 = .ok (.getfield 85, 3) := by decide +kernel
theorem dX6_takes_187 : decode cX6_takes 187 = .ok (.invokevirtual 88, 3) := by decide +kernel
theorem dX6_takes_190 : decode cX6_takes 190 = .ok (.iadd, 1) := by decide +kernel
theorem dX6_takes_191 : decode cX6_takes 191 = .ok (.bipush 48, 2) := by decide +kernel
theorem dX6_takes_193 : decode cX6_takes 193 = .ok (.isub, 1) := by decide +kernel
theorem dX6_takes_194 : decode cX6_takes 194 = .ok (.goto 7, 3) := by decide +kernel
theorem dX6_takes_197 : decode cX6_takes 197 = .ok (.aload_n 0, 1) := by decide +kernel
theorem dX6_takes_198 : decode cX6_takes 198 = .ok (.getfield 111, 3) := by decide +kernel
theorem dX6_takes_201 : decode cX6_takes 201 = .ok (.putfield 111, 3) := by decide +kernel
theorem dX6_takes_204 : decode cX6_takes 204 = .ok (.aload_n 0, 1) := by decide +kernel
theorem dX6_takes_205 : decode cX6_takes 205 = .ok (.dup, 1) := by decide +kernel
theorem dX6_takes_206 : decode cX6_takes 206 = .ok (.getfield 85, 3) := by decide +kernel
theorem dX6_takes_209 : decode cX6_takes 209 = .ok (.iconst 1, 1) := by decide +kernel
theorem dX6_takes_210 : decode cX6_takes 210 = .ok (.iadd, 1) := by decide +kernel
theorem dX6_takes_211 : decode cX6_takes 211 = .ok (.putfield 85, 3) := by decide +kernel
theorem dX6_takes_214 : decode cX6_takes 214 = .ok (.goto (-74), 3) := by decide +kernel
theorem dX6_takes_217 : decode cX6_takes 217 = .ok (.aload_n 0, 1) := by decide +kernel
theorem dX6_takes_218 : decode cX6_takes 218 = .ok (.aload_n 0, 1) := by decide +kernel
theorem dX6_takes_219 : decode cX6_takes 219 = .ok (.getfield 85, 3) := by decide +kernel
theorem dX6_takes_222 : decode cX6_takes 222 = .ok (.aload_n 0, 1) := by decide +kernel
theorem dX6_takes_223 : decode cX6_takes 223 = .ok (.getfield 79, 3) := by decide +kernel
theorem dX6_takes_226 : decode cX6_takes 226 = .ok (.isub, 1) := by decide +kernel
theorem dX6_takes_227 : decode cX6_takes 227 = .ok (.iconst 2, 1) := by decide +kernel
theorem dX6_takes_228 : decode cX6_takes 228 = .ok (.if_icmp .gt 7, 3) := by decide +kernel
theorem dX6_takes_231 : decode cX6_takes 231 = .ok (.iconst 1, 1) := by decide +kernel
theorem dX6_takes_232 : decode cX6_takes 232 = .ok (.goto 4, 3) := by decide +kernel
theorem dX6_takes_235 : decode cX6_takes 235 = .ok (.iconst 0, 1) := by decide +kernel
theorem dX6_takes_236 : decode cX6_takes 236 = .ok (.iconst 1, 1) := by decide +kernel
theorem dX6_takes_237 : decode cX6_takes 237 = .ok (.invokevirtual 114, 3) := by decide +kernel
theorem dX6_takes_240 : decode cX6_takes 240 = .ok (.goto 34, 3) := by decide +kernel
theorem dX6_takes_243 : decode cX6_takes 243 = .ok (.aload_n 0, 1) := by decide +kernel
theorem dX6_takes_244 : decode cX6_takes 244 = .ok (.iconst 3, 1) := by decide +kernel
theorem dX6_takes_245 : decode cX6_takes 245 = .ok (.putfield 100, 3) := by decide +kernel
theorem dX6_takes_248 : decode cX6_takes 248 = .ok (.aload_n 0, 1) := by decide +kernel
theorem dX6_takes_249 : decode cX6_takes 249 = .ok (.iload_n 1, 1) := by decide +kernel
theorem dX6_takes_250 : decode cX6_takes 250 = .ok (.bipush 59, 2) := by decide +kernel
theorem dX6_takes_252 : decode cX6_takes 252 = .ok (.if_icmp .ne 7, 3) := by decide +kernel
theorem dX6_takes_255 : decode cX6_takes 255 = .ok (.iconst 1, 1) := by decide +kernel
theorem dX6_takes_256 : decode cX6_takes 256 = .ok (.goto 4, 3) := by decide +kernel
theorem dX6_takes_259 : decode cX6_takes 259 = .ok (.iconst 0, 1) := by decide +kernel
theorem dX6_takes_260 : decode cX6_takes 260 = .ok (.iconst 1, 1) := by decide +kernel
theorem dX6_takes_261 : decode cX6_takes 261 = .ok (.invokevirtual 114, 3) := by decide +kernel
theorem dX6_takes_264 : decode cX6_takes 264 = .ok (.aload_n 0, 1) := by decide +kernel
theorem dX6_takes_265 : decode cX6_takes 265 = .ok (.dup, 1) := by decide +kernel
theorem dX6_takes_266 : decode cX6_takes 266 = .ok (.getfield 85, 3) := by decide +kernel
theorem dX6_takes_269 : decode cX6_takes 269 = .ok (.iconst 1, 1) := by decide +kernel
theorem dX6_takes_270 : decode cX6_takes 270 = .ok (.iadd, 1) := by decide +kernel
theorem dX6_takes_271 : decode cX6_takes 271 = .ok (.putfield 85, 3) := by decide +kernel
theorem dX6_takes_274 : decode cX6_takes 274 = .ok (.return_, 1) := by decide +kernel
theorem dX6_looked_0 : decode cX6_looked 0 = .ok (.aload_n 0, 1) := by decide +kernel
theorem dX6_looked_1 : decode cX6_looked 1 = .ok (.getfield 76, 3) := by decide +kernel
theorem dX6_looked_4 : decode cX6_looked 4 = .ok (.ifCond .ne 21, 3) := by decide +kernel
theorem dX6_looked_7 : decode cX6_looked 7 = .ok (.aload_n 0, 1) := by decide +kernel
theorem dX6_looked_8 : decode cX6_looked 8 = .ok (.aload_n 0, 1) := by decide +kernel
theorem dX6_looked_9 : decode cX6_looked 9 = .ok (.getfield 100, 3) := by decide +kernel
theorem dX6_looked_12 : decode cX6_looked 12 = .ok (.iconst 2, 1) := by decide +kernel
theorem dX6_looked_13 : decode cX6_looked 13 = .ok (.if_icmp .ne 7, 3) := by decide +kernel
theorem dX6_looked_16 : decode cX6_looked 16 = .ok (.iconst 1, 1) := by decide +kernel
theorem dX6_looked_17 : decode cX6_looked 17 = .ok (.goto 4, 3) := by decide +kernel
theorem dX6_looked_20 : decode cX6_looked 20 = .ok (.iconst 0, 1) := by decide +kernel
theorem dX6_looked_21 : decode cX6_looked 21 = .ok (.iconst 2, 1) := by decide +kernel
theorem dX6_looked_22 : decode cX6_looked 22 = .ok (.invokevirtual 114, 3) := by decide +kernel
theorem dX6_looked_25 : decode cX6_looked 25 = .ok (.aload_n 0, 1) := by decide +kernel
theorem dX6_looked_26 : decode cX6_looked 26 = .ok (.getfield 76, 3) := by decide +kernel
theorem dX6_looked_29 : decode cX6_looked 29 = .ok (.ifCond .ne 20, 3) := by decide +kernel
theorem dX6_looked_32 : decode cX6_looked 32 = .ok (.aload_n 0, 1) := by decide +kernel
theorem dX6_looked_33 : decode cX6_looked 33 = .ok (.aload_n 0, 1) := by decide +kernel
theorem dX6_looked_34 : decode cX6_looked 34 = .ok (.getfield 111, 3) := by decide +kernel
theorem dX6_looked_37 : decode cX6_looked 37 = .ok (.i2l, 1) := by decide +kernel
theorem dX6_looked_38 : decode cX6_looked 38 = .ok (.iload_n 1, 1) := by decide +kernel
theorem dX6_looked_39 : decode cX6_looked 39 = .ok (.i2l, 1) := by decide +kernel
theorem dX6_looked_40 : decode cX6_looked 40 = .ok (.iload_n 2, 1) := by decide +kernel
theorem dX6_looked_41 : decode cX6_looked 41 = .ok (.i2l, 1) := by decide +kernel
theorem dX6_looked_42 : decode cX6_looked 42 = .ok (.invokestatic 69, 3) := by decide +kernel
theorem dX6_looked_45 : decode cX6_looked 45 = .ok (.iconst 3, 1) := by decide +kernel
theorem dX6_looked_46 : decode cX6_looked 46 = .ok (.invokevirtual 114, 3) := by decide +kernel
theorem dX6_looked_49 : decode cX6_looked 49 = .ok (.aload_n 0, 1) := by decide +kernel
theorem dX6_looked_50 : decode cX6_looked 50 = .ok (.getfield 76, 3) := by decide +kernel
theorem dX6_looked_53 : decode cX6_looked 53 = .ok (.ifCond .ne 10, 3) := by decide +kernel
theorem dX6_looked_56 : decode cX6_looked 56 = .ok (.aload_n 0, 1) := by decide +kernel
theorem dX6_looked_57 : decode cX6_looked 57 = .ok (.getfield 111, 3) := by decide +kernel
theorem dX6_looked_60 : decode cX6_looked 60 = .ok (.goto 4, 3) := by decide +kernel
theorem dX6_looked_63 : decode cX6_looked 63 = .ok (.iconst 0, 1) := by decide +kernel
theorem dX6_looked_64 : decode cX6_looked 64 = .ok (.ireturn, 1) := by decide +kernel
theorem dX6_readNumber_0 : decode cX6_readNumber 0 = .ok (.aload_n 0, 1) := by decide +kernel
theorem dX6_readNumber_1 : decode cX6_readNumber 1 = .ok (.iload_n 1, 1) := by decide +kernel
theorem dX6_readNumber_2 : decode cX6_readNumber 2 = .ok (.iload_n 2, 1) := by decide +kernel
theorem dX6_readNumber_3 : decode cX6_readNumber 3 = .ok (.invokevirtual 118, 3) := by decide +kernel
theorem dX6_readNumber_6 : decode cX6_readNumber 6 = .ok (.istore_n 3, 1) := by decide +kernel
theorem dX6_readNumber_7 : decode cX6_readNumber 7 = .ok (.aload_n 0, 1) := by decide +kernel
theorem dX6_readNumber_8 : decode cX6_readNumber 8 = .ok (.invokevirtual 122, 3) := by decide +kernel
theorem dX6_readNumber_11 : decode cX6_readNumber 11 = .ok (.iload_n 3, 1) := by decide +kernel
theorem dX6_readNumber_12 : decode cX6_readNumber 12 = .ok (.ireturn, 1) := by decide +kernel
theorem dX6_readWind_0 : decode cX6_readWind 0 = .ok (.aload_n 0, 1) := by decide +kernel
theorem dX6_readWind_1 : decode cX6_readWind 1 = .ok (.iconst 0, 1) := by decide +kernel
theorem dX6_readWind_2 : decode cX6_readWind 2 = .ok (.iconst 4, 1) := by decide +kernel
theorem dX6_readWind_3 : decode cX6_readWind 3 = .ok (.invokevirtual 118, 3) := by decide +kernel
theorem dX6_readWind_6 : decode cX6_readWind 6 = .ok (.istore_n 1, 1) := by decide +kernel
theorem dX6_readWind_7 : decode cX6_readWind 7 = .ok (.aload_n 0, 1) := by decide +kernel
theorem dX6_readWind_8 : decode cX6_readWind 8 = .ok (.aload_n 0, 1) := by decide +kernel
theorem dX6_readWind_9 : decode cX6_readWind 9 = .ok (.getfield 54, 3) := by decide +kernel
theorem dX6_readWind_12 : decode cX6_readWind 12 = .ok (.iload_n 1, 1) := by decide +kernel
theorem dX6_readWind_13 : decode cX6_readWind 13 = .ok (.ishr, 1) := by decide +kernel
theorem dX6_readWind_14 : decode cX6_readWind 14 = .ok (.iconst 1, 1) := by decide +kernel
theorem dX6_readWind_15 : decode cX6_readWind 15 = .ok (.iand, 1) := by decide +kernel
theorem dX6_readWind_16 : decode cX6_readWind 16 = .ok (.ifCond .ne 7, 3) := by decide +kernel
theorem dX6_readWind_19 : decode cX6_readWind 19 = .ok (.iconst 1, 1) := by decide +kernel
theorem dX6_readWind_20 : decode cX6_readWind 20 = .ok (.goto 4, 3) := by decide +kernel
theorem dX6_readWind_23 : decode cX6_readWind 23 = .ok (.iconst 0, 1) := by decide +kernel
theorem dX6_readWind_24 : decode cX6_readWind 24 = .ok (.iconst 4, 1) := by decide +kernel
theorem dX6_readWind_25 : decode cX6_readWind 25 = .ok (.invokevirtual 114, 3) := by decide +kernel
theorem dX6_readWind_28 : decode cX6_readWind 28 = .ok (.aload_n 0, 1) := by decide +kernel
theorem dX6_readWind_29 : decode cX6_readWind 29 = .ok (.dup, 1) := by decide +kernel
theorem dX6_readWind_30 : decode cX6_readWind 30 = .ok (.getfield 54, 3) := by decide +kernel
theorem dX6_readWind_33 : decode cX6_readWind 33 = .ok (.iconst 1, 1) := by decide +kernel
theorem dX6_readWind_34 : decode cX6_readWind 34 = .ok (.iload_n 1, 1) := by decide +kernel
theorem dX6_readWind_35 : decode cX6_readWind 35 = .ok (.ishl, 1) := by decide +kernel
theorem dX6_readWind_36 : decode cX6_readWind 36 = .ok (.ior, 1) := by decide +kernel
theorem dX6_readWind_37 : decode cX6_readWind 37 = .ok (.putfield 54, 3) := by decide +kernel
theorem dX6_readWind_40 : decode cX6_readWind 40 = .ok (.aload_n 0, 1) := by decide +kernel
theorem dX6_readWind_41 : decode cX6_readWind 41 = .ok (.invokevirtual 122, 3) := by decide +kernel
theorem dX6_readWind_44 : decode cX6_readWind 44 = .ok (.aload_n 0, 1) := by decide +kernel
theorem dX6_readWind_45 : decode cX6_readWind 45 = .ok (.getfield 20, 3) := by decide +kernel
theorem dX6_readWind_48 : decode cX6_readWind 48 = .ok (.bipush 28, 2) := by decide +kernel
theorem dX6_readWind_50 : decode cX6_readWind 50 = .ok (.iload_n 1, 1) := by decide +kernel
theorem dX6_readWind_51 : decode cX6_readWind 51 = .ok (.iadd, 1) := by decide +kernel
theorem dX6_readWind_52 : decode cX6_readWind 52 = .ok (.aload_n 0, 1) := by decide +kernel
theorem dX6_readWind_53 : decode cX6_readWind 53 = .ok (.iconst 0, 1) := by decide +kernel
theorem dX6_readWind_54 : decode cX6_readWind 54 = .ok (.bipush 8, 2) := by decide +kernel
theorem dX6_readWind_56 : decode cX6_readWind 56 = .ok (.invokevirtual 125, 3) := by decide +kernel
theorem dX6_readWind_59 : decode cX6_readWind 59 = .ok (.iastore, 1) := by decide +kernel
theorem dX6_readWind_60 : decode cX6_readWind 60 = .ok (.return_, 1) := by decide +kernel
theorem dX6_readLineOf_0 : decode cX6_readLineOf 0 = .ok (.iload_n 1, 1) := by decide +kernel
theorem dX6_readLineOf_1 : decode cX6_readLineOf 1 = .ok (.tableswitch 82 4 6 #[27, 34, 51], 27) := by decide +kernel
theorem dX6_readLineOf_28 : decode cX6_readLineOf 28 = .ok (.aload_n 0, 1) := by decide +kernel
theorem dX6_readLineOf_29 : decode cX6_readLineOf 29 = .ok (.invokevirtual 128, 3) := by decide +kernel
theorem dX6_readLineOf_32 : decode cX6_readLineOf 32 = .ok (.goto 114, 3) := by decide +kernel
theorem dX6_readLineOf_35 : decode cX6_readLineOf 35 = .ok (.aload_n 0, 1) := by decide +kernel
theorem dX6_readLineOf_36 : decode cX6_readLineOf 36 = .ok (.getfield 20, 3) := by decide +kernel
theorem dX6_readLineOf_39 : decode cX6_readLineOf 39 = .ok (.bipush 26, 2) := by decide +kernel
theorem dX6_readLineOf_41 : decode cX6_readLineOf 41 = .ok (.aload_n 0, 1) := by decide +kernel
theorem dX6_readLineOf_42 : decode cX6_readLineOf 42 = .ok (.iconst 1, 1) := by decide +kernel
theorem dX6_readLineOf_43 : decode cX6_readLineOf 43 = .ok (.bipush 9, 2) := by decide +kernel
theorem dX6_readLineOf_45 : decode cX6_readLineOf 45 = .ok (.invokevirtual 125, 3) := by decide +kernel
theorem dX6_readLineOf_48 : decode cX6_readLineOf 48 = .ok (.iastore, 1) := by decide +kernel
theorem dX6_readLineOf_49 : decode cX6_readLineOf 49 = .ok (.goto 97, 3) := by decide +kernel
theorem dX6_readLineOf_52 : decode cX6_readLineOf 52 = .ok (.aload_n 0, 1) := by decide +kernel
theorem dX6_readLineOf_53 : decode cX6_readLineOf 53 = .ok (.getfield 20, 3) := by decide +kernel
theorem dX6_readLineOf_56 : decode cX6_readLineOf 56 = .ok (.bipush 24, 2) := by decide +kernel
theorem dX6_readLineOf_58 : decode cX6_readLineOf 58 = .ok (.aload_n 0, 1) := by decide +kernel
theorem dX6_readLineOf_59 : decode cX6_readLineOf 59 = .ok (.iconst 0, 1) := by decide +kernel
theorem dX6_readLineOf_60 : decode cX6_readLineOf 60 = .ok (.bipush 60, 2) := by decide +kernel
theorem dX6_readLineOf_62 : decode cX6_readLineOf 62 = .ok (.invokevirtual 125, 3) := by decide +kernel
theorem dX6_readLineOf_65 : decode cX6_readLineOf 65 = .ok (.iastore, 1) := by decide +kernel
theorem dX6_readLineOf_66 : decode cX6_readLineOf 66 = .ok (.aload_n 0, 1) := by decide +kernel
theorem dX6_readLineOf_67 : decode cX6_readLineOf 67 = .ok (.getfield 20, 3) := by decide +kernel
theorem dX6_readLineOf_70 : decode cX6_readLineOf 70 = .ok (.bipush 25, 2) := by decide +kernel
theorem dX6_readLineOf_72 : decode cX6_readLineOf 72 = .ok (.aload_n 0, 1) := by decide +kernel
theorem dX6_readLineOf_73 : decode cX6_readLineOf 73 = .ok (.iconst 0, 1) := by decide +kernel
theorem dX6_readLineOf_74 : decode cX6_readLineOf 74 = .ok (.bipush 99, 2) := by decide +kernel
theorem dX6_readLineOf_76 : decode cX6_readLineOf 76 = .ok (.invokevirtual 125, 3) := by decide +kernel
theorem dX6_readLineOf_79 : decode cX6_readLineOf 79 = .ok (.iastore, 1) := by decide +kernel
theorem dX6_readLineOf_80 : decode cX6_readLineOf 80 = .ok (.goto 66, 3) := by decide +kernel
theorem dX6_readLineOf_83 : decode cX6_readLineOf 83 = .ok (.aload_n 0, 1) := by decide +kernel
theorem dX6_readLineOf_84 : decode cX6_readLineOf 84 = .ok (.getfield 20, 3) := by decide +kernel
theorem dX6_readLineOf_87 : decode cX6_readLineOf 87 = .ok (.iconst 4, 1) := by decide +kernel
theorem dX6_readLineOf_88 : decode cX6_readLineOf 88 = .ok (.aload_n 0, 1) := by decide +kernel
theorem dX6_readLineOf_89 : decode cX6_readLineOf 89 = .ok (.getfield 50, 3) := by decide +kernel
theorem dX6_readLineOf_92 : decode cX6_readLineOf 92 = .ok (.imul, 1) := by decide +kernel
theorem dX6_readLineOf_93 : decode cX6_readLineOf 93 = .ok (.iconst 0, 1) := by decide +kernel
theorem dX6_readLineOf_94 : decode cX6_readLineOf 94 = .ok (.iadd, 1) := by decide +kernel
theorem dX6_readLineOf_95 : decode cX6_readLineOf 95 = .ok (.iload_n 1, 1) := by decide +kernel
theorem dX6_readLineOf_96 : decode cX6_readLineOf 96 = .ok (.iastore, 1) := by decide +kernel
theorem dX6_readLineOf_97 : decode cX6_readLineOf 97 = .ok (.aload_n 0, 1) := by decide +kernel
theorem dX6_readLineOf_98 : decode cX6_readLineOf 98 = .ok (.getfield 20, 3) := by decide +kernel
theorem dX6_readLineOf_101 : decode cX6_readLineOf 101 = .ok (.iconst 4, 1) := by decide +kernel
theorem dX6_readLineOf_102 : decode cX6_readLineOf 102 = .ok (.aload_n 0, 1) := by decide +kernel
theorem dX6_readLineOf_103 : decode cX6_readLineOf 103 = .ok (.getfield 50, 3) := by decide +kernel
theorem dX6_readLineOf_106 : decode cX6_readLineOf 106 = .ok (.imul, 1) := by decide +kernel
theorem dX6_readLineOf_107 : decode cX6_readLineOf 107 = .ok (.iconst 1, 1) := by decide +kernel
theorem dX6_readLineOf_108 : decode cX6_readLineOf 108 = .ok (.iadd, 1) := by decide +kernel
theorem dX6_readLineOf_109 : decode cX6_readLineOf 109 = .ok (.aload_n 0, 1) := by decide +kernel
theorem dX6_readLineOf_110 : decode cX6_readLineOf 110 = .ok (.iconst 1, 1) := by decide +kernel
theorem dX6_readLineOf_111 : decode cX6_readLineOf 111 = .ok (.bipush 9, 2) := by decide +kernel
theorem dX6_readLineOf_113 : decode cX6_readLineOf 113 = .ok (.invokevirtual 125, 3) := by decide +kernel
theorem dX6_readLineOf_116 : decode cX6_readLineOf 116 = .ok (.iastore, 1) := by decide +kernel
theorem dX6_readLineOf_117 : decode cX6_readLineOf 117 = .ok (.aload_n 0, 1) := by decide +kernel
theorem dX6_readLineOf_118 : decode cX6_readLineOf 118 = .ok (.getfield 20, 3) := by decide +kernel
theorem dX6_readLineOf_121 : decode cX6_readLineOf 121 = .ok (.iconst 4, 1) := by decide +kernel
theorem dX6_readLineOf_122 : decode cX6_readLineOf 122 = .ok (.aload_n 0, 1) := by decide +kernel
theorem dX6_readLineOf_123 : decode cX6_readLineOf 123 = .ok (.getfield 50, 3) := by decide +kernel
theorem dX6_readLineOf_126 : decode cX6_readLineOf 126 = .ok (.imul, 1) := by decide +kernel
theorem dX6_readLineOf_127 : decode cX6_readLineOf 127 = .ok (.iconst 2, 1) := by decide +kernel
theorem dX6_readLineOf_128 : decode cX6_readLineOf 128 = .ok (.iadd, 1) := by decide +kernel
theorem dX6_readLineOf_129 : decode cX6_readLineOf 129 = .ok (.aload_n 0, 1) := by decide +kernel
theorem dX6_readLineOf_130 : decode cX6_readLineOf 130 = .ok (.iconst 0, 1) := by decide +kernel
theorem dX6_readLineOf_131 : decode cX6_readLineOf 131 = .ok (.iconst 1, 1) := by decide +kernel
theorem dX6_readLineOf_132 : decode cX6_readLineOf 132 = .ok (.invokevirtual 125, 3) := by decide +kernel
theorem dX6_readLineOf_135 : decode cX6_readLineOf 135 = .ok (.iastore, 1) := by decide +kernel
theorem dX6_readLineOf_136 : decode cX6_readLineOf 136 = .ok (.aload_n 0, 1) := by decide +kernel
theorem dX6_readLineOf_137 : decode cX6_readLineOf 137 = .ok (.dup, 1) := by decide +kernel
theorem dX6_readLineOf_138 : decode cX6_readLineOf 138 = .ok (.getfield 50, 3) := by decide +kernel
theorem dX6_readLineOf_141 : decode cX6_readLineOf 141 = .ok (.iconst 1, 1) := by decide +kernel
theorem dX6_readLineOf_142 : decode cX6_readLineOf 142 = .ok (.iadd, 1) := by decide +kernel
theorem dX6_readLineOf_143 : decode cX6_readLineOf 143 = .ok (.putfield 50, 3) := by decide +kernel
theorem dX6_readLineOf_146 : decode cX6_readLineOf 146 = .ok (.return_, 1) := by decide +kernel
theorem dX6_readLine_0 : decode cX6_readLine 0 = .ok (.aload_n 0, 1) := by decide +kernel
theorem dX6_readLine_1 : decode cX6_readLine 1 = .ok (.getfield 100, 3) := by decide +kernel
theorem dX6_readLine_4 : decode cX6_readLine 4 = .ok (.iconst 1, 1) := by decide +kernel
theorem dX6_readLine_5 : decode cX6_readLine 5 = .ok (.if_icmp .ne 10, 3) := by decide +kernel
theorem dX6_readLine_8 : decode cX6_readLine 8 = .ok (.aload_n 0, 1) := by decide +kernel
theorem dX6_readLine_9 : decode cX6_readLine 9 = .ok (.invokevirtual 131, 3) := by decide +kernel
theorem dX6_readLine_12 : decode cX6_readLine 12 = .ok (.goto 5, 3) := by decide +kernel
theorem dX6_readLine_15 : decode cX6_readLine 15 = .ok (.bipush (-4), 2) := by decide +kernel
theorem dX6_readLine_17 : decode cX6_readLine 17 = .ok (.istore_n 1, 1) := by decide +kernel
theorem dX6_readLine_18 : decode cX6_readLine 18 = .ok (.aload_n 0, 1) := by decide +kernel
theorem dX6_readLine_19 : decode cX6_readLine 19 = .ok (.iload_n 1, 1) := by decide +kernel
theorem dX6_readLine_20 : decode cX6_readLine 20 = .ok (.bipush (-4), 2) := by decide +kernel
theorem dX6_readLine_22 : decode cX6_readLine 22 = .ok (.if_icmp .eq 7, 3) := by decide +kernel
theorem dX6_readLine_25 : decode cX6_readLine 25 = .ok (.iconst 1, 1) := by decide +kernel
theorem dX6_readLine_26 : decode cX6_readLine 26 = .ok (.goto 4, 3) := by decide +kernel
theorem dX6_readLine_29 : decode cX6_readLine 29 = .ok (.iconst 0, 1) := by decide +kernel
theorem dX6_readLine_30 : decode cX6_readLine 30 = .ok (.iconst 2, 1) := by decide +kernel
theorem dX6_readLine_31 : decode cX6_readLine 31 = .ok (.invokevirtual 114, 3) := by decide +kernel
theorem dX6_readLine_34 : decode cX6_readLine 34 = .ok (.aload_n 0, 1) := by decide +kernel
theorem dX6_readLine_35 : decode cX6_readLine 35 = .ok (.iload_n 1, 1) := by decide +kernel
theorem dX6_readLine_36 : decode cX6_readLine 36 = .ok (.iconst 4, 1) := by decide +kernel
theorem dX6_readLine_37 : decode cX6_readLine 37 = .ok (.if_icmp .ge 12, 3) := by decide +kernel
theorem dX6_readLine_40 : decode cX6_readLine 40 = .ok (.aload_n 0, 1) := by decide +kernel
theorem dX6_readLine_41 : decode cX6_readLine 41 = .ok (.getfield 50, 3) := by decide +kernel
theorem dX6_readLine_44 : decode cX6_readLine 44 = .ok (.bipush 6, 2) := by decide +kernel
theorem dX6_readLine_46 : decode cX6_readLine 46 = .ok (.if_icmp .ge 7, 3) := by decide +kernel
theorem dX6_readLine_49 : decode cX6_readLine 49 = .ok (.iconst 1, 1) := by decide +kernel
theorem dX6_readLine_50 : decode cX6_readLine 50 = .ok (.goto 4, 3) := by decide +kernel
theorem dX6_readLine_53 : decode cX6_readLine 53 = .ok (.iconst 0, 1) := by decide +kernel
theorem dX6_readLine_54 : decode cX6_readLine 54 = .ok (.iconst 5, 1) := by decide +kernel
theorem dX6_readLine_55 : decode cX6_readLine 55 = .ok (.invokevirtual 114, 3) := by decide +kernel
theorem dX6_readLine_58 : decode cX6_readLine 58 = .ok (.aload_n 0, 1) := by decide +kernel
theorem dX6_readLine_59 : decode cX6_readLine 59 = .ok (.iload_n 1, 1) := by decide +kernel
theorem dX6_readLine_60 : decode cX6_readLine 60 = .ok (.iconst 5, 1) := by decide +kernel
theorem dX6_readLine_61 : decode cX6_readLine 61 = .ok (.if_icmp .ne 10, 3) := by decide +kernel
theorem dX6_readLine_64 : decode cX6_readLine 64 = .ok (.aload_n 0, 1) := by decide +kernel
theorem dX6_readLine_65 : decode cX6_readLine 65 = .ok (.getfield 57, 3) := by decide +kernel
theorem dX6_readLine_68 : decode cX6_readLine 68 = .ok (.ifCond .ne 7, 3) := by decide +kernel
theorem dX6_readLine_71 : decode cX6_readLine 71 = .ok (.iconst 1, 1) := by decide +kernel
theorem dX6_readLine_72 : decode cX6_readLine 72 = .ok (.goto 4, 3) := by decide +kernel
theorem dX6_readLine_75 : decode cX6_readLine 75 = .ok (.iconst 0, 1) := by decide +kernel
theorem dX6_readLine_76 : decode cX6_readLine 76 = .ok (.iconst 4, 1) := by decide +kernel
theorem dX6_readLine_77 : decode cX6_readLine 77 = .ok (.invokevirtual 114, 3) := by decide +kernel
theorem dX6_readLine_80 : decode cX6_readLine 80 = .ok (.aload_n 0, 1) := by decide +kernel
theorem dX6_readLine_81 : decode cX6_readLine 81 = .ok (.iload_n 1, 1) := by decide +kernel
theorem dX6_readLine_82 : decode cX6_readLine 82 = .ok (.bipush 6, 2) := by decide +kernel
theorem dX6_readLine_84 : decode cX6_readLine 84 = .ok (.if_icmp .ne 10, 3) := by decide +kernel
theorem dX6_readLine_87 : decode cX6_readLine 87 = .ok (.aload_n 0, 1) := by decide +kernel
theorem dX6_readLine_88 : decode cX6_readLine 88 = .ok (.getfield 61, 3) := by decide +kernel
theorem dX6_readLine_91 : decode cX6_readLine 91 = .ok (.ifCond .ne 7, 3) := by decide +kernel
theorem dX6_readLine_94 : decode cX6_readLine 94 = .ok (.iconst 1, 1) := by decide +kernel
theorem dX6_readLine_95 : decode cX6_readLine 95 = .ok (.goto 4, 3) := by decide +kernel
theorem dX6_readLine_98 : decode cX6_readLine 98 = .ok (.iconst 0, 1) := by decide +kernel
theorem dX6_readLine_99 : decode cX6_readLine 99 = .ok (.iconst 4, 1) := by decide +kernel
theorem dX6_readLine_100 : decode cX6_readLine 100 = .ok (.invokevirtual 114, 3) := by decide +kernel
theorem dX6_readLine_103 : decode cX6_readLine 103 = .ok (.aload_n 0, 1) := by decide +kernel
theorem dX6_readLine_104 : decode cX6_readLine 104 = .ok (.aload_n 0, 1) := by decide +kernel
theorem dX6_readLine_105 : decode cX6_readLine 105 = .ok (.getfield 57, 3) := by decide +kernel
theorem dX6_readLine_108 : decode cX6_readLine 108 = .ok (.ifCond .ne 8, 3) := by decide +kernel
theorem dX6_readLine_111 : decode cX6_readLine 111 = .ok (.iload_n 1, 1) := by decide +kernel
theorem dX6_readLine_112 : decode cX6_readLine 112 = .ok (.iconst 5, 1) := by decide +kernel
theorem dX6_readLine_113 : decode cX6_readLine 113 = .ok (.if_icmp .ne 7, 3) := by decide +kernel
theorem dX6_readLine_116 : decode cX6_readLine 116 = .ok (.iconst 1, 1) := by decide +kernel
theorem dX6_readLine_117 : decode cX6_readLine 117 = .ok (.goto 4, 3) := by decide +kernel
theorem dX6_readLine_120 : decode cX6_readLine 120 = .ok (.iconst 0, 1) := by decide +kernel
theorem dX6_readLine_121 : decode cX6_readLine 121 = .ok (.putfield 57, 3) := by decide +kernel
theorem dX6_readLine_124 : decode cX6_readLine 124 = .ok (.aload_n 0, 1) := by decide +kernel
theorem dX6_readLine_125 : decode cX6_readLine 125 = .ok (.aload_n 0, 1) := by decide +kernel
theorem dX6_readLine_126 : decode cX6_readLine 126 = .ok (.getfield 61, 3) := by decide +kernel
theorem dX6_readLine_129 : decode cX6_readLine 129 = .ok (.ifCond .ne 9, 3) := by decide +kernel
theorem dX6_readLine_132 : decode cX6_readLine 132 = .ok (.iload_n 1, 1) := by decide +kernel
theorem dX6_readLine_133 : decode cX6_readLine 133 = .ok (.bipush 6, 2) := by decide +kernel
theorem dX6_readLine_135 : decode cX6_readLine 135 = .ok (.if_icmp .ne 7, 3) := by decide +kernel
theorem dX6_readLine_138 : decode cX6_readLine 138 = .ok (.iconst 1, 1) := by decide +kernel
theorem dX6_readLine_139 : decode cX6_readLine 139 = .ok (.goto 4, 3) := by decide +kernel
theorem dX6_readLine_142 : decode cX6_readLine 142 = .ok (.iconst 0, 1) := by decide +kernel
theorem dX6_readLine_143 : decode cX6_readLine 143 = .ok (.putfield 61, 3) := by decide +kernel
theorem dX6_readLine_146 : decode cX6_readLine 146 = .ok (.aload_n 0, 1) := by decide +kernel
theorem dX6_readLine_147 : decode cX6_readLine 147 = .ok (.invokevirtual 122, 3) := by decide +kernel
theorem dX6_readLine_150 : decode cX6_readLine 150 = .ok (.aload_n 0, 1) := by decide +kernel
theorem dX6_readLine_151 : decode cX6_readLine 151 = .ok (.getfield 76, 3) := by decide +kernel
theorem dX6_readLine_154 : decode cX6_readLine 154 = .ok (.ifCond .le 4, 3) := by decide +kernel
theorem dX6_readLine_157 : decode cX6_readLine 157 = .ok (.return_, 1) := by decide +kernel
theorem dX6_readLine_158 : decode cX6_readLine 158 = .ok (.aload_n 0, 1) := by decide +kernel
theorem dX6_readLine_159 : decode cX6_readLine 159 = .ok (.iload_n 1, 1) := by decide +kernel
theorem dX6_readLine_160 : decode cX6_readLine 160 = .ok (.invokevirtual 135, 3) := by decide +kernel
theorem dX6_readLine_163 : decode cX6_readLine 163 = .ok (.aload_n 0, 1) := by decide +kernel
theorem dX6_readLine_164 : decode cX6_readLine 164 = .ok (.getfield 76, 3) := by decide +kernel
theorem dX6_readLine_167 : decode cX6_readLine 167 = .ok (.ifCond .ne 21, 3) := by decide +kernel
theorem dX6_readLine_170 : decode cX6_readLine 170 = .ok (.aload_n 0, 1) := by decide +kernel
theorem dX6_readLine_171 : decode cX6_readLine 171 = .ok (.aload_n 0, 1) := by decide +kernel
theorem dX6_readLine_172 : decode cX6_readLine 172 = .ok (.getfield 100, 3) := by decide +kernel
theorem dX6_readLine_175 : decode cX6_readLine 175 = .ok (.iconst 3, 1) := by decide +kernel
theorem dX6_readLine_176 : decode cX6_readLine 176 = .ok (.if_icmp .ne 7, 3) := by decide +kernel
theorem dX6_readLine_179 : decode cX6_readLine 179 = .ok (.iconst 1, 1) := by decide +kernel
theorem dX6_readLine_180 : decode cX6_readLine 180 = .ok (.goto 4, 3) := by decide +kernel
theorem dX6_readLine_183 : decode cX6_readLine 183 = .ok (.iconst 0, 1) := by decide +kernel
theorem dX6_readLine_184 : decode cX6_readLine 184 = .ok (.iconst 2, 1) := by decide +kernel
theorem dX6_readLine_185 : decode cX6_readLine 185 = .ok (.invokevirtual 114, 3) := by decide +kernel
theorem dX6_readLine_188 : decode cX6_readLine 188 = .ok (.aload_n 0, 1) := by decide +kernel
theorem dX6_readLine_189 : decode cX6_readLine 189 = .ok (.invokevirtual 122, 3) := by decide +kernel
theorem dX6_readLine_192 : decode cX6_readLine 192 = .ok (.return_, 1) := by decide +kernel
theorem dX6_text_0 : decode cX6_text 0 = .ok (.iconst 0, 1) := by decide +kernel
theorem dX6_text_1 : decode cX6_text 1 = .ok (.istore_n 1, 1) := by decide +kernel
theorem dX6_text_2 : decode cX6_text 2 = .ok (.aload_n 0, 1) := by decide +kernel
theorem dX6_text_3 : decode cX6_text 3 = .ok (.iconst 0, 1) := by decide +kernel
theorem dX6_text_4 : decode cX6_text 4 = .ok (.putfield 76, 3) := by decide +kernel
theorem dX6_text_7 : decode cX6_text 7 = .ok (.aload_n 0, 1) := by decide +kernel
theorem dX6_text_8 : decode cX6_text 8 = .ok (.iconst 0, 1) := by decide +kernel
theorem dX6_text_9 : decode cX6_text 9 = .ok (.putfield 85, 3) := by decide +kernel
theorem dX6_text_12 : decode cX6_text 12 = .ok (.aload_n 0, 1) := by decide +kernel
theorem dX6_text_13 : decode cX6_text 13 = .ok (.invokevirtual 44, 3) := by decide +kernel
theorem dX6_text_16 : decode cX6_text 16 = .ok (.aload_n 0, 1) := by decide +kernel
theorem dX6_text_17 : decode cX6_text 17 = .ok (.invokevirtual 122, 3) := by decide +kernel
theorem dX6_text_20 : decode cX6_text 20 = .ok (.aload_n 0, 1) := by decide +kernel
theorem dX6_text_21 : decode cX6_text 21 = .ok (.getfield 76, 3) := by decide +kernel
theorem dX6_text_24 : decode cX6_text 24 = .ok (.ifCond .ne 20, 3) := by decide +kernel
theorem dX6_text_27 : decode cX6_text 27 = .ok (.aload_n 0, 1) := by decide +kernel
theorem dX6_text_28 : decode cX6_text 28 = .ok (.getfield 100, 3) := by decide +kernel
theorem dX6_text_31 : decode cX6_text 31 = .ok (.ifCond .eq 13, 3) := by decide +kernel
theorem dX6_text_34 : decode cX6_text 34 = .ok (.aload_n 0, 1) := by decide +kernel
theorem dX6_text_35 : decode cX6_text 35 = .ok (.invokevirtual 139, 3) := by decide +kernel
theorem dX6_text_38 : decode cX6_text 38 = .ok (.iinc 1 1, 3) := by decide +kernel
theorem dX6_text_41 : decode cX6_text 41 = .ok (.goto (-21), 3) := by decide +kernel
theorem dX6_text_44 : decode cX6_text 44 = .ok (.aload_n 0, 1) := by decide +kernel
theorem dX6_text_45 : decode cX6_text 45 = .ok (.iconst 0, 1) := by decide +kernel
theorem dX6_text_46 : decode cX6_text 46 = .ok (.putfield 73, 3) := by decide +kernel
theorem dX6_text_49 : decode cX6_text 49 = .ok (.aload_n 0, 1) := by decide +kernel
theorem dX6_text_50 : decode cX6_text 50 = .ok (.getfield 76, 3) := by decide +kernel
theorem dX6_text_53 : decode cX6_text 53 = .ok (.ifCond .le 11, 3) := by decide +kernel
theorem dX6_text_56 : decode cX6_text 56 = .ok (.bipush (-10), 2) := by decide +kernel
theorem dX6_text_58 : decode cX6_text 58 = .ok (.aload_n 0, 1) := by decide +kernel
theorem dX6_text_59 : decode cX6_text 59 = .ok (.getfield 82, 3) := by decide +kernel
theorem dX6_text_62 : decode cX6_text 62 = .ok (.isub, 1) := by decide +kernel
theorem dX6_text_63 : decode cX6_text 63 = .ok (.ireturn, 1) := by decide +kernel
theorem dX6_text_64 : decode cX6_text 64 = .ok (.aload_n 0, 1) := by decide +kernel
theorem dX6_text_65 : decode cX6_text 65 = .ok (.invokevirtual 47, 3) := by decide +kernel
theorem dX6_text_68 : decode cX6_text 68 = .ok (.iload_n 1, 1) := by decide +kernel
theorem dX6_text_69 : decode cX6_text 69 = .ok (.ireturn, 1) := by decide +kernel
theorem dX6_fault_0 : decode cX6_fault 0 = .ok (.aload_n 0, 1) := by decide +kernel
theorem dX6_fault_1 : decode cX6_fault 1 = .ok (.getfield 76, 3) := by decide +kernel
theorem dX6_fault_4 : decode cX6_fault 4 = .ok (.ireturn, 1) := by decide +kernel
theorem dX6_isThing_0 : decode cX6_isThing 0 = .ok (.iload_n 1, 1) := by decide +kernel
theorem dX6_isThing_1 : decode cX6_isThing 1 = .ok (.i2l, 1) := by decide +kernel
theorem dX6_isThing_2 : decode cX6_isThing 2 = .ok (.lconst 0, 1) := by decide +kernel
theorem dX6_isThing_3 : decode cX6_isThing 3 = .ok (.aload_n 0, 1) := by decide +kernel
theorem dX6_isThing_4 : decode cX6_isThing 4 = .ok (.getfield 64, 3) := by decide +kernel
theorem dX6_isThing_7 : decode cX6_isThing 7 = .ok (.iconst 1, 1) := by decide +kernel
theorem dX6_isThing_8 : decode cX6_isThing 8 = .ok (.isub, 1) := by decide +kernel
theorem dX6_isThing_9 : decode cX6_isThing 9 = .ok (.i2l, 1) := by decide +kernel
theorem dX6_isThing_10 : decode cX6_isThing 10 = .ok (.invokestatic 69, 3) := by decide +kernel
theorem dX6_isThing_13 : decode cX6_isThing 13 = .ok (.ireturn, 1) := by decide +kernel
theorem dX6_isWind_0 : decode cX6_isWind 0 = .ok (.iload_n 0, 1) := by decide +kernel
theorem dX6_isWind_1 : decode cX6_isWind 1 = .ok (.i2l, 1) := by decide +kernel
theorem dX6_isWind_2 : decode cX6_isWind 2 = .ok (.lconst 0, 1) := by decide +kernel
theorem dX6_isWind_3 : decode cX6_isWind 3 = .ok (.ldc2_w 142, 3) := by decide +kernel
theorem dX6_isWind_6 : decode cX6_isWind 6 = .ok (.invokestatic 69, 3) := by decide +kernel
theorem dX6_isWind_9 : decode cX6_isWind 9 = .ok (.ireturn, 1) := by decide +kernel
theorem dX6_isPlace_0 : decode cX6_isPlace 0 = .ok (.iload_n 0, 1) := by decide +kernel
theorem dX6_isPlace_1 : decode cX6_isPlace 1 = .ok (.i2l, 1) := by decide +kernel
theorem dX6_isPlace_2 : decode cX6_isPlace 2 = .ok (.lconst 0, 1) := by decide +kernel
theorem dX6_isPlace_3 : decode cX6_isPlace 3 = .ok (.ldc2_w 144, 3) := by decide +kernel
theorem dX6_isPlace_6 : decode cX6_isPlace 6 = .ok (.invokestatic 69, 3) := by decide +kernel
theorem dX6_isPlace_9 : decode cX6_isPlace 9 = .ok (.ireturn, 1) := by decide +kernel
theorem dX6_isPart_0 : decode cX6_isPart 0 = .ok (.iload_n 0, 1) := by decide +kernel
theorem dX6_isPart_1 : decode cX6_isPart 1 = .ok (.i2l, 1) := by decide +kernel
theorem dX6_isPart_2 : decode cX6_isPart 2 = .ok (.lconst 0, 1) := by decide +kernel
theorem dX6_isPart_3 : decode cX6_isPart 3 = .ok (.lconst 1, 1) := by decide +kernel
theorem dX6_isPart_4 : decode cX6_isPart 4 = .ok (.invokestatic 69, 3) := by decide +kernel
theorem dX6_isPart_7 : decode cX6_isPart 7 = .ok (.ireturn, 1) := by decide +kernel
theorem dX6_starts_0 : decode cX6_starts 0 = .ok (.iconst 0, 1) := by decide +kernel
theorem dX6_starts_1 : decode cX6_starts 1 = .ok (.istore_n 1, 1) := by decide +kernel
theorem dX6_starts_2 : decode cX6_starts 2 = .ok (.iload_n 1, 1) := by decide +kernel
theorem dX6_starts_3 : decode cX6_starts 3 = .ok (.bipush 63, 2) := by decide +kernel
theorem dX6_starts_5 : decode cX6_starts 5 = .ok (.if_icmp .ge 21, 3) := by decide +kernel
theorem dX6_starts_8 : decode cX6_starts 8 = .ok (.aload_n 0, 1) := by decide +kernel
theorem dX6_starts_9 : decode cX6_starts 9 = .ok (.getfield 13, 3) := by decide +kernel
theorem dX6_starts_12 : decode cX6_starts 12 = .ok (.iload_n 1, 1) := by decide +kernel
theorem dX6_starts_13 : decode cX6_starts 13 = .ok (.aload_n 0, 1) := by decide +kernel
theorem dX6_starts_14 : decode cX6_starts 14 = .ok (.getfield 7, 3) := by decide +kernel
theorem dX6_starts_17 : decode cX6_starts 17 = .ok (.iload_n 1, 1) := by decide +kernel
theorem dX6_starts_18 : decode cX6_starts 18 = .ok (.iaload, 1) := by decide +kernel
theorem dX6_starts_19 : decode cX6_starts 19 = .ok (.iastore, 1) := by decide +kernel
theorem dX6_starts_20 : decode cX6_starts 20 = .ok (.iinc 1 1, 3) := by decide +kernel
theorem dX6_starts_23 : decode cX6_starts 23 = .ok (.goto (-21), 3) := by decide +kernel
theorem dX6_starts_26 : decode cX6_starts 26 = .ok (.aload_n 0, 1) := by decide +kernel
theorem dX6_starts_27 : decode cX6_starts 27 = .ok (.iconst 0, 1) := by decide +kernel
theorem dX6_starts_28 : decode cX6_starts 28 = .ok (.putfield 146, 3) := by decide +kernel
theorem dX6_starts_31 : decode cX6_starts 31 = .ok (.aload_n 0, 1) := by decide +kernel
theorem dX6_starts_32 : decode cX6_starts 32 = .ok (.bipush (-4), 2) := by decide +kernel
theorem dX6_starts_34 : decode cX6_starts 34 = .ok (.putfield 149, 3) := by decide +kernel
theorem dX6_starts_37 : decode cX6_starts 37 = .ok (.return_, 1) := by decide +kernel
theorem dX6_settles_0 : decode cX6_settles 0 = .ok (.iconst 0, 1) := by decide +kernel
theorem dX6_settles_1 : decode cX6_settles 1 = .ok (.istore_n 1, 1) := by decide +kernel
theorem dX6_settles_2 : decode cX6_settles 2 = .ok (.iload_n 1, 1) := by decide +kernel
theorem dX6_settles_3 : decode cX6_settles 3 = .ok (.bipush 63, 2) := by decide +kernel
theorem dX6_settles_5 : decode cX6_settles 5 = .ok (.if_icmp .ge 21, 3) := by decide +kernel
theorem dX6_settles_8 : decode cX6_settles 8 = .ok (.aload_n 0, 1) := by decide +kernel
theorem dX6_settles_9 : decode cX6_settles 9 = .ok (.getfield 7, 3) := by decide +kernel
theorem dX6_settles_12 : decode cX6_settles 12 = .ok (.iload_n 1, 1) := by decide +kernel
theorem dX6_settles_13 : decode cX6_settles 13 = .ok (.aload_n 0, 1) := by decide +kernel
theorem dX6_settles_14 : decode cX6_settles 14 = .ok (.getfield 13, 3) := by decide +kernel
theorem dX6_settles_17 : decode cX6_settles 17 = .ok (.iload_n 1, 1) := by decide +kernel
theorem dX6_settles_18 : decode cX6_settles 18 = .ok (.iaload, 1) := by decide +kernel
theorem dX6_settles_19 : decode cX6_settles 19 = .ok (.iastore, 1) := by decide +kernel
theorem dX6_settles_20 : decode cX6_settles 20 = .ok (.iinc 1 1, 3) := by decide +kernel
theorem dX6_settles_23 : decode cX6_settles 23 = .ok (.goto (-21), 3) := by decide +kernel
theorem dX6_settles_26 : decode cX6_settles 26 = .ok (.return_, 1) := by decide +kernel
theorem dX6_of_0 : decode cX6_of 0 = .ok (.aload_n 0, 1) := by decide +kernel
theorem dX6_of_1 : decode cX6_of 1 = .ok (.getfield 13, 3) := by decide +kernel
theorem dX6_of_4 : decode cX6_of 4 = .ok (.iconst 4, 1) := by decide +kernel
theorem dX6_of_5 : decode cX6_of 5 = .ok (.iload_n 1, 1) := by decide +kernel
theorem dX6_of_6 : decode cX6_of 6 = .ok (.imul, 1) := by decide +kernel
theorem dX6_of_7 : decode cX6_of 7 = .ok (.iload_n 2, 1) := by decide +kernel
theorem dX6_of_8 : decode cX6_of 8 = .ok (.iadd, 1) := by decide +kernel
theorem dX6_of_9 : decode cX6_of 9 = .ok (.iaload, 1) := by decide +kernel
theorem dX6_of_10 : decode cX6_of 10 = .ok (.ireturn, 1) := by decide +kernel
theorem dX6_becomesOf_0 : decode cX6_becomesOf 0 = .ok (.aload_n 0, 1) := by decide +kernel
theorem dX6_becomesOf_1 : decode cX6_becomesOf 1 = .ok (.getfield 13, 3) := by decide +kernel
theorem dX6_becomesOf_4 : decode cX6_becomesOf 4 = .ok (.iconst 4, 1) := by decide +kernel
theorem dX6_becomesOf_5 : decode cX6_becomesOf 5 = .ok (.iload_n 1, 1) := by decide +kernel
theorem dX6_becomesOf_6 : decode cX6_becomesOf 6 = .ok (.imul, 1) := by decide +kernel
theorem dX6_becomesOf_7 : decode cX6_becomesOf 7 = .ok (.iload_n 2, 1) := by decide +kernel
theorem dX6_becomesOf_8 : decode cX6_becomesOf 8 = .ok (.iadd, 1) := by decide +kernel
theorem dX6_becomesOf_9 : decode cX6_becomesOf 9 = .ok (.iload_n 3, 1) := by decide +kernel
theorem dX6_becomesOf_10 : decode cX6_becomesOf 10 = .ok (.iastore, 1) := by decide +kernel
theorem dX6_becomesOf_11 : decode cX6_becomesOf 11 = .ok (.return_, 1) := by decide +kernel
theorem dX6_liftOf_0 : decode cX6_liftOf 0 = .ok (.aload_n 0, 1) := by decide +kernel
theorem dX6_liftOf_1 : decode cX6_liftOf 1 = .ok (.iload_n 1, 1) := by decide +kernel
theorem dX6_liftOf_2 : decode cX6_liftOf 2 = .ok (.iconst 1, 1) := by decide +kernel
theorem dX6_liftOf_3 : decode cX6_liftOf 3 = .ok (.invokevirtual 152, 3) := by decide +kernel
theorem dX6_liftOf_6 : decode cX6_liftOf 6 = .ok (.istore_n 2, 1) := by decide +kernel
theorem dX6_liftOf_7 : decode cX6_liftOf 7 = .ok (.aload_n 0, 1) := by decide +kernel
theorem dX6_liftOf_8 : decode cX6_liftOf 8 = .ok (.iload_n 1, 1) := by decide +kernel
theorem dX6_liftOf_9 : decode cX6_liftOf 9 = .ok (.iconst 3, 1) := by decide +kernel
theorem dX6_liftOf_10 : decode cX6_liftOf 10 = .ok (.invokevirtual 152, 3) := by decide +kernel
theorem dX6_liftOf_13 : decode cX6_liftOf 13 = .ok (.iconst 1, 1) := by decide +kernel
theorem dX6_liftOf_14 : decode cX6_liftOf 14 = .ok (.if_icmp .ne 7, 3) := by decide +kernel
theorem dX6_liftOf_17 : decode cX6_liftOf 17 = .ok (.iconst 1, 1) := by decide +kernel
theorem dX6_liftOf_18 : decode cX6_liftOf 18 = .ok (.goto 4, 3) := by decide +kernel
theorem dX6_liftOf_21 : decode cX6_liftOf 21 = .ok (.iconst 0, 1) := by decide +kernel
theorem dX6_liftOf_22 : decode cX6_liftOf 22 = .ok (.istore_n 3, 1) := by decide +kernel
theorem dX6_liftOf_23 : decode cX6_liftOf 23 = .ok (.aload_n 0, 1) := by decide +kernel
theorem dX6_liftOf_24 : decode cX6_liftOf 24 = .ok (.iload_n 1, 1) := by decide +kernel
theorem dX6_liftOf_25 : decode cX6_liftOf 25 = .ok (.iconst 0, 1) := by decide +kernel
theorem dX6_liftOf_26 : decode cX6_liftOf 26 = .ok (.invokevirtual 152, 3) := by decide +kernel
theorem dX6_liftOf_29 : decode cX6_liftOf 29 = .ok (.tableswitch 64 1 3 #[27, 39, 51], 27) := by decide +kernel
theorem dX6_liftOf_56 : decode cX6_liftOf 56 = .ok (.iload_n 3, 1) := by decide +kernel
theorem dX6_liftOf_57 : decode cX6_liftOf 57 = .ok (.ifCond .eq 9, 3) := by decide +kernel
theorem dX6_liftOf_60 : decode cX6_liftOf 60 = .ok (.iload_n 2, 1) := by decide +kernel
theorem dX6_liftOf_61 : decode cX6_liftOf 61 = .ok (.iconst 2, 1) := by decide +kernel
theorem dX6_liftOf_62 : decode cX6_liftOf 62 = .ok (.idiv, 1) := by decide +kernel
theorem dX6_liftOf_63 : decode cX6_liftOf 63 = .ok (.goto 4, 3) := by decide +kernel
theorem dX6_liftOf_66 : decode cX6_liftOf 66 = .ok (.iload_n 2, 1) := by decide +kernel
theorem dX6_liftOf_67 : decode cX6_liftOf 67 = .ok (.ireturn, 1) := by decide +kernel
theorem dX6_liftOf_68 : decode cX6_liftOf 68 = .ok (.iload_n 3, 1) := by decide +kernel
theorem dX6_liftOf_69 : decode cX6_liftOf 69 = .ok (.ifCond .eq 7, 3) := by decide +kernel
theorem dX6_liftOf_72 : decode cX6_liftOf 72 = .ok (.iconst 0, 1) := by decide +kernel
theorem dX6_liftOf_73 : decode cX6_liftOf 73 = .ok (.goto 6, 3) := by decide +kernel
theorem dX6_liftOf_76 : decode cX6_liftOf 76 = .ok (.iconst 2, 1) := by decide +kernel
theorem dX6_liftOf_77 : decode cX6_liftOf 77 = .ok (.iload_n 2, 1) := by decide +kernel
theorem dX6_liftOf_78 : decode cX6_liftOf 78 = .ok (.imul, 1) := by decide +kernel
theorem dX6_liftOf_79 : decode cX6_liftOf 79 = .ok (.ireturn, 1) := by decide +kernel
theorem dX6_liftOf_80 : decode cX6_liftOf 80 = .ok (.iload_n 3, 1) := by decide +kernel
theorem dX6_liftOf_81 : decode cX6_liftOf 81 = .ok (.ifCond .eq 10, 3) := by decide +kernel
theorem dX6_liftOf_84 : decode cX6_liftOf 84 = .ok (.iload_n 2, 1) := by decide +kernel
theorem dX6_liftOf_85 : decode cX6_liftOf 85 = .ok (.iconst 2, 1) := by decide +kernel
theorem dX6_liftOf_86 : decode cX6_liftOf 86 = .ok (.idiv, 1) := by decide +kernel
theorem dX6_liftOf_87 : decode cX6_liftOf 87 = .ok (.ineg, 1) := by decide +kernel
theorem dX6_liftOf_88 : decode cX6_liftOf 88 = .ok (.goto 4, 3) := by decide +kernel
theorem dX6_liftOf_91 : decode cX6_liftOf 91 = .ok (.iload_n 2, 1) := by decide +kernel
theorem dX6_liftOf_92 : decode cX6_liftOf 92 = .ok (.ireturn, 1) := by decide +kernel
theorem dX6_liftOf_93 : decode cX6_liftOf 93 = .ok (.iload_n 3, 1) := by decide +kernel
theorem dX6_liftOf_94 : decode cX6_liftOf 94 = .ok (.ifCond .eq 7, 3) := by decide +kernel
theorem dX6_liftOf_97 : decode cX6_liftOf 97 = .ok (.iconst 0, 1) := by decide +kernel
theorem dX6_liftOf_98 : decode cX6_liftOf 98 = .ok (.goto 4, 3) := by decide +kernel
theorem dX6_liftOf_101 : decode cX6_liftOf 101 = .ok (.iload_n 2, 1) := by decide +kernel
theorem dX6_liftOf_102 : decode cX6_liftOf 102 = .ok (.ireturn, 1) := by decide +kernel
theorem dX6_liftNow_0 : decode cX6_liftNow 0 = .ok (.iconst 0, 1) := by decide +kernel
theorem dX6_liftNow_1 : decode cX6_liftNow 1 = .ok (.istore_n 1, 1) := by decide +kernel
theorem dX6_liftNow_2 : decode cX6_liftNow 2 = .ok (.iconst 0, 1) := by decide +kernel
theorem dX6_liftNow_3 : decode cX6_liftNow 3 = .ok (.istore_n 2, 1) := by decide +kernel
theorem dX6_liftNow_4 : decode cX6_liftNow 4 = .ok (.iload_n 2, 1) := by decide +kernel
theorem dX6_liftNow_5 : decode cX6_liftNow 5 = .ok (.aload_n 0, 1) := by decide +kernel
theorem dX6_liftNow_6 : decode cX6_liftNow 6 = .ok (.getfield 64, 3) := by decide +kernel
theorem dX6_liftNow_9 : decode cX6_liftNow 9 = .ok (.if_icmp .ge 17, 3) := by decide +kernel
theorem dX6_liftNow_12 : decode cX6_liftNow 12 = .ok (.iload_n 1, 1) := by decide +kernel
theorem dX6_liftNow_13 : decode cX6_liftNow 13 = .ok (.aload_n 0, 1) := by decide +kernel
theorem dX6_liftNow_14 : decode cX6_liftNow 14 = .ok (.iload_n 2, 1) := by decide +kernel
theorem dX6_liftNow_15 : decode cX6_liftNow 15 = .ok (.invokevirtual 155, 3) := by decide +kernel
theorem dX6_liftNow_18 : decode cX6_liftNow 18 = .ok (.iadd, 1) := by decide +kernel
theorem dX6_liftNow_19 : decode cX6_liftNow 19 = .ok (.istore_n 1, 1) := by decide +kernel
theorem dX6_liftNow_20 : decode cX6_liftNow 20 = .ok (.iinc 2 1, 3) := by decide +kernel
theorem dX6_liftNow_23 : decode cX6_liftNow 23 = .ok (.goto (-19), 3) := by decide +kernel
theorem dX6_liftNow_26 : decode cX6_liftNow 26 = .ok (.iload_n 1, 1) := by decide +kernel
theorem dX6_liftNow_27 : decode cX6_liftNow 27 = .ok (.iconst 0, 1) := by decide +kernel
theorem dX6_liftNow_28 : decode cX6_liftNow 28 = .ok (.bipush 60, 2) := by decide +kernel
theorem dX6_liftNow_30 : decode cX6_liftNow 30 = .ok (.invokestatic 158, 3) := by decide +kernel
theorem dX6_liftNow_33 : decode cX6_liftNow 33 = .ok (.ireturn, 1) := by decide +kernel
theorem dX6_saidNow_0 : decode cX6_saidNow 0 = .ok (.iconst 0, 1) := by decide +kernel
theorem dX6_saidNow_1 : decode cX6_saidNow 1 = .ok (.istore_n 1, 1) := by decide +kernel
theorem dX6_saidNow_2 : decode cX6_saidNow 2 = .ok (.iconst 0, 1) := by decide +kernel
theorem dX6_saidNow_3 : decode cX6_saidNow 3 = .ok (.istore_n 2, 1) := by decide +kernel
theorem dX6_saidNow_4 : decode cX6_saidNow 4 = .ok (.iload_n 2, 1) := by decide +kernel
theorem dX6_saidNow_5 : decode cX6_saidNow 5 = .ok (.aload_n 0, 1) := by decide +kernel
theorem dX6_saidNow_6 : decode cX6_saidNow 6 = .ok (.getfield 64, 3) := by decide +kernel
theorem dX6_saidNow_9 : decode cX6_saidNow 9 = .ok (.if_icmp .ge 20, 3) := by decide +kernel
theorem dX6_saidNow_12 : decode cX6_saidNow 12 = .ok (.iload_n 1, 1) := by decide +kernel
theorem dX6_saidNow_13 : decode cX6_saidNow 13 = .ok (.aload_n 0, 1) := by decide +kernel
theorem dX6_saidNow_14 : decode cX6_saidNow 14 = .ok (.iload_n 2, 1) := by decide +kernel
theorem dX6_saidNow_15 : decode cX6_saidNow 15 = .ok (.iconst 3, 1) := by decide +kernel
theorem dX6_saidNow_16 : decode cX6_saidNow 16 = .ok (.invokevirtual 152, 3) := by decide +kernel
theorem dX6_saidNow_19 : decode cX6_saidNow 19 = .ok (.iload_n 2, 1) := by decide +kernel
theorem dX6_saidNow_20 : decode cX6_saidNow 20 = .ok (.ishl, 1) := by decide +kernel
theorem dX6_saidNow_21 : decode cX6_saidNow 21 = .ok (.ior, 1) := by decide +kernel
theorem dX6_saidNow_22 : decode cX6_saidNow 22 = .ok (.istore_n 1, 1) := by decide +kernel
theorem dX6_saidNow_23 : decode cX6_saidNow 23 = .ok (.iinc 2 1, 3) := by decide +kernel
theorem dX6_saidNow_26 : decode cX6_saidNow 26 = .ok (.goto (-22), 3) := by decide +kernel
theorem dX6_saidNow_29 : decode cX6_saidNow 29 = .ok (.iload_n 1, 1) := by decide +kernel
theorem dX6_saidNow_30 : decode cX6_saidNow 30 = .ok (.ireturn, 1) := by decide +kernel
theorem dX6_minuteGoes_0 : decode cX6_minuteGoes 0 = .ok (.iconst 0, 1) := by decide +kernel
theorem dX6_minuteGoes_1 : decode cX6_minuteGoes 1 = .ok (.istore_n 1, 1) := by decide +kernel
theorem dX6_minuteGoes_2 : decode cX6_minuteGoes 2 = .ok (.iload_n 1, 1) := by decide +kernel
theorem dX6_minuteGoes_3 : decode cX6_minuteGoes 3 = .ok (.aload_n 0, 1) := by decide +kernel
theorem dX6_minuteGoes_4 : decode cX6_minuteGoes 4 = .ok (.getfield 13, 3) := by decide +kernel
theorem dX6_minuteGoes_7 : decode cX6_minuteGoes 7 = .ok (.bipush 33, 2) := by decide +kernel
theorem dX6_minuteGoes_9 : decode cX6_minuteGoes 9 = .ok (.iaload, 1) := by decide +kernel
theorem dX6_minuteGoes_10 : decode cX6_minuteGoes 10 = .ok (.if_icmp .ge 60, 3) := by decide +kernel
theorem dX6_minuteGoes_13 : decode cX6_minuteGoes 13 = .ok (.aload_n 0, 1) := by decide +kernel
theorem dX6_minuteGoes_14 : decode cX6_minuteGoes 14 = .ok (.getfield 146, 3) := by decide +kernel
theorem dX6_minuteGoes_17 : decode cX6_minuteGoes 17 = .ok (.iload_n 1, 1) := by decide +kernel
theorem dX6_minuteGoes_18 : decode cX6_minuteGoes 18 = .ok (.ishr, 1) := by decide +kernel
theorem dX6_minuteGoes_19 : decode cX6_minuteGoes 19 = .ok (.iconst 1, 1) := by decide +kernel
theorem dX6_minuteGoes_20 : decode cX6_minuteGoes 20 = .ok (.iand, 1) := by decide +kernel
theorem dX6_minuteGoes_21 : decode cX6_minuteGoes 21 = .ok (.ifCond .ne 43, 3) := by decide +kernel
theorem dX6_minuteGoes_24 : decode cX6_minuteGoes 24 = .ok (.aload_n 0, 1) := by decide +kernel
theorem dX6_minuteGoes_25 : decode cX6_minuteGoes 25 = .ok (.getfield 13, 3) := by decide +kernel
theorem dX6_minuteGoes_28 : decode cX6_minuteGoes 28 = .ok (.bipush 34, 2) := by decide +kernel
theorem dX6_minuteGoes_30 : decode cX6_minuteGoes 30 = .ok (.iconst 2, 1) := by decide +kernel
theorem dX6_minuteGoes_31 : decode cX6_minuteGoes 31 = .ok (.iload_n 1, 1) := by decide +kernel
theorem dX6_minuteGoes_32 : decode cX6_minuteGoes 32 = .ok (.imul, 1) := by decide +kernel
theorem dX6_minuteGoes_33 : decode cX6_minuteGoes 33 = .ok (.iadd, 1) := by decide +kernel
theorem dX6_minuteGoes_34 : decode cX6_minuteGoes 34 = .ok (.iaload, 1) := by decide +kernel
theorem dX6_minuteGoes_35 : decode cX6_minuteGoes 35 = .ok (.aload_n 0, 1) := by decide +kernel
theorem dX6_minuteGoes_36 : decode cX6_minuteGoes 36 = .ok (.getfield 13, 3) := by decide +kernel
theorem dX6_minuteGoes_39 : decode cX6_minuteGoes 39 = .ok (.bipush 27, 2) := by decide +kernel
theorem dX6_minuteGoes_41 : decode cX6_minuteGoes 41 = .ok (.iaload, 1) := by decide +kernel
theorem dX6_minuteGoes_42 : decode cX6_minuteGoes 42 = .ok (.if_icmp .ne 22, 3) := by decide +kernel
theorem dX6_minuteGoes_45 : decode cX6_minuteGoes 45 = .ok (.aload_n 0, 1) := by decide +kernel
theorem dX6_minuteGoes_46 : decode cX6_minuteGoes 46 = .ok (.aload_n 0, 1) := by decide +kernel
theorem dX6_minuteGoes_47 : decode cX6_minuteGoes 47 = .ok (.getfield 13, 3) := by decide +kernel
theorem dX6_minuteGoes_50 : decode cX6_minuteGoes 50 = .ok (.bipush 34, 2) := by decide +kernel
theorem dX6_minuteGoes_52 : decode cX6_minuteGoes 52 = .ok (.iconst 2, 1) := by decide +kernel
theorem dX6_minuteGoes_53 : decode cX6_minuteGoes 53 = .ok (.iload_n 1, 1) := by decide +kernel
theorem dX6_minuteGoes_54 : decode cX6_minuteGoes 54 = .ok (.imul, 1) := by decide +kernel
theorem dX6_minuteGoes_55 : decode cX6_minuteGoes 55 = .ok (.iadd, 1) := by decide +kernel
theorem dX6_minuteGoes_56 : decode cX6_minuteGoes 56 = .ok (.iconst 1, 1) := by decide +kernel
theorem dX6_minuteGoes_57 : decode cX6_minuteGoes 57 = .ok (.iadd, 1) := by decide +kernel
theorem dX6_minuteGoes_58 : decode cX6_minuteGoes 58 = .ok (.iaload, 1) := by decide +kernel
theorem dX6_minuteGoes_59 : decode cX6_minuteGoes 59 = .ok (.iconst 3, 1) := by decide +kernel
theorem dX6_minuteGoes_60 : decode cX6_minuteGoes 60 = .ok (.iconst 1, 1) := by decide +kernel
theorem dX6_minuteGoes_61 : decode cX6_minuteGoes 61 = .ok (.invokevirtual 162, 3) := by decide +kernel
theorem dX6_minuteGoes_64 : decode cX6_minuteGoes 64 = .ok (.iinc 1 1, 3) := by decide +kernel
theorem dX6_minuteGoes_67 : decode cX6_minuteGoes 67 = .ok (.goto (-65), 3) := by decide +kernel
theorem dX6_minuteGoes_70 : decode cX6_minuteGoes 70 = .ok (.aload_n 0, 1) := by decide +kernel
theorem dX6_minuteGoes_71 : decode cX6_minuteGoes 71 = .ok (.getfield 149, 3) := by decide +kernel
theorem dX6_minuteGoes_74 : decode cX6_minuteGoes 74 = .ok (.bipush (-4), 2) := by decide +kernel
theorem dX6_minuteGoes_76 : decode cX6_minuteGoes 76 = .ok (.if_icmp .eq 27, 3) := by decide +kernel
theorem dX6_minuteGoes_79 : decode cX6_minuteGoes 79 = .ok (.aload_n 0, 1) := by decide +kernel
theorem dX6_minuteGoes_80 : decode cX6_minuteGoes 80 = .ok (.getfield 166, 3) := by decide +kernel
theorem dX6_minuteGoes_83 : decode cX6_minuteGoes 83 = .ok (.aload_n 0, 1) := by decide +kernel
theorem dX6_minuteGoes_84 : decode cX6_minuteGoes 84 = .ok (.getfield 13, 3) := by decide +kernel
theorem dX6_minuteGoes_87 : decode cX6_minuteGoes 87 = .ok (.bipush 27, 2) := by decide +kernel
theorem dX6_minuteGoes_89 : decode cX6_minuteGoes 89 = .ok (.iaload, 1) := by decide +kernel
theorem dX6_minuteGoes_90 : decode cX6_minuteGoes 90 = .ok (.if_icmp .ne 13, 3) := by decide +kernel
theorem dX6_minuteGoes_93 : decode cX6_minuteGoes 93 = .ok (.aload_n 0, 1) := by decide +kernel
theorem dX6_minuteGoes_94 : decode cX6_minuteGoes 94 = .ok (.aload_n 0, 1) := by decide +kernel
theorem dX6_minuteGoes_95 : decode cX6_minuteGoes 95 = .ok (.getfield 149, 3) := by decide +kernel
theorem dX6_minuteGoes_98 : decode cX6_minuteGoes 98 = .ok (.iconst 3, 1) := by decide +kernel
theorem dX6_minuteGoes_99 : decode cX6_minuteGoes 99 = .ok (.iconst 1, 1) := by decide +kernel
theorem dX6_minuteGoes_100 : decode cX6_minuteGoes 100 = .ok (.invokevirtual 162, 3) := by decide +kernel
theorem dX6_minuteGoes_103 : decode cX6_minuteGoes 103 = .ok (.aload_n 0, 1) := by decide +kernel
theorem dX6_minuteGoes_104 : decode cX6_minuteGoes 104 = .ok (.invokevirtual 169, 3) := by decide +kernel
theorem dX6_minuteGoes_107 : decode cX6_minuteGoes 107 = .ok (.istore_n 1, 1) := by decide +kernel
theorem dX6_minuteGoes_108 : decode cX6_minuteGoes 108 = .ok (.aload_n 0, 1) := by decide +kernel
theorem dX6_minuteGoes_109 : decode cX6_minuteGoes 109 = .ok (.getfield 13, 3) := by decide +kernel
theorem dX6_minuteGoes_112 : decode cX6_minuteGoes 112 = .ok (.bipush 24, 2) := by decide +kernel
theorem dX6_minuteGoes_114 : decode cX6_minuteGoes 114 = .ok (.iload_n 1, 1) := by decide +kernel
theorem dX6_minuteGoes_115 : decode cX6_minuteGoes 115 = .ok (.aload_n 0, 1) := by decide +kernel
theorem dX6_minuteGoes_116 : decode cX6_minuteGoes 116 = .ok (.getfield 13, 3) := by decide +kernel
theorem dX6_minuteGoes_119 : decode cX6_minuteGoes 119 = .ok (.bipush 24, 2) := by decide +kernel
theorem dX6_minuteGoes_121 : decode cX6_minuteGoes 121 = .ok (.iaload, 1) := by decide +kernel
theorem dX6_minuteGoes_122 : decode cX6_minuteGoes 122 = .ok (.aload_n 0, 1) := by decide +kernel
theorem dX6_minuteGoes_123 : decode cX6_minuteGoes 123 = .ok (.getfield 13, 3) := by decide +kernel
theorem dX6_minuteGoes_126 : decode cX6_minuteGoes 126 = .ok (.bipush 26, 2) := by decide +kernel
theorem dX6_minuteGoes_128 : decode cX6_minuteGoes 128 = .ok (.iaload, 1) := by decide +kernel
theorem dX6_minuteGoes_129 : decode cX6_minuteGoes 129 = .ok (.isub, 1) := by decide +kernel
theorem dX6_minuteGoes_130 : decode cX6_minuteGoes 130 = .ok (.aload_n 0, 1) := by decide +kernel
theorem dX6_minuteGoes_131 : decode cX6_minuteGoes 131 = .ok (.getfield 13, 3) := by decide +kernel
theorem dX6_minuteGoes_134 : decode cX6_minuteGoes 134 = .ok (.bipush 24, 2) := by decide +kernel
theorem dX6_minuteGoes_136 : decode cX6_minuteGoes 136 = .ok (.iaload, 1) := by decide +kernel
theorem dX6_minuteGoes_137 : decode cX6_minuteGoes 137 = .ok (.aload_n 0, 1) := by decide +kernel
theorem dX6_minuteGoes_138 : decode cX6_minuteGoes 138 = .ok (.getfield 13, 3) := by decide +kernel
theorem dX6_minuteGoes_141 : decode cX6_minuteGoes 141 = .ok (.bipush 26, 2) := by decide +kernel
theorem dX6_minuteGoes_143 : decode cX6_minuteGoes 143 = .ok (.iaload, 1) := by decide +kernel
theorem dX6_minuteGoes_144 : decode cX6_minuteGoes 144 = .ok (.iadd, 1) := by decide +kernel
theorem dX6_minuteGoes_145 : decode cX6_minuteGoes 145 = .ok (.invokestatic 158, 3) := by decide +kernel
theorem dX6_minuteGoes_148 : decode cX6_minuteGoes 148 = .ok (.iastore, 1) := by decide +kernel
theorem dX6_minuteGoes_149 : decode cX6_minuteGoes 149 = .ok (.aload_n 0, 1) := by decide +kernel
theorem dX6_minuteGoes_150 : decode cX6_minuteGoes 150 = .ok (.getfield 13, 3) := by decide +kernel
theorem dX6_minuteGoes_153 : decode cX6_minuteGoes 153 = .ok (.bipush 24, 2) := by decide +kernel
theorem dX6_minuteGoes_155 : decode cX6_minuteGoes 155 = .ok (.iaload, 1) := by decide +kernel
theorem dX6_minuteGoes_156 : decode cX6_minuteGoes 156 = .ok (.bipush 50, 2) := by decide +kernel
theorem dX6_minuteGoes_158 : decode cX6_minuteGoes 158 = .ok (.if_icmp .ge 16, 3) := by decide +kernel
theorem dX6_minuteGoes_161 : decode cX6_minuteGoes 161 = .ok (.aload_n 0, 1) := by decide +kernel
theorem dX6_minuteGoes_162 : decode cX6_minuteGoes 162 = .ok (.getfield 13, 3) := by decide +kernel
theorem dX6_minuteGoes_165 : decode cX6_minuteGoes 165 = .ok (.bipush 24, 2) := by decide +kernel
theorem dX6_minuteGoes_167 : decode cX6_minuteGoes 167 = .ok (.iaload, 1) := by decide +kernel
theorem dX6_minuteGoes_168 : decode cX6_minuteGoes 168 = .ok (.bipush 10, 2) := by decide +kernel
theorem dX6_minuteGoes_170 : decode cX6_minuteGoes 170 = .ok (.idiv, 1) := by decide +kernel
theorem dX6_minuteGoes_171 : decode cX6_minuteGoes 171 = .ok (.goto 4, 3) := by decide +kernel
theorem dX6_minuteGoes_174 : decode cX6_minuteGoes 174 = .ok (.iconst 4, 1) := by decide +kernel
theorem dX6_minuteGoes_175 : decode cX6_minuteGoes 175 = .ok (.istore_n 2, 1) := by decide +kernel
theorem dX6_minuteGoes_176 : decode cX6_minuteGoes 176 = .ok (.aload_n 0, 1) := by decide +kernel
theorem dX6_minuteGoes_177 : decode cX6_minuteGoes 177 = .ok (.getfield 13, 3) := by decide +kernel
theorem dX6_minuteGoes_180 : decode cX6_minuteGoes 180 = .ok (.bipush 25, 2) := by decide +kernel
theorem dX6_minuteGoes_182 : decode cX6_minuteGoes 182 = .ok (.aload_n 0, 1) := by decide +kernel
theorem dX6_minuteGoes_183 : decode cX6_minuteGoes 183 = .ok (.getfield 13, 3) := by decide +kernel
theorem dX6_minuteGoes_186 : decode cX6_minuteGoes 186 = .ok (.bipush 25, 2) := by decide +kernel
theorem dX6_minuteGoes_188 : decode cX6_minuteGoes 188 = .ok (.iaload, 1) := by decide +kernel
theorem dX6_minuteGoes_189 : decode cX6_minuteGoes 189 = .ok (.aload_n 0, 1) := by decide +kernel
theorem dX6_minuteGoes_190 : decode cX6_minuteGoes 190 = .ok (.getfield 13, 3) := by decide +kernel
theorem dX6_minuteGoes_193 : decode cX6_minuteGoes 193 = .ok (.bipush 28, 2) := by decide +kernel
theorem dX6_minuteGoes_195 : decode cX6_minuteGoes 195 = .ok (.iload_n 2, 1) := by decide +kernel
theorem dX6_minuteGoes_196 : decode cX6_minuteGoes 196 = .ok (.iadd, 1) := by decide +kernel
theorem dX6_minuteGoes_197 : decode cX6_minuteGoes 197 = .ok (.iaload, 1) := by decide +kernel
theorem dX6_minuteGoes_198 : decode cX6_minuteGoes 198 = .ok (.iadd, 1) := by decide +kernel
theorem dX6_minuteGoes_199 : decode cX6_minuteGoes 199 = .ok (.iconst 4, 1) := by decide +kernel
theorem dX6_minuteGoes_200 : decode cX6_minuteGoes 200 = .ok (.isub, 1) := by decide +kernel
theorem dX6_minuteGoes_201 : decode cX6_minuteGoes 201 = .ok (.iconst 0, 1) := by decide +kernel
theorem dX6_minuteGoes_202 : decode cX6_minuteGoes 202 = .ok (.bipush 99, 2) := by decide +kernel
theorem dX6_minuteGoes_204 : decode cX6_minuteGoes 204 = .ok (.invokestatic 158, 3) := by decide +kernel
theorem dX6_minuteGoes_207 : decode cX6_minuteGoes 207 = .ok (.iastore, 1) := by decide +kernel
theorem dX6_minuteGoes_208 : decode cX6_minuteGoes 208 = .ok (.aload_n 0, 1) := by decide +kernel
theorem dX6_minuteGoes_209 : decode cX6_minuteGoes 209 = .ok (.getfield 13, 3) := by decide +kernel
theorem dX6_minuteGoes_212 : decode cX6_minuteGoes 212 = .ok (.bipush 27, 2) := by decide +kernel
theorem dX6_minuteGoes_214 : decode cX6_minuteGoes 214 = .ok (.dup2, 1) := by decide +kernel
theorem dX6_minuteGoes_215 : decode cX6_minuteGoes 215 = .ok (.iaload, 1) := by decide +kernel
theorem dX6_minuteGoes_216 : decode cX6_minuteGoes 216 = .ok (.iconst 1, 1) := by decide +kernel
theorem dX6_minuteGoes_217 : decode cX6_minuteGoes 217 = .ok (.iadd, 1) := by decide +kernel
theorem dX6_minuteGoes_218 : decode cX6_minuteGoes 218 = .ok (.iastore, 1) := by decide +kernel
theorem dX6_minuteGoes_219 : decode cX6_minuteGoes 219 = .ok (.return_, 1) := by decide +kernel
theorem dX6_minutesGo_0 : decode cX6_minutesGo 0 = .ok (.iconst 0, 1) := by decide +kernel
theorem dX6_minutesGo_1 : decode cX6_minutesGo 1 = .ok (.istore_n 2, 1) := by decide +kernel
theorem dX6_minutesGo_2 : decode cX6_minutesGo 2 = .ok (.iload_n 2, 1) := by decide +kernel
theorem dX6_minutesGo_3 : decode cX6_minutesGo 3 = .ok (.iload_n 1, 1) := by decide +kernel
theorem dX6_minutesGo_4 : decode cX6_minutesGo 4 = .ok (.if_icmp .ge 13, 3) := by decide +kernel
theorem dX6_minutesGo_7 : decode cX6_minutesGo 7 = .ok (.aload_n 0, 1) := by decide +kernel
theorem dX6_minutesGo_8 : decode cX6_minutesGo 8 = .ok (.invokevirtual 172, 3) := by decide +kernel
theorem dX6_minutesGo_11 : decode cX6_minutesGo 11 = .ok (.iinc 2 1, 3) := by decide +kernel
theorem dX6_minutesGo_14 : decode cX6_minutesGo 14 = .ok (.goto (-12), 3) := by decide +kernel
theorem dX6_minutesGo_17 : decode cX6_minutesGo 17 = .ok (.return_, 1) := by decide +kernel
theorem dX6_offPlace_0 : decode cX6_offPlace 0 = .ok (.aload_n 0, 1) := by decide +kernel
theorem dX6_offPlace_1 : decode cX6_offPlace 1 = .ok (.getfield 13, 3) := by decide +kernel
theorem dX6_offPlace_4 : decode cX6_offPlace 4 = .ok (.bipush 25, 2) := by decide +kernel
theorem dX6_offPlace_6 : decode cX6_offPlace 6 = .ok (.iaload, 1) := by decide +kernel
theorem dX6_offPlace_7 : decode cX6_offPlace 7 = .ok (.iload_n 1, 1) := by decide +kernel
theorem dX6_offPlace_8 : decode cX6_offPlace 8 = .ok (.if_icmp .le 15, 3) := by decide +kernel
theorem dX6_offPlace_11 : decode cX6_offPlace 11 = .ok (.aload_n 0, 1) := by decide +kernel
theorem dX6_offPlace_12 : decode cX6_offPlace 12 = .ok (.getfield 13, 3) := by decide +kernel
theorem dX6_offPlace_15 : decode cX6_offPlace 15 = .ok (.bipush 25, 2) := by decide +kernel
theorem dX6_offPlace_17 : decode cX6_offPlace 17 = .ok (.iaload, 1) := by decide +kernel
theorem dX6_offPlace_18 : decode cX6_offPlace 18 = .ok (.iload_n 1, 1) := by decide +kernel
theorem dX6_offPlace_19 : decode cX6_offPlace 19 = .ok (.isub, 1) := by decide +kernel
theorem dX6_offPlace_20 : decode cX6_offPlace 20 = .ok (.goto 12, 3) := by decide +kernel
theorem dX6_offPlace_23 : decode cX6_offPlace 23 = .ok (.iload_n 1, 1) := by decide +kernel
theorem dX6_offPlace_24 : decode cX6_offPlace 24 = .ok (.aload_n 0, 1) := by decide +kernel
theorem dX6_offPlace_25 : decode cX6_offPlace 25 = .ok (.getfield 13, 3) := by decide +kernel
theorem dX6_offPlace_28 : decode cX6_offPlace 28 = .ok (.bipush 25, 2) := by decide +kernel
theorem dX6_offPlace_30 : decode cX6_offPlace 30 = .ok (.iaload, 1) := by decide +kernel
theorem dX6_offPlace_31 : decode cX6_offPlace 31 = .ok (.isub, 1) := by decide +kernel
theorem dX6_offPlace_32 : decode cX6_offPlace 32 = .ok (.ireturn, 1) := by decide +kernel
theorem dX6_rule_0 : decode cX6_rule 0 = .ok (.aload_n 0, 1) := by decide +kernel
theorem dX6_rule_1 : decode cX6_rule 1 = .ok (.invokevirtual 175, 3) := by decide +kernel
theorem dX6_rule_4 : decode cX6_rule 4 = .ok (.iload_n 1, 1) := by decide +kernel
theorem dX6_rule_5 : decode cX6_rule 5 = .ok (.tableswitch 102 0 7 #[47, 52, 60, 68, 76, 81, 86, 94], 47) := by decide +kernel
theorem dX6_rule_52 : decode cX6_rule 52 = .ok (.aload_n 0, 1) := by decide +kernel
theorem dX6_rule_53 : decode cX6_rule 53 = .ok (.getfield 64, 3) := by decide +kernel
theorem dX6_rule_56 : decode cX6_rule 56 = .ok (.ireturn, 1) := by decide +kernel
theorem dX6_rule_57 : decode cX6_rule 57 = .ok (.aload_n 0, 1) := by decide +kernel
theorem dX6_rule_58 : decode cX6_rule 58 = .ok (.getfield 7, 3) := by decide +kernel
theorem dX6_rule_61 : decode cX6_rule 61 = .ok (.bipush 27, 2) := by decide +kernel
theorem dX6_rule_63 : decode cX6_rule 63 = .ok (.iaload, 1) := by decide +kernel
theorem dX6_rule_64 : decode cX6_rule 64 = .ok (.ireturn, 1) := by decide +kernel
theorem dX6_rule_65 : decode cX6_rule 65 = .ok (.aload_n 0, 1) := by decide +kernel
theorem dX6_rule_66 : decode cX6_rule 66 = .ok (.getfield 7, 3) := by decide +kernel
theorem dX6_rule_69 : decode cX6_rule 69 = .ok (.bipush 24, 2) := by decide +kernel
theorem dX6_rule_71 : decode cX6_rule 71 = .ok (.iaload, 1) := by decide +kernel
theorem dX6_rule_72 : decode cX6_rule 72 = .ok (.ireturn, 1) := by decide +kernel
theorem dX6_rule_73 : decode cX6_rule 73 = .ok (.aload_n 0, 1) := by decide +kernel
theorem dX6_rule_74 : decode cX6_rule 74 = .ok (.getfield 7, 3) := by decide +kernel
theorem dX6_rule_77 : decode cX6_rule 77 = .ok (.bipush 25, 2) := by decide +kernel
theorem dX6_rule_79 : decode cX6_rule 79 = .ok (.iaload, 1) := by decide +kernel
theorem dX6_rule_80 : decode cX6_rule 80 = .ok (.ireturn, 1) := by decide +kernel
theorem dX6_rule_81 : decode cX6_rule 81 = .ok (.aload_n 0, 1) := by decide +kernel
theorem dX6_rule_82 : decode cX6_rule 82 = .ok (.invokevirtual 169, 3) := by decide +kernel
theorem dX6_rule_85 : decode cX6_rule 85 = .ok (.ireturn, 1) := by decide +kernel
theorem dX6_rule_86 : decode cX6_rule 86 = .ok (.aload_n 0, 1) := by decide +kernel
theorem dX6_rule_87 : decode cX6_rule 87 = .ok (.invokevirtual 178, 3) := by decide +kernel
theorem dX6_rule_90 : decode cX6_rule 90 = .ok (.ireturn, 1) := by decide +kernel
theorem dX6_rule_91 : decode cX6_rule 91 = .ok (.aload_n 0, 1) := by decide +kernel
theorem dX6_rule_92 : decode cX6_rule 92 = .ok (.getfield 7, 3) := by decide +kernel
theorem dX6_rule_95 : decode cX6_rule 95 = .ok (.bipush 26, 2) := by decide +kernel
theorem dX6_rule_97 : decode cX6_rule 97 = .ok (.iaload, 1) := by decide +kernel
theorem dX6_rule_98 : decode cX6_rule 98 = .ok (.ireturn, 1) := by decide +kernel
theorem dX6_rule_99 : decode cX6_rule 99 = .ok (.aload_n 0, 1) := by decide +kernel
theorem dX6_rule_100 : decode cX6_rule 100 = .ok (.getfield 7, 3) := by decide +kernel
theorem dX6_rule_103 : decode cX6_rule 103 = .ok (.bipush 33, 2) := by decide +kernel
theorem dX6_rule_105 : decode cX6_rule 105 = .ok (.iaload, 1) := by decide +kernel
theorem dX6_rule_106 : decode cX6_rule 106 = .ok (.ireturn, 1) := by decide +kernel
theorem dX6_rule_107 : decode cX6_rule 107 = .ok (.iconst (-1), 1) := by decide +kernel
theorem dX6_rule_108 : decode cX6_rule 108 = .ok (.ireturn, 1) := by decide +kernel
theorem dX6_thing_0 : decode cX6_thing 0 = .ok (.aload_n 0, 1) := by decide +kernel
theorem dX6_thing_1 : decode cX6_thing 1 = .ok (.iload_n 1, 1) := by decide +kernel
theorem dX6_thing_2 : decode cX6_thing 2 = .ok (.invokevirtual 181, 3) := by decide +kernel
theorem dX6_thing_5 : decode cX6_thing 5 = .ok (.ifCond .eq 15, 3) := by decide +kernel
theorem dX6_thing_8 : decode cX6_thing 8 = .ok (.iload_n 2, 1) := by decide +kernel
theorem dX6_thing_9 : decode cX6_thing 9 = .ok (.i2l, 1) := by decide +kernel
theorem dX6_thing_10 : decode cX6_thing 10 = .ok (.lconst 0, 1) := by decide +kernel
theorem dX6_thing_11 : decode cX6_thing 11 = .ok (.ldc2_w 142, 3) := by decide +kernel
theorem dX6_thing_14 : decode cX6_thing 14 = .ok (.invokestatic 69, 3) := by decide +kernel
theorem dX6_thing_17 : decode cX6_thing 17 = .ok (.ifCond .ne 5, 3) := by decide +kernel
theorem dX6_thing_20 : decode cX6_thing 20 = .ok (.iconst (-1), 1) := by decide +kernel
theorem dX6_thing_21 : decode cX6_thing 21 = .ok (.ireturn, 1) := by decide +kernel
theorem dX6_thing_22 : decode cX6_thing 22 = .ok (.aload_n 0, 1) := by decide +kernel
theorem dX6_thing_23 : decode cX6_thing 23 = .ok (.invokevirtual 175, 3) := by decide +kernel
theorem dX6_thing_26 : decode cX6_thing 26 = .ok (.iload_n 2, 1) := by decide +kernel
theorem dX6_thing_27 : decode cX6_thing 27 = .ok (.iconst 4, 1) := by decide +kernel
theorem dX6_thing_28 : decode cX6_thing 28 = .ok (.if_icmp .ge 12, 3) := by decide +kernel
theorem dX6_thing_31 : decode cX6_thing 31 = .ok (.aload_n 0, 1) := by decide +kernel
theorem dX6_thing_32 : decode cX6_thing 32 = .ok (.iload_n 1, 1) := by decide +kernel
theorem dX6_thing_33 : decode cX6_thing 33 = .ok (.iload_n 2, 1) := by decide +kernel
theorem dX6_thing_34 : decode cX6_thing 34 = .ok (.invokevirtual 152, 3) := by decide +kernel
theorem dX6_thing_37 : decode cX6_thing 37 = .ok (.goto 11, 3) := by decide +kernel
theorem dX6_thing_40 : decode cX6_thing 40 = .ok (.bipush 20, 2) := by decide +kernel
theorem dX6_thing_42 : decode cX6_thing 42 = .ok (.aload_n 0, 1) := by decide +kernel
theorem dX6_thing_43 : decode cX6_thing 43 = .ok (.iload_n 1, 1) := by decide +kernel
theorem dX6_thing_44 : decode cX6_thing 44 = .ok (.invokevirtual 155, 3) := by decide +kernel
theorem dX6_thing_47 : decode cX6_thing 47 = .ok (.iadd, 1) := by decide +kernel
theorem dX6_thing_48 : decode cX6_thing 48 = .ok (.ireturn, 1) := by decide +kernel
theorem dX6_wind_0 : decode cX6_wind 0 = .ok (.iload_n 1, 1) := by decide +kernel
theorem dX6_wind_1 : decode cX6_wind 1 = .ok (.invokestatic 185, 3) := by decide +kernel
theorem dX6_wind_4 : decode cX6_wind 4 = .ok (.ifCond .eq 15, 3) := by decide +kernel
theorem dX6_wind_7 : decode cX6_wind 7 = .ok (.aload_n 0, 1) := by decide +kernel
theorem dX6_wind_8 : decode cX6_wind 8 = .ok (.getfield 7, 3) := by decide +kernel
theorem dX6_wind_11 : decode cX6_wind 11 = .ok (.bipush 28, 2) := by decide +kernel
theorem dX6_wind_13 : decode cX6_wind 13 = .ok (.iload_n 1, 1) := by decide +kernel
theorem dX6_wind_14 : decode cX6_wind 14 = .ok (.iadd, 1) := by decide +kernel
theorem dX6_wind_15 : decode cX6_wind 15 = .ok (.iaload, 1) := by decide +kernel
theorem dX6_wind_16 : decode cX6_wind 16 = .ok (.goto 4, 3) := by decide +kernel
theorem dX6_wind_19 : decode cX6_wind 19 = .ok (.iconst (-1), 1) := by decide +kernel
theorem dX6_wind_20 : decode cX6_wind 20 = .ok (.ireturn, 1) := by decide +kernel
theorem dX6_saying_0 : decode cX6_saying 0 = .ok (.iload_n 1, 1) := by decide +kernel
theorem dX6_saying_1 : decode cX6_saying 1 = .ok (.i2l, 1) := by decide +kernel
theorem dX6_saying_2 : decode cX6_saying 2 = .ok (.lconst 0, 1) := by decide +kernel
theorem dX6_saying_3 : decode cX6_saying 3 = .ok (.aload_n 0, 1) := by decide +kernel
theorem dX6_saying_4 : decode cX6_saying 4 = .ok (.getfield 7, 3) := by decide +kernel
theorem dX6_saying_7 : decode cX6_saying 7 = .ok (.bipush 33, 2) := by decide +kernel
theorem dX6_saying_9 : decode cX6_saying 9 = .ok (.iaload, 1) := by decide +kernel
theorem dX6_saying_10 : decode cX6_saying 10 = .ok (.iconst 1, 1) := by decide +kernel
theorem dX6_saying_11 : decode cX6_saying 11 = .ok (.isub, 1) := by decide +kernel
theorem dX6_saying_12 : decode cX6_saying 12 = .ok (.i2l, 1) := by decide +kernel
theorem dX6_saying_13 : decode cX6_saying 13 = .ok (.invokestatic 69, 3) := by decide +kernel
theorem dX6_saying_16 : decode cX6_saying 16 = .ok (.ifCond .eq 26, 3) := by decide +kernel
theorem dX6_saying_19 : decode cX6_saying 19 = .ok (.iload_n 2, 1) := by decide +kernel
theorem dX6_saying_20 : decode cX6_saying 20 = .ok (.invokestatic 188, 3) := by decide +kernel
theorem dX6_saying_23 : decode cX6_saying 23 = .ok (.ifCond .eq 19, 3) := by decide +kernel
theorem dX6_saying_26 : decode cX6_saying 26 = .ok (.aload_n 0, 1) := by decide +kernel
theorem dX6_saying_27 : decode cX6_saying 27 = .ok (.getfield 7, 3) := by decide +kernel
theorem dX6_saying_30 : decode cX6_saying 30 = .ok (.bipush 34, 2) := by decide +kernel
theorem dX6_saying_32 : decode cX6_saying 32 = .ok (.iconst 2, 1) := by decide +kernel
theorem dX6_saying_33 : decode cX6_saying 33 = .ok (.iload_n 1, 1) := by decide +kernel
theorem dX6_saying_34 : decode cX6_saying 34 = .ok (.imul, 1) := by decide +kernel
theorem dX6_saying_35 : decode cX6_saying 35 = .ok (.iadd, 1) := by decide +kernel
theorem dX6_saying_36 : decode cX6_saying 36 = .ok (.iload_n 2, 1) := by decide +kernel
theorem dX6_saying_37 : decode cX6_saying 37 = .ok (.iadd, 1) := by decide +kernel
theorem dX6_saying_38 : decode cX6_saying 38 = .ok (.iaload, 1) := by decide +kernel
theorem dX6_saying_39 : decode cX6_saying 39 = .ok (.goto 4, 3) := by decide +kernel
theorem dX6_saying_42 : decode cX6_saying 42 = .ok (.iconst (-1), 1) := by decide +kernel
theorem dX6_saying_43 : decode cX6_saying 43 = .ok (.ireturn, 1) := by decide +kernel
theorem dX6_becomes_0 : decode cX6_becomes 0 = .ok (.aload_n 0, 1) := by decide +kernel
theorem dX6_becomes_1 : decode cX6_becomes 1 = .ok (.getfield 7, 3) := by decide +kernel
theorem dX6_becomes_4 : decode cX6_becomes 4 = .ok (.iload_n 1, 1) := by decide +kernel
theorem dX6_becomes_5 : decode cX6_becomes 5 = .ok (.iaload, 1) := by decide +kernel
theorem dX6_becomes_6 : decode cX6_becomes 6 = .ok (.istore_n 3, 1) := by decide +kernel
theorem dX6_becomes_7 : decode cX6_becomes 7 = .ok (.aload_n 0, 1) := by decide +kernel
theorem dX6_becomes_8 : decode cX6_becomes 8 = .ok (.getfield 7, 3) := by decide +kernel
theorem dX6_becomes_11 : decode cX6_becomes 11 = .ok (.iload_n 1, 1) := by decide +kernel
theorem dX6_becomes_12 : decode cX6_becomes 12 = .ok (.iload_n 2, 1) := by decide +kernel
theorem dX6_becomes_13 : decode cX6_becomes 13 = .ok (.iastore, 1) := by decide +kernel
theorem dX6_becomes_14 : decode cX6_becomes 14 = .ok (.iload_n 3, 1) := by decide +kernel
theorem dX6_becomes_15 : decode cX6_becomes 15 = .ok (.ireturn, 1) := by decide +kernel
theorem dX6_alter_0 : decode cX6_alter 0 = .ok (.iload_n 2, 1) := by decide +kernel
theorem dX6_alter_1 : decode cX6_alter 1 = .ok (.ifCond .ne 15, 3) := by decide +kernel
theorem dX6_alter_4 : decode cX6_alter 4 = .ok (.iload_n 3, 1) := by decide +kernel
theorem dX6_alter_5 : decode cX6_alter 5 = .ok (.i2l, 1) := by decide +kernel
theorem dX6_alter_6 : decode cX6_alter 6 = .ok (.lconst 0, 1) := by decide +kernel
theorem dX6_alter_7 : decode cX6_alter 7 = .ok (.ldc2_w 191, 3) := by decide +kernel
theorem dX6_alter_10 : decode cX6_alter 10 = .ok (.invokestatic 69, 3) := by decide +kernel
theorem dX6_alter_13 : decode cX6_alter 13 = .ok (.goto 37, 3) := by decide +kernel
theorem dX6_alter_16 : decode cX6_alter 16 = .ok (.iload_n 2, 1) := by decide +kernel
theorem dX6_alter_17 : decode cX6_alter 17 = .ok (.iconst 1, 1) := by decide +kernel
theorem dX6_alter_18 : decode cX6_alter 18 = .ok (.if_icmp .ne 15, 3) := by decide +kernel
theorem dX6_alter_21 : decode cX6_alter 21 = .ok (.iload_n 3, 1) := by decide +kernel
theorem dX6_alter_22 : decode cX6_alter 22 = .ok (.i2l, 1) := by decide +kernel
theorem dX6_alter_23 : decode cX6_alter 23 = .ok (.lconst 1, 1) := by decide +kernel
theorem dX6_alter_24 : decode cX6_alter 24 = .ok (.ldc2_w 193, 3) := by decide +kernel
theorem dX6_alter_27 : decode cX6_alter 27 = .ok (.invokestatic 69, 3) := by decide +kernel
theorem dX6_alter_30 : decode cX6_alter 30 = .ok (.goto 20, 3) := by decide +kernel
theorem dX6_alter_33 : decode cX6_alter 33 = .ok (.iload_n 2, 1) := by decide +kernel
theorem dX6_alter_34 : decode cX6_alter 34 = .ok (.iconst 2, 1) := by decide +kernel
theorem dX6_alter_35 : decode cX6_alter 35 = .ok (.if_icmp .ne 14, 3) := by decide +kernel
theorem dX6_alter_38 : decode cX6_alter 38 = .ok (.iload_n 3, 1) := by decide +kernel
theorem dX6_alter_39 : decode cX6_alter 39 = .ok (.invokestatic 188, 3) := by decide +kernel
theorem dX6_alter_42 : decode cX6_alter 42 = .ok (.ifCond .eq 7, 3) := by decide +kernel
theorem dX6_alter_45 : decode cX6_alter 45 = .ok (.iconst 1, 1) := by decide +kernel
theorem dX6_alter_46 : decode cX6_alter 46 = .ok (.goto 4, 3) := by decide +kernel
theorem dX6_alter_49 : decode cX6_alter 49 = .ok (.iconst 0, 1) := by decide +kernel
theorem dX6_alter_50 : decode cX6_alter 50 = .ok (.istore 4, 2) := by decide +kernel
theorem dX6_alter_52 : decode cX6_alter 52 = .ok (.aload_n 0, 1) := by decide +kernel
theorem dX6_alter_53 : decode cX6_alter 53 = .ok (.iload_n 1, 1) := by decide +kernel
theorem dX6_alter_54 : decode cX6_alter 54 = .ok (.invokevirtual 181, 3) := by decide +kernel
theorem dX6_alter_57 : decode cX6_alter 57 = .ok (.ifCond .eq 21, 3) := by decide +kernel
theorem dX6_alter_60 : decode cX6_alter 60 = .ok (.iload 4, 2) := by decide +kernel
theorem dX6_alter_62 : decode cX6_alter 62 = .ok (.ifCond .eq 16, 3) := by decide +kernel
theorem dX6_alter_65 : decode cX6_alter 65 = .ok (.aload_n 0, 1) := by decide +kernel
theorem dX6_alter_66 : decode cX6_alter 66 = .ok (.iconst 4, 1) := by decide +kernel
theorem dX6_alter_67 : decode cX6_alter 67 = .ok (.iload_n 1, 1) := by decide +kernel
theorem dX6_alter_68 : decode cX6_alter 68 = .ok (.imul, 1) := by decide +kernel
theorem dX6_alter_69 : decode cX6_alter 69 = .ok (.iload_n 2, 1) := by decide +kernel
theorem dX6_alter_70 : decode cX6_alter 70 = .ok (.iadd, 1) := by decide +kernel
theorem dX6_alter_71 : decode cX6_alter 71 = .ok (.iload_n 3, 1) := by decide +kernel
theorem dX6_alter_72 : decode cX6_alter 72 = .ok (.invokevirtual 195, 3) := by decide +kernel
theorem dX6_alter_75 : decode cX6_alter 75 = .ok (.goto 4, 3) := by decide +kernel
theorem dX6_alter_78 : decode cX6_alter 78 = .ok (.iconst (-1), 1) := by decide +kernel
theorem dX6_alter_79 : decode cX6_alter 79 = .ok (.ireturn, 1) := by decide +kernel
theorem dX6_blow_0 : decode cX6_blow 0 = .ok (.iload_n 1, 1) := by decide +kernel
theorem dX6_blow_1 : decode cX6_blow 1 = .ok (.invokestatic 185, 3) := by decide +kernel
theorem dX6_blow_4 : decode cX6_blow 4 = .ok (.ifCond .eq 27, 3) := by decide +kernel
theorem dX6_blow_7 : decode cX6_blow 7 = .ok (.iload_n 2, 1) := by decide +kernel
theorem dX6_blow_8 : decode cX6_blow 8 = .ok (.i2l, 1) := by decide +kernel
theorem dX6_blow_9 : decode cX6_blow 9 = .ok (.lconst 0, 1) := by decide +kernel
theorem dX6_blow_10 : decode cX6_blow 10 = .ok (.ldc2_w 198, 3) := by decide +kernel
theorem dX6_blow_13 : decode cX6_blow 13 = .ok (.invokestatic 69, 3) := by decide +kernel
theorem dX6_blow_16 : decode cX6_blow 16 = .ok (.ifCond .eq 15, 3) := by decide +kernel
theorem dX6_blow_19 : decode cX6_blow 19 = .ok (.aload_n 0, 1) := by decide +kernel
theorem dX6_blow_20 : decode cX6_blow 20 = .ok (.bipush 28, 2) := by decide +kernel
theorem dX6_blow_22 : decode cX6_blow 22 = .ok (.iload_n 1, 1) := by decide +kernel
theorem dX6_blow_23 : decode cX6_blow 23 = .ok (.iadd, 1) := by decide +kernel
theorem dX6_blow_24 : decode cX6_blow 24 = .ok (.iload_n 2, 1) := by decide +kernel
theorem dX6_blow_25 : decode cX6_blow 25 = .ok (.invokevirtual 195, 3) := by decide +kernel
theorem dX6_blow_28 : decode cX6_blow 28 = .ok (.goto 4, 3) := by decide +kernel
theorem dX6_blow_31 : decode cX6_blow 31 = .ok (.iconst (-1), 1) := by decide +kernel
theorem dX6_blow_32 : decode cX6_blow 32 = .ok (.ireturn, 1) := by decide +kernel
theorem dX6_rate_0 : decode cX6_rate 0 = .ok (.iload_n 1, 1) := by decide +kernel
theorem dX6_rate_1 : decode cX6_rate 1 = .ok (.i2l, 1) := by decide +kernel
theorem dX6_rate_2 : decode cX6_rate 2 = .ok (.lconst 1, 1) := by decide +kernel
theorem dX6_rate_3 : decode cX6_rate 3 = .ok (.ldc2_w 193, 3) := by decide +kernel
theorem dX6_rate_6 : decode cX6_rate 6 = .ok (.invokestatic 69, 3) := by decide +kernel
theorem dX6_rate_9 : decode cX6_rate 9 = .ok (.ifCond .eq 13, 3) := by decide +kernel
theorem dX6_rate_12 : decode cX6_rate 12 = .ok (.aload_n 0, 1) := by decide +kernel
theorem dX6_rate_13 : decode cX6_rate 13 = .ok (.bipush 26, 2) := by decide +kernel
theorem dX6_rate_15 : decode cX6_rate 15 = .ok (.iload_n 1, 1) := by decide +kernel
theorem dX6_rate_16 : decode cX6_rate 16 = .ok (.invokevirtual 195, 3) := by decide +kernel
theorem dX6_rate_19 : decode cX6_rate 19 = .ok (.goto 4, 3) := by decide +kernel
theorem dX6_rate_22 : decode cX6_rate 22 = .ok (.iconst (-1), 1) := by decide +kernel
theorem dX6_rate_23 : decode cX6_rate 23 = .ok (.ireturn, 1) := by decide +kernel
theorem dX6_saidBecomes_0 : decode cX6_saidBecomes 0 = .ok (.aload_n 0, 1) := by decide +kernel
theorem dX6_saidBecomes_1 : decode cX6_saidBecomes 1 = .ok (.iload_n 1, 1) := by decide +kernel
theorem dX6_saidBecomes_2 : decode cX6_saidBecomes 2 = .ok (.invokevirtual 181, 3) := by decide +kernel
theorem dX6_saidBecomes_5 : decode cX6_saidBecomes 5 = .ok (.ifCond .ne 5, 3) := by decide +kernel
theorem dX6_saidBecomes_8 : decode cX6_saidBecomes 8 = .ok (.iconst (-1), 1) := by decide +kernel
theorem dX6_saidBecomes_9 : decode cX6_saidBecomes 9 = .ok (.ireturn, 1) := by decide +kernel
theorem dX6_saidBecomes_10 : decode cX6_saidBecomes 10 = .ok (.aload_n 0, 1) := by decide +kernel
theorem dX6_saidBecomes_11 : decode cX6_saidBecomes 11 = .ok (.getfield 7, 3) := by decide +kernel
theorem dX6_saidBecomes_14 : decode cX6_saidBecomes 14 = .ok (.iconst 4, 1) := by decide +kernel
theorem dX6_saidBecomes_15 : decode cX6_saidBecomes 15 = .ok (.iload_n 1, 1) := by decide +kernel
theorem dX6_saidBecomes_16 : decode cX6_saidBecomes 16 = .ok (.imul, 1) := by decide +kernel
theorem dX6_saidBecomes_17 : decode cX6_saidBecomes 17 = .ok (.iconst 3, 1) := by decide +kernel
theorem dX6_saidBecomes_18 : decode cX6_saidBecomes 18 = .ok (.iadd, 1) := by decide +kernel
theorem dX6_saidBecomes_19 : decode cX6_saidBecomes 19 = .ok (.iaload, 1) := by decide +kernel
theorem dX6_saidBecomes_20 : decode cX6_saidBecomes 20 = .ok (.iload_n 2, 1) := by decide +kernel
theorem dX6_saidBecomes_21 : decode cX6_saidBecomes 21 = .ok (.if_icmp .ne 6, 3) := by decide +kernel
theorem dX6_saidBecomes_24 : decode cX6_saidBecomes 24 = .ok (.bipush (-2), 2) := by decide +kernel
theorem dX6_saidBecomes_26 : decode cX6_saidBecomes 26 = .ok (.ireturn, 1) := by decide +kernel
theorem dX6_saidBecomes_27 : decode cX6_saidBecomes 27 = .ok (.aload_n 0, 1) := by decide +kernel
theorem dX6_saidBecomes_28 : decode cX6_saidBecomes 28 = .ok (.getfield 7, 3) := by decide +kernel
theorem dX6_saidBecomes_31 : decode cX6_saidBecomes 31 = .ok (.iconst 4, 1) := by decide +kernel
theorem dX6_saidBecomes_32 : decode cX6_saidBecomes 32 = .ok (.iload_n 1, 1) := by decide +kernel
theorem dX6_saidBecomes_33 : decode cX6_saidBecomes 33 = .ok (.imul, 1) := by decide +kernel
theorem dX6_saidBecomes_34 : decode cX6_saidBecomes 34 = .ok (.iconst 3, 1) := by decide +kernel
theorem dX6_saidBecomes_35 : decode cX6_saidBecomes 35 = .ok (.iadd, 1) := by decide +kernel
theorem dX6_saidBecomes_36 : decode cX6_saidBecomes 36 = .ok (.iload_n 2, 1) := by decide +kernel
theorem dX6_saidBecomes_37 : decode cX6_saidBecomes 37 = .ok (.iastore, 1) := by decide +kernel
theorem dX6_saidBecomes_38 : decode cX6_saidBecomes 38 = .ok (.aload_n 0, 1) := by decide +kernel
theorem dX6_saidBecomes_39 : decode cX6_saidBecomes 39 = .ok (.invokevirtual 175, 3) := by decide +kernel
theorem dX6_saidBecomes_42 : decode cX6_saidBecomes 42 = .ok (.aload_n 0, 1) := by decide +kernel
theorem dX6_saidBecomes_43 : decode cX6_saidBecomes 43 = .ok (.invokevirtual 169, 3) := by decide +kernel
theorem dX6_saidBecomes_46 : decode cX6_saidBecomes 46 = .ok (.ireturn, 1) := by decide +kernel
theorem dX6_say_0 : decode cX6_say 0 = .ok (.aload_n 0, 1) := by decide +kernel
theorem dX6_say_1 : decode cX6_say 1 = .ok (.iload_n 1, 1) := by decide +kernel
theorem dX6_say_2 : decode cX6_say 2 = .ok (.iconst 1, 1) := by decide +kernel
theorem dX6_say_3 : decode cX6_say 3 = .ok (.invokevirtual 200, 3) := by decide +kernel
theorem dX6_say_6 : decode cX6_say 6 = .ok (.ireturn, 1) := by decide +kernel
theorem dX6_take_0 : decode cX6_take 0 = .ok (.aload_n 0, 1) := by decide +kernel
theorem dX6_take_1 : decode cX6_take 1 = .ok (.iload_n 1, 1) := by decide +kernel
theorem dX6_take_2 : decode cX6_take 2 = .ok (.iconst 0, 1) := by decide +kernel
theorem dX6_take_3 : decode cX6_take 3 = .ok (.invokevirtual 200, 3) := by decide +kernel
theorem dX6_take_6 : decode cX6_take 6 = .ok (.ireturn, 1) := by decide +kernel
theorem dX6_plan_0 : decode cX6_plan 0 = .ok (.iload_n 1, 1) := by decide +kernel
theorem dX6_plan_1 : decode cX6_plan 1 = .ok (.i2l, 1) := by decide +kernel
theorem dX6_plan_2 : decode cX6_plan 2 = .ok (.lconst 0, 1) := by decide +kernel
theorem dX6_plan_3 : decode cX6_plan 3 = .ok (.ldc2_w 144, 3) := by decide +kernel
theorem dX6_plan_6 : decode cX6_plan 6 = .ok (.invokestatic 69, 3) := by decide +kernel
theorem dX6_plan_9 : decode cX6_plan 9 = .ok (.ifCond .eq 11, 3) := by decide +kernel
theorem dX6_plan_12 : decode cX6_plan 12 = .ok (.aload_n 0, 1) := by decide +kernel
theorem dX6_plan_13 : decode cX6_plan 13 = .ok (.iload_n 2, 1) := by decide +kernel
theorem dX6_plan_14 : decode cX6_plan 14 = .ok (.invokevirtual 181, 3) := by decide +kernel
theorem dX6_plan_17 : decode cX6_plan 17 = .ok (.ifCond .ne 5, 3) := by decide +kernel
theorem dX6_plan_20 : decode cX6_plan 20 = .ok (.iconst (-1), 1) := by decide +kernel
theorem dX6_plan_21 : decode cX6_plan 21 = .ok (.ireturn, 1) := by decide +kernel
theorem dX6_plan_22 : decode cX6_plan 22 = .ok (.aload_n 0, 1) := by decide +kernel
theorem dX6_plan_23 : decode cX6_plan 23 = .ok (.getfield 7, 3) := by decide +kernel
theorem dX6_plan_26 : decode cX6_plan 26 = .ok (.bipush 33, 2) := by decide +kernel
theorem dX6_plan_28 : decode cX6_plan 28 = .ok (.iaload, 1) := by decide +kernel
theorem dX6_plan_29 : decode cX6_plan 29 = .ok (.bipush 8, 2) := by decide +kernel
theorem dX6_plan_31 : decode cX6_plan 31 = .ok (.if_icmp .ne 6, 3) := by decide +kernel
theorem dX6_plan_34 : decode cX6_plan 34 = .ok (.bipush (-3), 2) := by decide +kernel
theorem dX6_plan_36 : decode cX6_plan 36 = .ok (.ireturn, 1) := by decide +kernel
theorem dX6_plan_37 : decode cX6_plan 37 = .ok (.bipush 34, 2) := by decide +kernel
theorem dX6_plan_39 : decode cX6_plan 39 = .ok (.iconst 2, 1) := by decide +kernel
theorem dX6_plan_40 : decode cX6_plan 40 = .ok (.aload_n 0, 1) := by decide +kernel
theorem dX6_plan_41 : decode cX6_plan 41 = .ok (.getfield 7, 3) := by decide +kernel
theorem dX6_plan_44 : decode cX6_plan 44 = .ok (.bipush 33, 2) := by decide +kernel
theorem dX6_plan_46 : decode cX6_plan 46 = .ok (.iaload, 1) := by decide +kernel
theorem dX6_plan_47 : decode cX6_plan 47 = .ok (.imul, 1) := by decide +kernel
theorem dX6_plan_48 : decode cX6_plan 48 = .ok (.iadd, 1) := by decide +kernel
theorem dX6_plan_49 : decode cX6_plan 49 = .ok (.istore_n 3, 1) := by decide +kernel
theorem dX6_plan_50 : decode cX6_plan 50 = .ok (.aload_n 0, 1) := by decide +kernel
theorem dX6_plan_51 : decode cX6_plan 51 = .ok (.getfield 7, 3) := by decide +kernel
theorem dX6_plan_54 : decode cX6_plan 54 = .ok (.iload_n 3, 1) := by decide +kernel
theorem dX6_plan_55 : decode cX6_plan 55 = .ok (.iload_n 1, 1) := by decide +kernel
theorem dX6_plan_56 : decode cX6_plan 56 = .ok (.iastore, 1) := by decide +kernel
theorem dX6_plan_57 : decode cX6_plan 57 = .ok (.aload_n 0, 1) := by decide +kernel
theorem dX6_plan_58 : decode cX6_plan 58 = .ok (.getfield 7, 3) := by decide +kernel
theorem dX6_plan_61 : decode cX6_plan 61 = .ok (.iload_n 3, 1) := by decide +kernel
theorem dX6_plan_62 : decode cX6_plan 62 = .ok (.iconst 1, 1) := by decide +kernel
theorem dX6_plan_63 : decode cX6_plan 63 = .ok (.iadd, 1) := by decide +kernel
theorem dX6_plan_64 : decode cX6_plan 64 = .ok (.iload_n 2, 1) := by decide +kernel
theorem dX6_plan_65 : decode cX6_plan 65 = .ok (.iastore, 1) := by decide +kernel
theorem dX6_plan_66 : decode cX6_plan 66 = .ok (.aload_n 0, 1) := by decide +kernel
theorem dX6_plan_67 : decode cX6_plan 67 = .ok (.getfield 7, 3) := by decide +kernel
theorem dX6_plan_70 : decode cX6_plan 70 = .ok (.bipush 33, 2) := by decide +kernel
theorem dX6_plan_72 : decode cX6_plan 72 = .ok (.dup2, 1) := by decide +kernel
theorem dX6_plan_73 : decode cX6_plan 73 = .ok (.iaload, 1) := by decide +kernel
theorem dX6_plan_74 : decode cX6_plan 74 = .ok (.iconst 1, 1) := by decide +kernel
theorem dX6_plan_75 : decode cX6_plan 75 = .ok (.iadd, 1) := by decide +kernel
theorem dX6_plan_76 : decode cX6_plan 76 = .ok (.iastore, 1) := by decide +kernel
theorem dX6_plan_77 : decode cX6_plan 77 = .ok (.aload_n 0, 1) := by decide +kernel
theorem dX6_plan_78 : decode cX6_plan 78 = .ok (.getfield 7, 3) := by decide +kernel
theorem dX6_plan_81 : decode cX6_plan 81 = .ok (.bipush 33, 2) := by decide +kernel
theorem dX6_plan_83 : decode cX6_plan 83 = .ok (.iaload, 1) := by decide +kernel
theorem dX6_plan_84 : decode cX6_plan 84 = .ok (.ireturn, 1) := by decide +kernel
theorem dX6_cut_0 : decode cX6_cut 0 = .ok (.iload_n 1, 1) := by decide +kernel
theorem dX6_cut_1 : decode cX6_cut 1 = .ok (.i2l, 1) := by decide +kernel
theorem dX6_cut_2 : decode cX6_cut 2 = .ok (.lconst 0, 1) := by decide +kernel
theorem dX6_cut_3 : decode cX6_cut 3 = .ok (.aload_n 0, 1) := by decide +kernel
theorem dX6_cut_4 : decode cX6_cut 4 = .ok (.getfield 7, 3) := by decide +kernel
theorem dX6_cut_7 : decode cX6_cut 7 = .ok (.bipush 33, 2) := by decide +kernel
theorem dX6_cut_9 : decode cX6_cut 9 = .ok (.iaload, 1) := by decide +kernel
theorem dX6_cut_10 : decode cX6_cut 10 = .ok (.i2l, 1) := by decide +kernel
theorem dX6_cut_11 : decode cX6_cut 11 = .ok (.invokestatic 69, 3) := by decide +kernel
theorem dX6_cut_14 : decode cX6_cut 14 = .ok (.ifCond .eq 13, 3) := by decide +kernel
theorem dX6_cut_17 : decode cX6_cut 17 = .ok (.aload_n 0, 1) := by decide +kernel
theorem dX6_cut_18 : decode cX6_cut 18 = .ok (.bipush 33, 2) := by decide +kernel
theorem dX6_cut_20 : decode cX6_cut 20 = .ok (.iload_n 1, 1) := by decide +kernel
theorem dX6_cut_21 : decode cX6_cut 21 = .ok (.invokevirtual 195, 3) := by decide +kernel
theorem dX6_cut_24 : decode cX6_cut 24 = .ok (.goto 4, 3) := by decide +kernel
theorem dX6_cut_27 : decode cX6_cut 27 = .ok (.iconst (-1), 1) := by decide +kernel
theorem dX6_cut_28 : decode cX6_cut 28 = .ok (.ireturn, 1) := by decide +kernel
theorem dX6_minutes_0 : decode cX6_minutes 0 = .ok (.iload_n 1, 1) := by decide +kernel
theorem dX6_minutes_1 : decode cX6_minutes 1 = .ok (.i2l, 1) := by decide +kernel
theorem dX6_minutes_2 : decode cX6_minutes 2 = .ok (.lconst 0, 1) := by decide +kernel
theorem dX6_minutes_3 : decode cX6_minutes 3 = .ok (.ldc2_w 203, 3) := by decide +kernel
theorem dX6_minutes_6 : decode cX6_minutes 6 = .ok (.invokestatic 69, 3) := by decide +kernel
theorem dX6_minutes_9 : decode cX6_minutes 9 = .ok (.ifCond .ne 5, 3) := by decide +kernel
theorem dX6_minutes_12 : decode cX6_minutes 12 = .ok (.iconst (-1), 1) := by decide +kernel
theorem dX6_minutes_13 : decode cX6_minutes 13 = .ok (.ireturn, 1) := by decide +kernel
theorem dX6_minutes_14 : decode cX6_minutes 14 = .ok (.aload_n 0, 1) := by decide +kernel
theorem dX6_minutes_15 : decode cX6_minutes 15 = .ok (.getfield 7, 3) := by decide +kernel
theorem dX6_minutes_18 : decode cX6_minutes 18 = .ok (.bipush 27, 2) := by decide +kernel
theorem dX6_minutes_20 : decode cX6_minutes 20 = .ok (.iaload, 1) := by decide +kernel
theorem dX6_minutes_21 : decode cX6_minutes 21 = .ok (.iload_n 1, 1) := by decide +kernel
theorem dX6_minutes_22 : decode cX6_minutes 22 = .ok (.iadd, 1) := by decide +kernel
theorem dX6_minutes_23 : decode cX6_minutes 23 = .ok (.sipush 999, 3) := by decide +kernel
theorem dX6_minutes_26 : decode cX6_minutes 26 = .ok (.if_icmp .le 6, 3) := by decide +kernel
theorem dX6_minutes_29 : decode cX6_minutes 29 = .ok (.bipush (-3), 2) := by decide +kernel
theorem dX6_minutes_31 : decode cX6_minutes 31 = .ok (.ireturn, 1) := by decide +kernel
theorem dX6_minutes_32 : decode cX6_minutes 32 = .ok (.aload_n 0, 1) := by decide +kernel
theorem dX6_minutes_33 : decode cX6_minutes 33 = .ok (.invokevirtual 175, 3) := by decide +kernel
theorem dX6_minutes_36 : decode cX6_minutes 36 = .ok (.aload_n 0, 1) := by decide +kernel
theorem dX6_minutes_37 : decode cX6_minutes 37 = .ok (.iload_n 1, 1) := by decide +kernel
theorem dX6_minutes_38 : decode cX6_minutes 38 = .ok (.invokevirtual 205, 3) := by decide +kernel
theorem dX6_minutes_41 : decode cX6_minutes 41 = .ok (.aload_n 0, 1) := by decide +kernel
theorem dX6_minutes_42 : decode cX6_minutes 42 = .ok (.invokevirtual 208, 3) := by decide +kernel
theorem dX6_minutes_45 : decode cX6_minutes 45 = .ok (.aload_n 0, 1) := by decide +kernel
theorem dX6_minutes_46 : decode cX6_minutes 46 = .ok (.getfield 7, 3) := by decide +kernel
theorem dX6_minutes_49 : decode cX6_minutes 49 = .ok (.bipush 24, 2) := by decide +kernel
theorem dX6_minutes_51 : decode cX6_minutes 51 = .ok (.iaload, 1) := by decide +kernel
theorem dX6_minutes_52 : decode cX6_minutes 52 = .ok (.ireturn, 1) := by decide +kernel
theorem dX6_isFar_0 : decode cX6_isFar 0 = .ok (.iload_n 0, 1) := by decide +kernel
theorem dX6_isFar_1 : decode cX6_isFar 1 = .ok (.i2l, 1) := by decide +kernel
theorem dX6_isFar_2 : decode cX6_isFar 2 = .ok (.lconst 0, 1) := by decide +kernel
theorem dX6_isFar_3 : decode cX6_isFar 3 = .ok (.ldc2_w 211, 3) := by decide +kernel
theorem dX6_isFar_6 : decode cX6_isFar 6 = .ok (.invokestatic 69, 3) := by decide +kernel
theorem dX6_isFar_9 : decode cX6_isFar 9 = .ok (.ireturn, 1) := by decide +kernel
theorem dX6_minutesCount_0 : decode cX6_minutesCount 0 = .ok (.aload_n 0, 1) := by decide +kernel
theorem dX6_minutesCount_1 : decode cX6_minutesCount 1 = .ok (.aload_n 0, 1) := by decide +kernel
theorem dX6_minutesCount_2 : decode cX6_minutesCount 2 = .ok (.getfield 13, 3) := by decide +kernel
theorem dX6_minutesCount_5 : decode cX6_minutesCount 5 = .ok (.bipush 24, 2) := by decide +kernel
theorem dX6_minutesCount_7 : decode cX6_minutesCount 7 = .ok (.iaload, 1) := by decide +kernel
theorem dX6_minutesCount_8 : decode cX6_minutesCount 8 = .ok (.putfield 213, 3) := by decide +kernel
theorem dX6_minutesCount_11 : decode cX6_minutesCount 11 = .ok (.aload_n 0, 1) := by decide +kernel
theorem dX6_minutesCount_12 : decode cX6_minutesCount 12 = .ok (.iconst 0, 1) := by decide +kernel
theorem dX6_minutesCount_13 : decode cX6_minutesCount 13 = .ok (.putfield 216, 3) := by decide +kernel
theorem dX6_minutesCount_16 : decode cX6_minutesCount 16 = .ok (.iconst 0, 1) := by decide +kernel
theorem dX6_minutesCount_17 : decode cX6_minutesCount 17 = .ok (.istore_n 2, 1) := by decide +kernel
theorem dX6_minutesCount_18 : decode cX6_minutesCount 18 = .ok (.iload_n 2, 1) := by decide +kernel
theorem dX6_minutesCount_19 : decode cX6_minutesCount 19 = .ok (.iload_n 1, 1) := by decide +kernel
theorem dX6_minutesCount_20 : decode cX6_minutesCount 20 = .ok (.if_icmp .ge 72, 3) := by decide +kernel
theorem dX6_minutesCount_23 : decode cX6_minutesCount 23 = .ok (.aload_n 0, 1) := by decide +kernel
theorem dX6_minutesCount_24 : decode cX6_minutesCount 24 = .ok (.invokevirtual 172, 3) := by decide +kernel
theorem dX6_minutesCount_27 : decode cX6_minutesCount 27 = .ok (.aload_n 0, 1) := by decide +kernel
theorem dX6_minutesCount_28 : decode cX6_minutesCount 28 = .ok (.aload_n 0, 1) := by decide +kernel
theorem dX6_minutesCount_29 : decode cX6_minutesCount 29 = .ok (.getfield 13, 3) := by decide +kernel
theorem dX6_minutesCount_32 : decode cX6_minutesCount 32 = .ok (.bipush 24, 2) := by decide +kernel
theorem dX6_minutesCount_34 : decode cX6_minutesCount 34 = .ok (.iaload, 1) := by decide +kernel
theorem dX6_minutesCount_35 : decode cX6_minutesCount 35 = .ok (.aload_n 0, 1) := by decide +kernel
theorem dX6_minutesCount_36 : decode cX6_minutesCount 36 = .ok (.getfield 213, 3) := by decide +kernel
theorem dX6_minutesCount_39 : decode cX6_minutesCount 39 = .ok (.if_icmp .le 13, 3) := by decide +kernel
theorem dX6_minutesCount_42 : decode cX6_minutesCount 42 = .ok (.aload_n 0, 1) := by decide +kernel
theorem dX6_minutesCount_43 : decode cX6_minutesCount 43 = .ok (.getfield 13, 3) := by decide +kernel
theorem dX6_minutesCount_46 : decode cX6_minutesCount 46 = .ok (.bipush 24, 2) := by decide +kernel
theorem dX6_minutesCount_48 : decode cX6_minutesCount 48 = .ok (.iaload, 1) := by decide +kernel
theorem dX6_minutesCount_49 : decode cX6_minutesCount 49 = .ok (.goto 7, 3) := by decide +kernel
theorem dX6_minutesCount_52 : decode cX6_minutesCount 52 = .ok (.aload_n 0, 1) := by decide +kernel
theorem dX6_minutesCount_53 : decode cX6_minutesCount 53 = .ok (.getfield 213, 3) := by decide +kernel
theorem dX6_minutesCount_56 : decode cX6_minutesCount 56 = .ok (.putfield 213, 3) := by decide +kernel
theorem dX6_minutesCount_59 : decode cX6_minutesCount 59 = .ok (.aload_n 0, 1) := by decide +kernel
theorem dX6_minutesCount_60 : decode cX6_minutesCount 60 = .ok (.dup, 1) := by decide +kernel
theorem dX6_minutesCount_61 : decode cX6_minutesCount 61 = .ok (.getfield 216, 3) := by decide +kernel
theorem dX6_minutesCount_64 : decode cX6_minutesCount 64 = .ok (.aload_n 0, 1) := by decide +kernel
theorem dX6_minutesCount_65 : decode cX6_minutesCount 65 = .ok (.getfield 13, 3) := by decide +kernel
theorem dX6_minutesCount_68 : decode cX6_minutesCount 68 = .ok (.bipush 24, 2) := by decide +kernel
theorem dX6_minutesCount_70 : decode cX6_minutesCount 70 = .ok (.iaload, 1) := by decide +kernel
theorem dX6_minutesCount_71 : decode cX6_minutesCount 71 = .ok (.ifCond .ne 7, 3) := by decide +kernel
theorem dX6_minutesCount_74 : decode cX6_minutesCount 74 = .ok (.iconst 1, 1) := by decide +kernel
theorem dX6_minutesCount_75 : decode cX6_minutesCount 75 = .ok (.goto 4, 3) := by decide +kernel
theorem dX6_minutesCount_78 : decode cX6_minutesCount 78 = .ok (.iconst 0, 1) := by decide +kernel
theorem dX6_minutesCount_79 : decode cX6_minutesCount 79 = .ok (.invokestatic 219, 3) := by decide +kernel
theorem dX6_minutesCount_82 : decode cX6_minutesCount 82 = .ok (.iadd, 1) := by decide +kernel
theorem dX6_minutesCount_83 : decode cX6_minutesCount 83 = .ok (.putfield 216, 3) := by decide +kernel
theorem dX6_minutesCount_86 : decode cX6_minutesCount 86 = .ok (.iinc 2 1, 3) := by decide +kernel
theorem dX6_minutesCount_89 : decode cX6_minutesCount 89 = .ok (.goto (-71), 3) := by decide +kernel
theorem dX6_minutesCount_92 : decode cX6_minutesCount 92 = .ok (.return_, 1) := by decide +kernel
theorem dX6_runs_0 : decode cX6_runs 0 = .ok (.iload_n 1, 1) := by decide +kernel
theorem dX6_runs_1 : decode cX6_runs 1 = .ok (.invokestatic 223, 3) := by decide +kernel
theorem dX6_runs_4 : decode cX6_runs 4 = .ok (.ifCond .eq 15, 3) := by decide +kernel
theorem dX6_runs_7 : decode cX6_runs 7 = .ok (.iload_n 2, 1) := by decide +kernel
theorem dX6_runs_8 : decode cX6_runs 8 = .ok (.i2l, 1) := by decide +kernel
theorem dX6_runs_9 : decode cX6_runs 9 = .ok (.lconst 0, 1) := by decide +kernel
theorem dX6_runs_10 : decode cX6_runs 10 = .ok (.ldc2_w 142, 3) := by decide +kernel
theorem dX6_runs_13 : decode cX6_runs 13 = .ok (.invokestatic 69, 3) := by decide +kernel
theorem dX6_runs_16 : decode cX6_runs 16 = .ok (.ifCond .ne 5, 3) := by decide +kernel
theorem dX6_runs_19 : decode cX6_runs 19 = .ok (.iconst (-1), 1) := by decide +kernel
theorem dX6_runs_20 : decode cX6_runs 20 = .ok (.ireturn, 1) := by decide +kernel
theorem dX6_runs_21 : decode cX6_runs 21 = .ok (.aload_n 0, 1) := by decide +kernel
theorem dX6_runs_22 : decode cX6_runs 22 = .ok (.invokevirtual 175, 3) := by decide +kernel
theorem dX6_runs_25 : decode cX6_runs 25 = .ok (.aload_n 0, 1) := by decide +kernel
theorem dX6_runs_26 : decode cX6_runs 26 = .ok (.iload_n 1, 1) := by decide +kernel
theorem dX6_runs_27 : decode cX6_runs 27 = .ok (.invokevirtual 226, 3) := by decide +kernel
theorem dX6_runs_30 : decode cX6_runs 30 = .ok (.iload_n 2, 1) := by decide +kernel
theorem dX6_runs_31 : decode cX6_runs 31 = .ok (.tableswitch 55 0 3 #[29, 37, 45, 50], 29) := by decide +kernel
theorem dX6_runs_60 : decode cX6_runs 60 = .ok (.aload_n 0, 1) := by decide +kernel
theorem dX6_runs_61 : decode cX6_runs 61 = .ok (.getfield 13, 3) := by decide +kernel
theorem dX6_runs_64 : decode cX6_runs 64 = .ok (.bipush 24, 2) := by decide +kernel
theorem dX6_runs_66 : decode cX6_runs 66 = .ok (.iaload, 1) := by decide +kernel
theorem dX6_runs_67 : decode cX6_runs 67 = .ok (.ireturn, 1) := by decide +kernel
theorem dX6_runs_68 : decode cX6_runs 68 = .ok (.aload_n 0, 1) := by decide +kernel
theorem dX6_runs_69 : decode cX6_runs 69 = .ok (.getfield 13, 3) := by decide +kernel
theorem dX6_runs_72 : decode cX6_runs 72 = .ok (.bipush 25, 2) := by decide +kernel
theorem dX6_runs_74 : decode cX6_runs 74 = .ok (.iaload, 1) := by decide +kernel
theorem dX6_runs_75 : decode cX6_runs 75 = .ok (.ireturn, 1) := by decide +kernel
theorem dX6_runs_76 : decode cX6_runs 76 = .ok (.aload_n 0, 1) := by decide +kernel
theorem dX6_runs_77 : decode cX6_runs 77 = .ok (.getfield 213, 3) := by decide +kernel
theorem dX6_runs_80 : decode cX6_runs 80 = .ok (.ireturn, 1) := by decide +kernel
theorem dX6_runs_81 : decode cX6_runs 81 = .ok (.aload_n 0, 1) := by decide +kernel
theorem dX6_runs_82 : decode cX6_runs 82 = .ok (.getfield 216, 3) := by decide +kernel
theorem dX6_runs_85 : decode cX6_runs 85 = .ok (.ireturn, 1) := by decide +kernel
theorem dX6_runs_86 : decode cX6_runs 86 = .ok (.aload_n 0, 1) := by decide +kernel
theorem dX6_runs_87 : decode cX6_runs 87 = .ok (.invokevirtual 178, 3) := by decide +kernel
theorem dX6_runs_90 : decode cX6_runs 90 = .ok (.ireturn, 1) := by decide +kernel
theorem dX6_minutesDown_0 : decode cX6_minutesDown 0 = .ok (.iconst 1, 1) := by decide +kernel
theorem dX6_minutesDown_1 : decode cX6_minutesDown 1 = .ok (.istore_n 1, 1) := by decide +kernel
theorem dX6_minutesDown_2 : decode cX6_minutesDown 2 = .ok (.iload_n 1, 1) := by decide +kernel
theorem dX6_minutesDown_3 : decode cX6_minutesDown 3 = .ok (.bipush 60, 2) := by decide +kernel
theorem dX6_minutesDown_5 : decode cX6_minutesDown 5 = .ok (.if_icmp .gt 25, 3) := by decide +kernel
theorem dX6_minutesDown_8 : decode cX6_minutesDown 8 = .ok (.aload_n 0, 1) := by decide +kernel
theorem dX6_minutesDown_9 : decode cX6_minutesDown 9 = .ok (.invokevirtual 172, 3) := by decide +kernel
theorem dX6_minutesDown_12 : decode cX6_minutesDown 12 = .ok (.aload_n 0, 1) := by decide +kernel
theorem dX6_minutesDown_13 : decode cX6_minutesDown 13 = .ok (.getfield 13, 3) := by decide +kernel
theorem dX6_minutesDown_16 : decode cX6_minutesDown 16 = .ok (.bipush 24, 2) := by decide +kernel
theorem dX6_minutesDown_18 : decode cX6_minutesDown 18 = .ok (.iaload, 1) := by decide +kernel
theorem dX6_minutesDown_19 : decode cX6_minutesDown 19 = .ok (.ifCond .ne 5, 3) := by decide +kernel
theorem dX6_minutesDown_22 : decode cX6_minutesDown 22 = .ok (.iload_n 1, 1) := by decide +kernel
theorem dX6_minutesDown_23 : decode cX6_minutesDown 23 = .ok (.ireturn, 1) := by decide +kernel
theorem dX6_minutesDown_24 : decode cX6_minutesDown 24 = .ok (.iinc 1 1, 3) := by decide +kernel
theorem dX6_minutesDown_27 : decode cX6_minutesDown 27 = .ok (.goto (-25), 3) := by decide +kernel
theorem dX6_minutesDown_30 : decode cX6_minutesDown 30 = .ok (.bipush (-4), 2) := by decide +kernel
theorem dX6_minutesDown_32 : decode cX6_minutesDown 32 = .ok (.ireturn, 1) := by decide +kernel
theorem dX6_minutesTo_0 : decode cX6_minutesTo 0 = .ok (.iconst 0, 1) := by decide +kernel
theorem dX6_minutesTo_1 : decode cX6_minutesTo 1 = .ok (.istore_n 2, 1) := by decide +kernel
theorem dX6_minutesTo_2 : decode cX6_minutesTo 2 = .ok (.iload_n 2, 1) := by decide +kernel
theorem dX6_minutesTo_3 : decode cX6_minutesTo 3 = .ok (.bipush 60, 2) := by decide +kernel
theorem dX6_minutesTo_5 : decode cX6_minutesTo 5 = .ok (.if_icmp .gt 36, 3) := by decide +kernel
theorem dX6_minutesTo_8 : decode cX6_minutesTo 8 = .ok (.aload_n 0, 1) := by decide +kernel
theorem dX6_minutesTo_9 : decode cX6_minutesTo 9 = .ok (.getfield 13, 3) := by decide +kernel
theorem dX6_minutesTo_12 : decode cX6_minutesTo 12 = .ok (.bipush 24, 2) := by decide +kernel
theorem dX6_minutesTo_14 : decode cX6_minutesTo 14 = .ok (.iaload, 1) := by decide +kernel
theorem dX6_minutesTo_15 : decode cX6_minutesTo 15 = .ok (.ifCond .ne 16, 3) := by decide +kernel
theorem dX6_minutesTo_18 : decode cX6_minutesTo 18 = .ok (.aload_n 0, 1) := by decide +kernel
theorem dX6_minutesTo_19 : decode cX6_minutesTo 19 = .ok (.getfield 13, 3) := by decide +kernel
theorem dX6_minutesTo_22 : decode cX6_minutesTo 22 = .ok (.bipush 25, 2) := by decide +kernel
theorem dX6_minutesTo_24 : decode cX6_minutesTo 24 = .ok (.iaload, 1) := by decide +kernel
theorem dX6_minutesTo_25 : decode cX6_minutesTo 25 = .ok (.iload_n 1, 1) := by decide +kernel
theorem dX6_minutesTo_26 : decode cX6_minutesTo 26 = .ok (.if_icmp .ne 5, 3) := by decide +kernel
theorem dX6_minutesTo_29 : decode cX6_minutesTo 29 = .ok (.iload_n 2, 1) := by decide +kernel
theorem dX6_minutesTo_30 : decode cX6_minutesTo 30 = .ok (.ireturn, 1) := by decide +kernel
theorem dX6_minutesTo_31 : decode cX6_minutesTo 31 = .ok (.aload_n 0, 1) := by decide +kernel
theorem dX6_minutesTo_32 : decode cX6_minutesTo 32 = .ok (.invokevirtual 172, 3) := by decide +kernel
theorem dX6_minutesTo_35 : decode cX6_minutesTo 35 = .ok (.iinc 2 1, 3) := by decide +kernel
theorem dX6_minutesTo_38 : decode cX6_minutesTo 38 = .ok (.goto (-36), 3) := by decide +kernel
theorem dX6_minutesTo_41 : decode cX6_minutesTo 41 = .ok (.bipush (-4), 2) := by decide +kernel
theorem dX6_minutesTo_43 : decode cX6_minutesTo 43 = .ok (.ireturn, 1) := by decide +kernel
theorem dX6_falls_0 : decode cX6_falls 0 = .ok (.aload_n 0, 1) := by decide +kernel
theorem dX6_falls_1 : decode cX6_falls 1 = .ok (.invokevirtual 175, 3) := by decide +kernel
theorem dX6_falls_4 : decode cX6_falls 4 = .ok (.aload_n 0, 1) := by decide +kernel
theorem dX6_falls_5 : decode cX6_falls 5 = .ok (.invokevirtual 229, 3) := by decide +kernel
theorem dX6_falls_8 : decode cX6_falls 8 = .ok (.ireturn, 1) := by decide +kernel
theorem dX6_church_0 : decode cX6_church 0 = .ok (.iload_n 1, 1) := by decide +kernel
theorem dX6_church_1 : decode cX6_church 1 = .ok (.invokestatic 232, 3) := by decide +kernel
theorem dX6_church_4 : decode cX6_church 4 = .ok (.ifCond .ne 5, 3) := by decide +kernel
theorem dX6_church_7 : decode cX6_church 7 = .ok (.iconst (-1), 1) := by decide +kernel
theorem dX6_church_8 : decode cX6_church 8 = .ok (.ireturn, 1) := by decide +kernel
theorem dX6_church_9 : decode cX6_church 9 = .ok (.aload_n 0, 1) := by decide +kernel
theorem dX6_church_10 : decode cX6_church 10 = .ok (.invokevirtual 175, 3) := by decide +kernel
theorem dX6_church_13 : decode cX6_church 13 = .ok (.aload_n 0, 1) := by decide +kernel
theorem dX6_church_14 : decode cX6_church 14 = .ok (.iload_n 1, 1) := by decide +kernel
theorem dX6_church_15 : decode cX6_church 15 = .ok (.invokevirtual 235, 3) := by decide +kernel
theorem dX6_church_18 : decode cX6_church 18 = .ok (.ireturn, 1) := by decide +kernel
theorem dX6_startsJudging_0 : decode cX6_startsJudging 0 = .ok (.aload_n 0, 1) := by decide +kernel
theorem dX6_startsJudging_1 : decode cX6_startsJudging 1 = .ok (.bipush (-4), 2) := by decide +kernel
theorem dX6_startsJudging_3 : decode cX6_startsJudging 3 = .ok (.putfield 238, 3) := by decide +kernel
theorem dX6_startsJudging_6 : decode cX6_startsJudging 6 = .ok (.aload_n 0, 1) := by decide +kernel
theorem dX6_startsJudging_7 : decode cX6_startsJudging 7 = .ok (.iload_n 1, 1) := by decide +kernel
theorem dX6_startsJudging_8 : decode cX6_startsJudging 8 = .ok (.putfield 241, 3) := by decide +kernel
theorem dX6_startsJudging_11 : decode cX6_startsJudging 11 = .ok (.return_, 1) := by decide +kernel
theorem dX6_judges_0 : decode cX6_judges 0 = .ok (.iload_n 2, 1) := by decide +kernel
theorem dX6_judges_1 : decode cX6_judges 1 = .ok (.bipush (-4), 2) := by decide +kernel
theorem dX6_judges_3 : decode cX6_judges 3 = .ok (.if_icmp .eq 21, 3) := by decide +kernel
theorem dX6_judges_6 : decode cX6_judges 6 = .ok (.iload_n 2, 1) := by decide +kernel
theorem dX6_judges_7 : decode cX6_judges 7 = .ok (.aload_n 0, 1) := by decide +kernel
theorem dX6_judges_8 : decode cX6_judges 8 = .ok (.getfield 241, 3) := by decide +kernel
theorem dX6_judges_11 : decode cX6_judges 11 = .ok (.if_icmp .ge 13, 3) := by decide +kernel
theorem dX6_judges_14 : decode cX6_judges 14 = .ok (.aload_n 0, 1) := by decide +kernel
theorem dX6_judges_15 : decode cX6_judges 15 = .ok (.iload_n 1, 1) := by decide +kernel
theorem dX6_judges_16 : decode cX6_judges 16 = .ok (.putfield 238, 3) := by decide +kernel
theorem dX6_judges_19 : decode cX6_judges 19 = .ok (.aload_n 0, 1) := by decide +kernel
theorem dX6_judges_20 : decode cX6_judges 20 = .ok (.iload_n 2, 1) := by decide +kernel
theorem dX6_judges_21 : decode cX6_judges 21 = .ok (.putfield 241, 3) := by decide +kernel
theorem dX6_judges_24 : decode cX6_judges 24 = .ok (.return_, 1) := by decide +kernel
theorem dX6_judged_0 : decode cX6_judged 0 = .ok (.aload_n 0, 1) := by decide +kernel
theorem dX6_judged_1 : decode cX6_judged 1 = .ok (.getfield 238, 3) := by decide +kernel
theorem dX6_judged_4 : decode cX6_judged 4 = .ok (.bipush (-4), 2) := by decide +kernel
theorem dX6_judged_6 : decode cX6_judged 6 = .ok (.if_icmp .ne 8, 3) := by decide +kernel
theorem dX6_judged_9 : decode cX6_judged 9 = .ok (.bipush (-4), 2) := by decide +kernel
theorem dX6_judged_11 : decode cX6_judged 11 = .ok (.goto 18, 3) := by decide +kernel
theorem dX6_judged_14 : decode cX6_judged 14 = .ok (.iload_n 1, 1) := by decide +kernel
theorem dX6_judged_15 : decode cX6_judged 15 = .ok (.ifCond .ne 10, 3) := by decide +kernel
theorem dX6_judged_18 : decode cX6_judged 18 = .ok (.aload_n 0, 1) := by decide +kernel
theorem dX6_judged_19 : decode cX6_judged 19 = .ok (.getfield 238, 3) := by decide +kernel
theorem dX6_judged_22 : decode cX6_judged 22 = .ok (.goto 7, 3) := by decide +kernel
theorem dX6_judged_25 : decode cX6_judged 25 = .ok (.aload_n 0, 1) := by decide +kernel
theorem dX6_judged_26 : decode cX6_judged 26 = .ok (.getfield 241, 3) := by decide +kernel
theorem dX6_judged_29 : decode cX6_judged 29 = .ok (.ireturn, 1) := by decide +kernel
theorem dX6_isUnsaid_0 : decode cX6_isUnsaid 0 = .ok (.aload_n 0, 1) := by decide +kernel
theorem dX6_isUnsaid_1 : decode cX6_isUnsaid 1 = .ok (.getfield 7, 3) := by decide +kernel
theorem dX6_isUnsaid_4 : decode cX6_isUnsaid 4 = .ok (.iconst 4, 1) := by decide +kernel
theorem dX6_isUnsaid_5 : decode cX6_isUnsaid 5 = .ok (.iload_n 1, 1) := by decide +kernel
theorem dX6_isUnsaid_6 : decode cX6_isUnsaid 6 = .ok (.imul, 1) := by decide +kernel
theorem dX6_isUnsaid_7 : decode cX6_isUnsaid 7 = .ok (.iconst 3, 1) := by decide +kernel
theorem dX6_isUnsaid_8 : decode cX6_isUnsaid 8 = .ok (.iadd, 1) := by decide +kernel
theorem dX6_isUnsaid_9 : decode cX6_isUnsaid 9 = .ok (.iaload, 1) := by decide +kernel
theorem dX6_isUnsaid_10 : decode cX6_isUnsaid 10 = .ok (.ifCond .ne 7, 3) := by decide +kernel
theorem dX6_isUnsaid_13 : decode cX6_isUnsaid 13 = .ok (.iconst 1, 1) := by decide +kernel
theorem dX6_isUnsaid_14 : decode cX6_isUnsaid 14 = .ok (.goto 4, 3) := by decide +kernel
theorem dX6_isUnsaid_17 : decode cX6_isUnsaid 17 = .ok (.iconst 0, 1) := by decide +kernel
theorem dX6_isUnsaid_18 : decode cX6_isUnsaid 18 = .ok (.ireturn, 1) := by decide +kernel
theorem dX6_best_0 : decode cX6_best 0 = .ok (.iload_n 1, 1) := by decide +kernel
theorem dX6_best_1 : decode cX6_best 1 = .ok (.invokestatic 188, 3) := by decide +kernel
theorem dX6_best_4 : decode cX6_best 4 = .ok (.ifCond .ne 5, 3) := by decide +kernel
theorem dX6_best_7 : decode cX6_best 7 = .ok (.iconst (-1), 1) := by decide +kernel
theorem dX6_best_8 : decode cX6_best 8 = .ok (.ireturn, 1) := by decide +kernel
theorem dX6_best_9 : decode cX6_best 9 = .ok (.aload_n 0, 1) := by decide +kernel
theorem dX6_best_10 : decode cX6_best 10 = .ok (.ldc 244, 2) := by decide +kernel
theorem dX6_best_12 : decode cX6_best 12 = .ok (.invokevirtual 245, 3) := by decide +kernel
theorem dX6_best_15 : decode cX6_best 15 = .ok (.iconst 0, 1) := by decide +kernel
theorem dX6_best_16 : decode cX6_best 16 = .ok (.istore_n 2, 1) := by decide +kernel
theorem dX6_best_17 : decode cX6_best 17 = .ok (.iload_n 2, 1) := by decide +kernel
theorem dX6_best_18 : decode cX6_best 18 = .ok (.aload_n 0, 1) := by decide +kernel
theorem dX6_best_19 : decode cX6_best 19 = .ok (.getfield 64, 3) := by decide +kernel
theorem dX6_best_22 : decode cX6_best 22 = .ok (.if_icmp .ge 37, 3) := by decide +kernel
theorem dX6_best_25 : decode cX6_best 25 = .ok (.aload_n 0, 1) := by decide +kernel
theorem dX6_best_26 : decode cX6_best 26 = .ok (.iload_n 2, 1) := by decide +kernel
theorem dX6_best_27 : decode cX6_best 27 = .ok (.invokevirtual 248, 3) := by decide +kernel
theorem dX6_best_30 : decode cX6_best 30 = .ok (.ifCond .eq 23, 3) := by decide +kernel
theorem dX6_best_33 : decode cX6_best 33 = .ok (.aload_n 0, 1) := by decide +kernel
theorem dX6_best_34 : decode cX6_best 34 = .ok (.invokevirtual 175, 3) := by decide +kernel
theorem dX6_best_37 : decode cX6_best 37 = .ok (.aload_n 0, 1) := by decide +kernel
theorem dX6_best_38 : decode cX6_best 38 = .ok (.iload_n 2, 1) := by decide +kernel
theorem dX6_best_39 : decode cX6_best 39 = .ok (.iconst 3, 1) := by decide +kernel
theorem dX6_best_40 : decode cX6_best 40 = .ok (.iconst 1, 1) := by decide +kernel
theorem dX6_best_41 : decode cX6_best 41 = .ok (.invokevirtual 162, 3) := by decide +kernel
theorem dX6_best_44 : decode cX6_best 44 = .ok (.aload_n 0, 1) := by decide +kernel
theorem dX6_best_45 : decode cX6_best 45 = .ok (.iload_n 2, 1) := by decide +kernel
theorem dX6_best_46 : decode cX6_best 46 = .ok (.aload_n 0, 1) := by decide +kernel
theorem dX6_best_47 : decode cX6_best 47 = .ok (.invokevirtual 229, 3) := by decide +kernel
theorem dX6_best_50 : decode cX6_best 50 = .ok (.invokevirtual 251, 3) := by decide +kernel
theorem dX6_best_53 : decode cX6_best 53 = .ok (.iinc 2 1, 3) := by decide +kernel
theorem dX6_best_56 : decode cX6_best 56 = .ok (.goto (-39), 3) := by decide +kernel
theorem dX6_best_59 : decode cX6_best 59 = .ok (.aload_n 0, 1) := by decide +kernel
theorem dX6_best_60 : decode cX6_best 60 = .ok (.iload_n 1, 1) := by decide +kernel
theorem dX6_best_61 : decode cX6_best 61 = .ok (.invokevirtual 255, 3) := by decide +kernel
theorem dX6_best_64 : decode cX6_best 64 = .ok (.ireturn, 1) := by decide +kernel
theorem dX6_both_0 : decode cX6_both 0 = .ok (.iload_n 1, 1) := by decide +kernel
theorem dX6_both_1 : decode cX6_both 1 = .ok (.invokestatic 232, 3) := by decide +kernel
theorem dX6_both_4 : decode cX6_both 4 = .ok (.ifCond .eq 10, 3) := by decide +kernel
theorem dX6_both_7 : decode cX6_both 7 = .ok (.iload_n 2, 1) := by decide +kernel
theorem dX6_both_8 : decode cX6_both 8 = .ok (.invokestatic 188, 3) := by decide +kernel
theorem dX6_both_11 : decode cX6_both 11 = .ok (.ifCond .ne 5, 3) := by decide +kernel
theorem dX6_both_14 : decode cX6_both 14 = .ok (.iconst (-1), 1) := by decide +kernel
theorem dX6_both_15 : decode cX6_both 15 = .ok (.ireturn, 1) := by decide +kernel
theorem dX6_both_16 : decode cX6_both 16 = .ok (.aload_n 0, 1) := by decide +kernel
theorem dX6_both_17 : decode cX6_both 17 = .ok (.ldc 244, 2) := by decide +kernel
theorem dX6_both_19 : decode cX6_both 19 = .ok (.invokevirtual 245, 3) := by decide +kernel
theorem dX6_both_22 : decode cX6_both 22 = .ok (.iconst 0, 1) := by decide +kernel
theorem dX6_both_23 : decode cX6_both 23 = .ok (.istore_n 3, 1) := by decide +kernel
theorem dX6_both_24 : decode cX6_both 24 = .ok (.iload_n 3, 1) := by decide +kernel
theorem dX6_both_25 : decode cX6_both 25 = .ok (.aload_n 0, 1) := by decide +kernel
theorem dX6_both_26 : decode cX6_both 26 = .ok (.getfield 64, 3) := by decide +kernel
theorem dX6_both_29 : decode cX6_both 29 = .ok (.if_icmp .ge 81, 3) := by decide +kernel
theorem dX6_both_32 : decode cX6_both 32 = .ok (.iload_n 3, 1) := by decide +kernel
theorem dX6_both_33 : decode cX6_both 33 = .ok (.iconst 1, 1) := by decide +kernel
theorem dX6_both_34 : decode cX6_both 34 = .ok (.iadd, 1) := by decide +kernel
theorem dX6_both_35 : decode cX6_both 35 = .ok (.istore 4, 2) := by decide +kernel
theorem dX6_both_37 : decode cX6_both 37 = .ok (.iload 4, 2) := by decide +kernel
theorem dX6_both_39 : decode cX6_both 39 = .ok (.aload_n 0, 1) := by decide +kernel
theorem dX6_both_40 : decode cX6_both 40 = .ok (.getfield 64, 3) := by decide +kernel
theorem dX6_both_43 : decode cX6_both 43 = .ok (.if_icmp .ge 61, 3) := by decide +kernel
theorem dX6_both_46 : decode cX6_both 46 = .ok (.aload_n 0, 1) := by decide +kernel
theorem dX6_both_47 : decode cX6_both 47 = .ok (.iload_n 3, 1) := by decide +kernel
theorem dX6_both_48 : decode cX6_both 48 = .ok (.invokevirtual 248, 3) := by decide +kernel
theorem dX6_both_51 : decode cX6_both 51 = .ok (.ifCond .eq 47, 3) := by decide +kernel
theorem dX6_both_54 : decode cX6_both 54 = .ok (.aload_n 0, 1) := by decide +kernel
theorem dX6_both_55 : decode cX6_both 55 = .ok (.iload 4, 2) := by decide +kernel
theorem dX6_both_57 : decode cX6_both 57 = .ok (.invokevirtual 248, 3) := by decide +kernel
theorem dX6_both_60 : decode cX6_both 60 = .ok (.ifCond .eq 38, 3) := by decide +kernel
theorem dX6_both_63 : decode cX6_both 63 = .ok (.aload_n 0, 1) := by decide +kernel
theorem dX6_both_64 : decode cX6_both 64 = .ok (.invokevirtual 175, 3) := by decide +kernel
theorem dX6_both_67 : decode cX6_both 67 = .ok (.aload_n 0, 1) := by decide +kernel
theorem dX6_both_68 : decode cX6_both 68 = .ok (.iload_n 3, 1) := by decide +kernel
theorem dX6_both_69 : decode cX6_both 69 = .ok (.iconst 3, 1) := by decide +kernel
theorem dX6_both_70 : decode cX6_both 70 = .ok (.iconst 1, 1) := by decide +kernel
theorem dX6_both_71 : decode cX6_both 71 = .ok (.invokevirtual 162, 3) := by decide +kernel
theorem dX6_both_74 : decode cX6_both 74 = .ok (.aload_n 0, 1) := by decide +kernel
theorem dX6_both_75 : decode cX6_both 75 = .ok (.iload 4, 2) := by decide +kernel
theorem dX6_both_77 : decode cX6_both 77 = .ok (.iconst 3, 1) := by decide +kernel
theorem dX6_both_78 : decode cX6_both 78 = .ok (.iconst 1, 1) := by decide +kernel
theorem dX6_both_79 : decode cX6_both 79 = .ok (.invokevirtual 162, 3) := by decide +kernel
theorem dX6_both_82 : decode cX6_both 82 = .ok (.aload_n 0, 1) := by decide +kernel
theorem dX6_both_83 : decode cX6_both 83 = .ok (.bipush 10, 2) := by decide +kernel
theorem dX6_both_85 : decode cX6_both 85 = .ok (.iload_n 3, 1) := by decide +kernel
theorem dX6_both_86 : decode cX6_both 86 = .ok (.imul, 1) := by decide +kernel
theorem dX6_both_87 : decode cX6_both 87 = .ok (.iload 4, 2) := by decide +kernel
theorem dX6_both_89 : decode cX6_both 89 = .ok (.iadd, 1) := by decide +kernel
theorem dX6_both_90 : decode cX6_both 90 = .ok (.aload_n 0, 1) := by decide +kernel
theorem dX6_both_91 : decode cX6_both 91 = .ok (.iload_n 1, 1) := by decide +kernel
theorem dX6_both_92 : decode cX6_both 92 = .ok (.invokevirtual 235, 3) := by decide +kernel
theorem dX6_both_95 : decode cX6_both 95 = .ok (.invokevirtual 251, 3) := by decide +kernel
theorem dX6_both_98 : decode cX6_both 98 = .ok (.iinc 4 1, 3) := by decide +kernel
theorem dX6_both_101 : decode cX6_both 101 = .ok (.goto (-64), 3) := by decide +kernel
theorem dX6_both_104 : decode cX6_both 104 = .ok (.iinc 3 1, 3) := by decide +kernel
theorem dX6_both_107 : decode cX6_both 107 = .ok (.goto (-83), 3) := by decide +kernel
theorem dX6_both_110 : decode cX6_both 110 = .ok (.aload_n 0, 1) := by decide +kernel
theorem dX6_both_111 : decode cX6_both 111 = .ok (.iload_n 2, 1) := by decide +kernel
theorem dX6_both_112 : decode cX6_both 112 = .ok (.invokevirtual 255, 3) := by decide +kernel
theorem dX6_both_115 : decode cX6_both 115 = .ok (.ireturn, 1) := by decide +kernel
theorem dX6_when_0 : decode cX6_when 0 = .ok (.aload_n 0, 1) := by decide +kernel
theorem dX6_when_1 : decode cX6_when 1 = .ok (.iload_n 1, 1) := by decide +kernel
theorem dX6_when_2 : decode cX6_when 2 = .ok (.invokevirtual 181, 3) := by decide +kernel
theorem dX6_when_5 : decode cX6_when 5 = .ok (.ifCond .eq 25, 3) := by decide +kernel
theorem dX6_when_8 : decode cX6_when 8 = .ok (.iload_n 2, 1) := by decide +kernel
theorem dX6_when_9 : decode cX6_when 9 = .ok (.invokestatic 232, 3) := by decide +kernel
theorem dX6_when_12 : decode cX6_when 12 = .ok (.ifCond .eq 18, 3) := by decide +kernel
theorem dX6_when_15 : decode cX6_when 15 = .ok (.iload_n 3, 1) := by decide +kernel
theorem dX6_when_16 : decode cX6_when 16 = .ok (.invokestatic 223, 3) := by decide +kernel
theorem dX6_when_19 : decode cX6_when 19 = .ok (.ifCond .eq 11, 3) := by decide +kernel
theorem dX6_when_22 : decode cX6_when 22 = .ok (.iload 4, 2) := by decide +kernel
theorem dX6_when_24 : decode cX6_when 24 = .ok (.invokestatic 188, 3) := by decide +kernel
theorem dX6_when_27 : decode cX6_when 27 = .ok (.ifCond .ne 5, 3) := by decide +kernel
theorem dX6_when_30 : decode cX6_when 30 = .ok (.iconst (-1), 1) := by decide +kernel
theorem dX6_when_31 : decode cX6_when 31 = .ok (.ireturn, 1) := by decide +kernel
theorem dX6_when_32 : decode cX6_when 32 = .ok (.aload_n 0, 1) := by decide +kernel
theorem dX6_when_33 : decode cX6_when 33 = .ok (.ldc 244, 2) := by decide +kernel
theorem dX6_when_35 : decode cX6_when 35 = .ok (.invokevirtual 245, 3) := by decide +kernel
theorem dX6_when_38 : decode cX6_when 38 = .ok (.iconst 0, 1) := by decide +kernel
theorem dX6_when_39 : decode cX6_when 39 = .ok (.istore 5, 2) := by decide +kernel
theorem dX6_when_41 : decode cX6_when 41 = .ok (.iload 5, 2) := by decide +kernel
theorem dX6_when_43 : decode cX6_when 43 = .ok (.bipush 30, 2) := by decide +kernel
theorem dX6_when_45 : decode cX6_when 45 = .ok (.if_icmp .gt 48, 3) := by decide +kernel
theorem dX6_when_48 : decode cX6_when 48 = .ok (.aload_n 0, 1) := by decide +kernel
theorem dX6_when_49 : decode cX6_when 49 = .ok (.invokevirtual 175, 3) := by decide +kernel
theorem dX6_when_52 : decode cX6_when 52 = .ok (.aload_n 0, 1) := by decide +kernel
theorem dX6_when_53 : decode cX6_when 53 = .ok (.iload_n 1, 1) := by decide +kernel
theorem dX6_when_54 : decode cX6_when 54 = .ok (.putfield 149, 3) := by decide +kernel
theorem dX6_when_57 : decode cX6_when 57 = .ok (.aload_n 0, 1) := by decide +kernel
theorem dX6_when_58 : decode cX6_when 58 = .ok (.aload_n 0, 1) := by decide +kernel
theorem dX6_when_59 : decode cX6_when 59 = .ok (.getfield 13, 3) := by decide +kernel
theorem dX6_when_62 : decode cX6_when 62 = .ok (.bipush 27, 2) := by decide +kernel
theorem dX6_when_64 : decode cX6_when 64 = .ok (.iaload, 1) := by decide +kernel
theorem dX6_when_65 : decode cX6_when 65 = .ok (.iload 5, 2) := by decide +kernel
theorem dX6_when_67 : decode cX6_when 67 = .ok (.iadd, 1) := by decide +kernel
theorem dX6_when_68 : decode cX6_when 68 = .ok (.putfield 166, 3) := by decide +kernel
theorem dX6_when_71 : decode cX6_when 71 = .ok (.aload_n 0, 1) := by decide +kernel
theorem dX6_when_72 : decode cX6_when 72 = .ok (.iload_n 3, 1) := by decide +kernel
theorem dX6_when_73 : decode cX6_when 73 = .ok (.invokevirtual 205, 3) := by decide +kernel
theorem dX6_when_76 : decode cX6_when 76 = .ok (.aload_n 0, 1) := by decide +kernel
theorem dX6_when_77 : decode cX6_when 77 = .ok (.iload 5, 2) := by decide +kernel
theorem dX6_when_79 : decode cX6_when 79 = .ok (.aload_n 0, 1) := by decide +kernel
theorem dX6_when_80 : decode cX6_when 80 = .ok (.iload_n 2, 1) := by decide +kernel
theorem dX6_when_81 : decode cX6_when 81 = .ok (.invokevirtual 258, 3) := by decide +kernel
theorem dX6_when_84 : decode cX6_when 84 = .ok (.invokevirtual 251, 3) := by decide +kernel
theorem dX6_when_87 : decode cX6_when 87 = .ok (.iinc 5 1, 3) := by decide +kernel
theorem dX6_when_90 : decode cX6_when 90 = .ok (.goto (-49), 3) := by decide +kernel
theorem dX6_when_93 : decode cX6_when 93 = .ok (.aload_n 0, 1) := by decide +kernel
theorem dX6_when_94 : decode cX6_when 94 = .ok (.iload 4, 2) := by decide +kernel
theorem dX6_when_96 : decode cX6_when 96 = .ok (.invokevirtual 255, 3) := by decide +kernel
theorem dX6_when_99 : decode cX6_when 99 = .ok (.ireturn, 1) := by decide +kernel
theorem dX6_steer_0 : decode cX6_steer 0 = .ok (.iload_n 1, 1) := by decide +kernel
theorem dX6_steer_1 : decode cX6_steer 1 = .ok (.invokestatic 185, 3) := by decide +kernel
theorem dX6_steer_4 : decode cX6_steer 4 = .ok (.ifCond .eq 25, 3) := by decide +kernel
theorem dX6_steer_7 : decode cX6_steer 7 = .ok (.iload_n 2, 1) := by decide +kernel
theorem dX6_steer_8 : decode cX6_steer 8 = .ok (.invokestatic 232, 3) := by decide +kernel
theorem dX6_steer_11 : decode cX6_steer 11 = .ok (.ifCond .eq 18, 3) := by decide +kernel
theorem dX6_steer_14 : decode cX6_steer 14 = .ok (.iload_n 3, 1) := by decide +kernel
theorem dX6_steer_15 : decode cX6_steer 15 = .ok (.invokestatic 223, 3) := by decide +kernel
theorem dX6_steer_18 : decode cX6_steer 18 = .ok (.ifCond .eq 11, 3) := by decide +kernel
theorem dX6_steer_21 : decode cX6_steer 21 = .ok (.iload 4, 2) := by decide +kernel
theorem dX6_steer_23 : decode cX6_steer 23 = .ok (.invokestatic 188, 3) := by decide +kernel
theorem dX6_steer_26 : decode cX6_steer 26 = .ok (.ifCond .ne 5, 3) := by decide +kernel
theorem dX6_steer_29 : decode cX6_steer 29 = .ok (.iconst (-1), 1) := by decide +kernel
theorem dX6_steer_30 : decode cX6_steer 30 = .ok (.ireturn, 1) := by decide +kernel
theorem dX6_steer_31 : decode cX6_steer 31 = .ok (.aload_n 0, 1) := by decide +kernel
theorem dX6_steer_32 : decode cX6_steer 32 = .ok (.ldc 244, 2) := by decide +kernel
theorem dX6_steer_34 : decode cX6_steer 34 = .ok (.invokevirtual 245, 3) := by decide +kernel
theorem dX6_steer_37 : decode cX6_steer 37 = .ok (.iconst 0, 1) := by decide +kernel
theorem dX6_steer_38 : decode cX6_steer 38 = .ok (.istore 5, 2) := by decide +kernel
theorem dX6_steer_40 : decode cX6_steer 40 = .ok (.iload 5, 2) := by decide +kernel
theorem dX6_steer_42 : decode cX6_steer 42 = .ok (.bipush 8, 2) := by decide +kernel
theorem dX6_steer_44 : decode cX6_steer 44 = .ok (.if_icmp .gt 40, 3) := by decide +kernel
theorem dX6_steer_47 : decode cX6_steer 47 = .ok (.aload_n 0, 1) := by decide +kernel
theorem dX6_steer_48 : decode cX6_steer 48 = .ok (.invokevirtual 175, 3) := by decide +kernel
theorem dX6_steer_51 : decode cX6_steer 51 = .ok (.aload_n 0, 1) := by decide +kernel
theorem dX6_steer_52 : decode cX6_steer 52 = .ok (.getfield 13, 3) := by decide +kernel
theorem dX6_steer_55 : decode cX6_steer 55 = .ok (.bipush 28, 2) := by decide +kernel
theorem dX6_steer_57 : decode cX6_steer 57 = .ok (.iload_n 1, 1) := by decide +kernel
theorem dX6_steer_58 : decode cX6_steer 58 = .ok (.iadd, 1) := by decide +kernel
theorem dX6_steer_59 : decode cX6_steer 59 = .ok (.iload 5, 2) := by decide +kernel
theorem dX6_steer_61 : decode cX6_steer 61 = .ok (.iastore, 1) := by decide +kernel
theorem dX6_steer_62 : decode cX6_steer 62 = .ok (.aload_n 0, 1) := by decide +kernel
theorem dX6_steer_63 : decode cX6_steer 63 = .ok (.iload_n 3, 1) := by decide +kernel
theorem dX6_steer_64 : decode cX6_steer 64 = .ok (.invokevirtual 205, 3) := by decide +kernel
theorem dX6_steer_67 : decode cX6_steer 67 = .ok (.aload_n 0, 1) := by decide +kernel
theorem dX6_steer_68 : decode cX6_steer 68 = .ok (.iload 5, 2) := by decide +kernel
theorem dX6_steer_70 : decode cX6_steer 70 = .ok (.aload_n 0, 1) := by decide +kernel
theorem dX6_steer_71 : decode cX6_steer 71 = .ok (.iload_n 2, 1) := by decide +kernel
theorem dX6_steer_72 : decode cX6_steer 72 = .ok (.invokevirtual 258, 3) := by decide +kernel
theorem dX6_steer_75 : decode cX6_steer 75 = .ok (.invokevirtual 251, 3) := by decide +kernel
theorem dX6_steer_78 : decode cX6_steer 78 = .ok (.iinc 5 1, 3) := by decide +kernel
theorem dX6_steer_81 : decode cX6_steer 81 = .ok (.goto (-41), 3) := by decide +kernel
theorem dX6_steer_84 : decode cX6_steer 84 = .ok (.aload_n 0, 1) := by decide +kernel
theorem dX6_steer_85 : decode cX6_steer 85 = .ok (.iload 4, 2) := by decide +kernel
theorem dX6_steer_87 : decode cX6_steer 87 = .ok (.invokevirtual 255, 3) := by decide +kernel
theorem dX6_steer_90 : decode cX6_steer 90 = .ok (.ireturn, 1) := by decide +kernel
theorem dX6_hush_0 : decode cX6_hush 0 = .ok (.iload_n 1, 1) := by decide +kernel
theorem dX6_hush_1 : decode cX6_hush 1 = .ok (.invokestatic 223, 3) := by decide +kernel
theorem dX6_hush_4 : decode cX6_hush 4 = .ok (.ifCond .eq 10, 3) := by decide +kernel
theorem dX6_hush_7 : decode cX6_hush 7 = .ok (.iload_n 2, 1) := by decide +kernel
theorem dX6_hush_8 : decode cX6_hush 8 = .ok (.invokestatic 188, 3) := by decide +kernel
theorem dX6_hush_11 : decode cX6_hush 11 = .ok (.ifCond .ne 5, 3) := by decide +kernel
theorem dX6_hush_14 : decode cX6_hush 14 = .ok (.iconst (-1), 1) := by decide +kernel
theorem dX6_hush_15 : decode cX6_hush 15 = .ok (.ireturn, 1) := by decide +kernel
theorem dX6_hush_16 : decode cX6_hush 16 = .ok (.aload_n 0, 1) := by decide +kernel
theorem dX6_hush_17 : decode cX6_hush 17 = .ok (.invokevirtual 175, 3) := by decide +kernel
theorem dX6_hush_20 : decode cX6_hush 20 = .ok (.aload_n 0, 1) := by decide +kernel
theorem dX6_hush_21 : decode cX6_hush 21 = .ok (.iload_n 1, 1) := by decide +kernel
theorem dX6_hush_22 : decode cX6_hush 22 = .ok (.invokevirtual 226, 3) := by decide +kernel
theorem dX6_hush_25 : decode cX6_hush 25 = .ok (.aload_n 0, 1) := by decide +kernel
theorem dX6_hush_26 : decode cX6_hush 26 = .ok (.aload_n 0, 1) := by decide +kernel
theorem dX6_hush_27 : decode cX6_hush 27 = .ok (.getfield 213, 3) := by decide +kernel
theorem dX6_hush_30 : decode cX6_hush 30 = .ok (.invokevirtual 245, 3) := by decide +kernel
theorem dX6_hush_33 : decode cX6_hush 33 = .ok (.iconst 0, 1) := by decide +kernel
theorem dX6_hush_34 : decode cX6_hush 34 = .ok (.istore_n 3, 1) := by decide +kernel
theorem dX6_hush_35 : decode cX6_hush 35 = .ok (.iload_n 3, 1) := by decide +kernel
theorem dX6_hush_36 : decode cX6_hush 36 = .ok (.aload_n 0, 1) := by decide +kernel
theorem dX6_hush_37 : decode cX6_hush 37 = .ok (.getfield 7, 3) := by decide +kernel
theorem dX6_hush_40 : decode cX6_hush 40 = .ok (.bipush 33, 2) := by decide +kernel
theorem dX6_hush_42 : decode cX6_hush 42 = .ok (.iaload, 1) := by decide +kernel
theorem dX6_hush_43 : decode cX6_hush 43 = .ok (.if_icmp .ge 34, 3) := by decide +kernel
theorem dX6_hush_46 : decode cX6_hush 46 = .ok (.aload_n 0, 1) := by decide +kernel
theorem dX6_hush_47 : decode cX6_hush 47 = .ok (.invokevirtual 175, 3) := by decide +kernel
theorem dX6_hush_50 : decode cX6_hush 50 = .ok (.aload_n 0, 1) := by decide +kernel
theorem dX6_hush_51 : decode cX6_hush 51 = .ok (.iconst 1, 1) := by decide +kernel
theorem dX6_hush_52 : decode cX6_hush 52 = .ok (.iload_n 3, 1) := by decide +kernel
theorem dX6_hush_53 : decode cX6_hush 53 = .ok (.ishl, 1) := by decide +kernel
theorem dX6_hush_54 : decode cX6_hush 54 = .ok (.putfield 146, 3) := by decide +kernel
theorem dX6_hush_57 : decode cX6_hush 57 = .ok (.aload_n 0, 1) := by decide +kernel
theorem dX6_hush_58 : decode cX6_hush 58 = .ok (.iload_n 1, 1) := by decide +kernel
theorem dX6_hush_59 : decode cX6_hush 59 = .ok (.invokevirtual 226, 3) := by decide +kernel
theorem dX6_hush_62 : decode cX6_hush 62 = .ok (.aload_n 0, 1) := by decide +kernel
theorem dX6_hush_63 : decode cX6_hush 63 = .ok (.iload_n 3, 1) := by decide +kernel
theorem dX6_hush_64 : decode cX6_hush 64 = .ok (.aload_n 0, 1) := by decide +kernel
theorem dX6_hush_65 : decode cX6_hush 65 = .ok (.getfield 213, 3) := by decide +kernel
theorem dX6_hush_68 : decode cX6_hush 68 = .ok (.invokevirtual 251, 3) := by decide +kernel
theorem dX6_hush_71 : decode cX6_hush 71 = .ok (.iinc 3 1, 3) := by decide +kernel
theorem dX6_hush_74 : decode cX6_hush 74 = .ok (.goto (-39), 3) := by decide +kernel
theorem dX6_hush_77 : decode cX6_hush 77 = .ok (.aload_n 0, 1) := by decide +kernel
theorem dX6_hush_78 : decode cX6_hush 78 = .ok (.iload_n 2, 1) := by decide +kernel
theorem dX6_hush_79 : decode cX6_hush 79 = .ok (.invokevirtual 255, 3) := by decide +kernel
theorem dX6_hush_82 : decode cX6_hush 82 = .ok (.ireturn, 1) := by decide +kernel
theorem dX6_swap_0 : decode cX6_swap 0 = .ok (.iload_n 1, 1) := by decide +kernel
theorem dX6_swap_1 : decode cX6_swap 1 = .ok (.invokestatic 188, 3) := by decide +kernel
theorem dX6_swap_4 : decode cX6_swap 4 = .ok (.ifCond .ne 5, 3) := by decide +kernel
theorem dX6_swap_7 : decode cX6_swap 7 = .ok (.iconst (-1), 1) := by decide +kernel
theorem dX6_swap_8 : decode cX6_swap 8 = .ok (.ireturn, 1) := by decide +kernel
theorem dX6_swap_9 : decode cX6_swap 9 = .ok (.aload_n 0, 1) := by decide +kernel
theorem dX6_swap_10 : decode cX6_swap 10 = .ok (.invokevirtual 175, 3) := by decide +kernel
theorem dX6_swap_13 : decode cX6_swap 13 = .ok (.aload_n 0, 1) := by decide +kernel
theorem dX6_swap_14 : decode cX6_swap 14 = .ok (.invokevirtual 229, 3) := by decide +kernel
theorem dX6_swap_17 : decode cX6_swap 17 = .ok (.istore_n 2, 1) := by decide +kernel
theorem dX6_swap_18 : decode cX6_swap 18 = .ok (.aload_n 0, 1) := by decide +kernel
theorem dX6_swap_19 : decode cX6_swap 19 = .ok (.iload_n 2, 1) := by decide +kernel
theorem dX6_swap_20 : decode cX6_swap 20 = .ok (.bipush (-4), 2) := by decide +kernel
theorem dX6_swap_22 : decode cX6_swap 22 = .ok (.if_icmp .ne 8, 3) := by decide +kernel
theorem dX6_swap_25 : decode cX6_swap 25 = .ok (.ldc 244, 2) := by decide +kernel
theorem dX6_swap_27 : decode cX6_swap 27 = .ok (.goto 4, 3) := by decide +kernel
theorem dX6_swap_30 : decode cX6_swap 30 = .ok (.iload_n 2, 1) := by decide +kernel
theorem dX6_swap_31 : decode cX6_swap 31 = .ok (.invokevirtual 245, 3) := by decide +kernel
theorem dX6_swap_34 : decode cX6_swap 34 = .ok (.iconst 0, 1) := by decide +kernel
theorem dX6_swap_35 : decode cX6_swap 35 = .ok (.istore_n 3, 1) := by decide +kernel
theorem dX6_swap_36 : decode cX6_swap 36 = .ok (.iload_n 3, 1) := by decide +kernel
theorem dX6_swap_37 : decode cX6_swap 37 = .ok (.aload_n 0, 1) := by decide +kernel
theorem dX6_swap_38 : decode cX6_swap 38 = .ok (.getfield 7, 3) := by decide +kernel
theorem dX6_swap_41 : decode cX6_swap 41 = .ok (.bipush 33, 2) := by decide +kernel
theorem dX6_swap_43 : decode cX6_swap 43 = .ok (.iaload, 1) := by decide +kernel
theorem dX6_swap_44 : decode cX6_swap 44 = .ok (.if_icmp .ge 105, 3) := by decide +kernel
theorem dX6_swap_47 : decode cX6_swap 47 = .ok (.iload_n 3, 1) := by decide +kernel
theorem dX6_swap_48 : decode cX6_swap 48 = .ok (.iconst 1, 1) := by decide +kernel
theorem dX6_swap_49 : decode cX6_swap 49 = .ok (.iadd, 1) := by decide +kernel
theorem dX6_swap_50 : decode cX6_swap 50 = .ok (.istore 4, 2) := by decide +kernel
theorem dX6_swap_52 : decode cX6_swap 52 = .ok (.iload 4, 2) := by decide +kernel
theorem dX6_swap_54 : decode cX6_swap 54 = .ok (.aload_n 0, 1) := by decide +kernel
theorem dX6_swap_55 : decode cX6_swap 55 = .ok (.getfield 7, 3) := by decide +kernel
theorem dX6_swap_58 : decode cX6_swap 58 = .ok (.bipush 33, 2) := by decide +kernel
theorem dX6_swap_60 : decode cX6_swap 60 = .ok (.iaload, 1) := by decide +kernel
theorem dX6_swap_61 : decode cX6_swap 61 = .ok (.if_icmp .ge 82, 3) := by decide +kernel
theorem dX6_swap_64 : decode cX6_swap 64 = .ok (.aload_n 0, 1) := by decide +kernel
theorem dX6_swap_65 : decode cX6_swap 65 = .ok (.invokevirtual 175, 3) := by decide +kernel
theorem dX6_swap_68 : decode cX6_swap 68 = .ok (.aload_n 0, 1) := by decide +kernel
theorem dX6_swap_69 : decode cX6_swap 69 = .ok (.getfield 13, 3) := by decide +kernel
theorem dX6_swap_72 : decode cX6_swap 72 = .ok (.bipush 34, 2) := by decide +kernel
theorem dX6_swap_74 : decode cX6_swap 74 = .ok (.iconst 2, 1) := by decide +kernel
theorem dX6_swap_75 : decode cX6_swap 75 = .ok (.iload_n 3, 1) := by decide +kernel
theorem dX6_swap_76 : decode cX6_swap 76 = .ok (.imul, 1) := by decide +kernel
theorem dX6_swap_77 : decode cX6_swap 77 = .ok (.iadd, 1) := by decide +kernel
theorem dX6_swap_78 : decode cX6_swap 78 = .ok (.iconst 1, 1) := by decide +kernel
theorem dX6_swap_79 : decode cX6_swap 79 = .ok (.iadd, 1) := by decide +kernel
theorem dX6_swap_80 : decode cX6_swap 80 = .ok (.aload_n 0, 1) := by decide +kernel
theorem dX6_swap_81 : decode cX6_swap 81 = .ok (.getfield 7, 3) := by decide +kernel
theorem dX6_swap_84 : decode cX6_swap 84 = .ok (.bipush 34, 2) := by decide +kernel
theorem dX6_swap_86 : decode cX6_swap 86 = .ok (.iconst 2, 1) := by decide +kernel
theorem dX6_swap_87 : decode cX6_swap 87 = .ok (.iload 4, 2) := by decide +kernel
theorem dX6_swap_89 : decode cX6_swap 89 = .ok (.imul, 1) := by decide +kernel
theorem dX6_swap_90 : decode cX6_swap 90 = .ok (.iadd, 1) := by decide +kernel
theorem dX6_swap_91 : decode cX6_swap 91 = .ok (.iconst 1, 1) := by decide +kernel
theorem dX6_swap_92 : decode cX6_swap 92 = .ok (.iadd, 1) := by decide +kernel
theorem dX6_swap_93 : decode cX6_swap 93 = .ok (.iaload, 1) := by decide +kernel
theorem dX6_swap_94 : decode cX6_swap 94 = .ok (.iastore, 1) := by decide +kernel
theorem dX6_swap_95 : decode cX6_swap 95 = .ok (.aload_n 0, 1) := by decide +kernel
theorem dX6_swap_96 : decode cX6_swap 96 = .ok (.getfield 13, 3) := by decide +kernel
theorem dX6_swap_99 : decode cX6_swap 99 = .ok (.bipush 34, 2) := by decide +kernel
theorem dX6_swap_101 : decode cX6_swap 101 = .ok (.iconst 2, 1) := by decide +kernel
theorem dX6_swap_102 : decode cX6_swap 102 = .ok (.iload 4, 2) := by decide +kernel
theorem dX6_swap_104 : decode cX6_swap 104 = .ok (.imul, 1) := by decide +kernel
theorem dX6_swap_105 : decode cX6_swap 105 = .ok (.iadd, 1) := by decide +kernel
theorem dX6_swap_106 : decode cX6_swap 106 = .ok (.iconst 1, 1) := by decide +kernel
theorem dX6_swap_107 : decode cX6_swap 107 = .ok (.iadd, 1) := by decide +kernel
theorem dX6_swap_108 : decode cX6_swap 108 = .ok (.aload_n 0, 1) := by decide +kernel
theorem dX6_swap_109 : decode cX6_swap 109 = .ok (.getfield 7, 3) := by decide +kernel
theorem dX6_swap_112 : decode cX6_swap 112 = .ok (.bipush 34, 2) := by decide +kernel
theorem dX6_swap_114 : decode cX6_swap 114 = .ok (.iconst 2, 1) := by decide +kernel
theorem dX6_swap_115 : decode cX6_swap 115 = .ok (.iload_n 3, 1) := by decide +kernel
theorem dX6_swap_116 : decode cX6_swap 116 = .ok (.imul, 1) := by decide +kernel
theorem dX6_swap_117 : decode cX6_swap 117 = .ok (.iadd, 1) := by decide +kernel
theorem dX6_swap_118 : decode cX6_swap 118 = .ok (.iconst 1, 1) := by decide +kernel
theorem dX6_swap_119 : decode cX6_swap 119 = .ok (.iadd, 1) := by decide +kernel
theorem dX6_swap_120 : decode cX6_swap 120 = .ok (.iaload, 1) := by decide +kernel
theorem dX6_swap_121 : decode cX6_swap 121 = .ok (.iastore, 1) := by decide +kernel
theorem dX6_swap_122 : decode cX6_swap 122 = .ok (.aload_n 0, 1) := by decide +kernel
theorem dX6_swap_123 : decode cX6_swap 123 = .ok (.bipush 10, 2) := by decide +kernel
theorem dX6_swap_125 : decode cX6_swap 125 = .ok (.iload_n 3, 1) := by decide +kernel
theorem dX6_swap_126 : decode cX6_swap 126 = .ok (.imul, 1) := by decide +kernel
theorem dX6_swap_127 : decode cX6_swap 127 = .ok (.iload 4, 2) := by decide +kernel
theorem dX6_swap_129 : decode cX6_swap 129 = .ok (.iadd, 1) := by decide +kernel
theorem dX6_swap_130 : decode cX6_swap 130 = .ok (.aload_n 0, 1) := by decide +kernel
theorem dX6_swap_131 : decode cX6_swap 131 = .ok (.invokevirtual 229, 3) := by decide +kernel
theorem dX6_swap_134 : decode cX6_swap 134 = .ok (.invokevirtual 251, 3) := by decide +kernel
theorem dX6_swap_137 : decode cX6_swap 137 = .ok (.iinc 4 1, 3) := by decide +kernel
theorem dX6_swap_140 : decode cX6_swap 140 = .ok (.goto (-88), 3) := by decide +kernel
theorem dX6_swap_143 : decode cX6_swap 143 = .ok (.iinc 3 1, 3) := by decide +kernel
theorem dX6_swap_146 : decode cX6_swap 146 = .ok (.goto (-110), 3) := by decide +kernel
theorem dX6_swap_149 : decode cX6_swap 149 = .ok (.aload_n 0, 1) := by decide +kernel
theorem dX6_swap_150 : decode cX6_swap 150 = .ok (.iload_n 1, 1) := by decide +kernel
theorem dX6_swap_151 : decode cX6_swap 151 = .ok (.invokevirtual 255, 3) := by decide +kernel
theorem dX6_swap_154 : decode cX6_swap 154 = .ok (.ireturn, 1) := by decide +kernel
theorem dX6_need_0 : decode cX6_need 0 = .ok (.aload_n 0, 1) := by decide +kernel
theorem dX6_need_1 : decode cX6_need 1 = .ok (.iload_n 1, 1) := by decide +kernel
theorem dX6_need_2 : decode cX6_need 2 = .ok (.invokevirtual 181, 3) := by decide +kernel
theorem dX6_need_5 : decode cX6_need 5 = .ok (.ifCond .eq 22, 3) := by decide +kernel
theorem dX6_need_8 : decode cX6_need 8 = .ok (.iload_n 2, 1) := by decide +kernel
theorem dX6_need_9 : decode cX6_need 9 = .ok (.invokestatic 223, 3) := by decide +kernel
theorem dX6_need_12 : decode cX6_need 12 = .ok (.ifCond .eq 15, 3) := by decide +kernel
theorem dX6_need_15 : decode cX6_need 15 = .ok (.iload_n 3, 1) := by decide +kernel
theorem dX6_need_16 : decode cX6_need 16 = .ok (.i2l, 1) := by decide +kernel
theorem dX6_need_17 : decode cX6_need 17 = .ok (.lconst 0, 1) := by decide +kernel
theorem dX6_need_18 : decode cX6_need 18 = .ok (.ldc2_w 211, 3) := by decide +kernel
theorem dX6_need_21 : decode cX6_need 21 = .ok (.invokestatic 69, 3) := by decide +kernel
theorem dX6_need_24 : decode cX6_need 24 = .ok (.ifCond .ne 5, 3) := by decide +kernel
theorem dX6_need_27 : decode cX6_need 27 = .ok (.iconst (-1), 1) := by decide +kernel
theorem dX6_need_28 : decode cX6_need 28 = .ok (.ireturn, 1) := by decide +kernel
theorem dX6_need_29 : decode cX6_need 29 = .ok (.iconst 1, 1) := by decide +kernel
theorem dX6_need_30 : decode cX6_need 30 = .ok (.istore 4, 2) := by decide +kernel
theorem dX6_need_32 : decode cX6_need 32 = .ok (.iload 4, 2) := by decide +kernel
theorem dX6_need_34 : decode cX6_need 34 = .ok (.bipush 9, 2) := by decide +kernel
theorem dX6_need_36 : decode cX6_need 36 = .ok (.if_icmp .gt 40, 3) := by decide +kernel
theorem dX6_need_39 : decode cX6_need 39 = .ok (.aload_n 0, 1) := by decide +kernel
theorem dX6_need_40 : decode cX6_need 40 = .ok (.invokevirtual 175, 3) := by decide +kernel
theorem dX6_need_43 : decode cX6_need 43 = .ok (.aload_n 0, 1) := by decide +kernel
theorem dX6_need_44 : decode cX6_need 44 = .ok (.iload_n 1, 1) := by decide +kernel
theorem dX6_need_45 : decode cX6_need 45 = .ok (.iconst 1, 1) := by decide +kernel
theorem dX6_need_46 : decode cX6_need 46 = .ok (.iload 4, 2) := by decide +kernel
theorem dX6_need_48 : decode cX6_need 48 = .ok (.invokevirtual 162, 3) := by decide +kernel
theorem dX6_need_51 : decode cX6_need 51 = .ok (.aload_n 0, 1) := by decide +kernel
theorem dX6_need_52 : decode cX6_need 52 = .ok (.iload_n 2, 1) := by decide +kernel
theorem dX6_need_53 : decode cX6_need 53 = .ok (.invokevirtual 205, 3) := by decide +kernel
theorem dX6_need_56 : decode cX6_need 56 = .ok (.aload_n 0, 1) := by decide +kernel
theorem dX6_need_57 : decode cX6_need 57 = .ok (.getfield 13, 3) := by decide +kernel
theorem dX6_need_60 : decode cX6_need 60 = .ok (.bipush 24, 2) := by decide +kernel
theorem dX6_need_62 : decode cX6_need 62 = .ok (.iaload, 1) := by decide +kernel
theorem dX6_need_63 : decode cX6_need 63 = .ok (.iload_n 3, 1) := by decide +kernel
theorem dX6_need_64 : decode cX6_need 64 = .ok (.if_icmp .lt 6, 3) := by decide +kernel
theorem dX6_need_67 : decode cX6_need 67 = .ok (.iload 4, 2) := by decide +kernel
theorem dX6_need_69 : decode cX6_need 69 = .ok (.ireturn, 1) := by decide +kernel
theorem dX6_need_70 : decode cX6_need 70 = .ok (.iinc 4 1, 3) := by decide +kernel
theorem dX6_need_73 : decode cX6_need 73 = .ok (.goto (-41), 3) := by decide +kernel
theorem dX6_need_76 : decode cX6_need 76 = .ok (.bipush (-4), 2) := by decide +kernel
theorem dX6_need_78 : decode cX6_need 78 = .ok (.ireturn, 1) := by decide +kernel
theorem dX6_common_0 : decode cX6_common 0 = .ok (.lload_n 0, 1) := by decide +kernel
theorem dX6_common_1 : decode cX6_common 1 = .ok (.lstore 4, 2) := by decide +kernel
theorem dX6_common_3 : decode cX6_common 3 = .ok (.lload_n 2, 1) := by decide +kernel
theorem dX6_common_4 : decode cX6_common 4 = .ok (.lstore 6, 2) := by decide +kernel
theorem dX6_common_6 : decode cX6_common 6 = .ok (.lload 6, 2) := by decide +kernel
theorem dX6_common_8 : decode cX6_common 8 = .ok (.lconst 0, 1) := by decide +kernel
theorem dX6_common_9 : decode cX6_common 9 = .ok (.lcmp, 1) := by decide +kernel
theorem dX6_common_10 : decode cX6_common 10 = .ok (.ifCond .eq 21, 3) := by decide +kernel
theorem dX6_common_13 : decode cX6_common 13 = .ok (.lload 4, 2) := by decide +kernel
theorem dX6_common_15 : decode cX6_common 15 = .ok (.lload 6, 2) := by decide +kernel
theorem dX6_common_17 : decode cX6_common 17 = .ok (.lrem, 1) := by decide +kernel
theorem dX6_common_18 : decode cX6_common 18 = .ok (.lstore 8, 2) := by decide +kernel
theorem dX6_common_20 : decode cX6_common 20 = .ok (.lload 6, 2) := by decide +kernel
theorem dX6_common_22 : decode cX6_common 22 = .ok (.lstore 4, 2) := by decide +kernel
theorem dX6_common_24 : decode cX6_common 24 = .ok (.lload 8, 2) := by decide +kernel
theorem dX6_common_26 : decode cX6_common 26 = .ok (.lstore 6, 2) := by decide +kernel
theorem dX6_common_28 : decode cX6_common 28 = .ok (.goto (-22), 3) := by decide +kernel
theorem dX6_common_31 : decode cX6_common 31 = .ok (.lload 4, 2) := by decide +kernel
theorem dX6_common_33 : decode cX6_common 33 = .ok (.lreturn, 1) := by decide +kernel
theorem dX6_told_0 : decode cX6_told 0 = .ok (.lload_n 2, 1) := by decide +kernel
theorem dX6_told_1 : decode cX6_told 1 = .ok (.lload_n 0, 1) := by decide +kernel
theorem dX6_told_2 : decode cX6_told 2 = .ok (.invokestatic 261, 3) := by decide +kernel
theorem dX6_told_5 : decode cX6_told 5 = .ok (.lstore 5, 2) := by decide +kernel
theorem dX6_told_7 : decode cX6_told 7 = .ok (.iload 4, 2) := by decide +kernel
theorem dX6_told_9 : decode cX6_told 9 = .ok (.ifCond .ne 10, 3) := by decide +kernel
theorem dX6_told_12 : decode cX6_told 12 = .ok (.lload_n 0, 1) := by decide +kernel
theorem dX6_told_13 : decode cX6_told 13 = .ok (.lload 5, 2) := by decide +kernel
theorem dX6_told_15 : decode cX6_told 15 = .ok (.ldiv, 1) := by decide +kernel
theorem dX6_told_16 : decode cX6_told 16 = .ok (.goto 7, 3) := by decide +kernel
theorem dX6_told_19 : decode cX6_told 19 = .ok (.lload_n 2, 1) := by decide +kernel
theorem dX6_told_20 : decode cX6_told 20 = .ok (.lload 5, 2) := by decide +kernel
theorem dX6_told_22 : decode cX6_told 22 = .ok (.ldiv, 1) := by decide +kernel
theorem dX6_told_23 : decode cX6_told 23 = .ok (.lreturn, 1) := by decide +kernel
theorem dX6_findOdds_0 : decode cX6_findOdds 0 = .ok (.aload_n 0, 1) := by decide +kernel
theorem dX6_findOdds_1 : decode cX6_findOdds 1 = .ok (.lconst 0, 1) := by decide +kernel
theorem dX6_findOdds_2 : decode cX6_findOdds 2 = .ok (.putfield 265, 3) := by decide +kernel
theorem dX6_findOdds_5 : decode cX6_findOdds 5 = .ok (.aload_n 0, 1) := by decide +kernel
theorem dX6_findOdds_6 : decode cX6_findOdds 6 = .ok (.lconst 0, 1) := by decide +kernel
theorem dX6_findOdds_7 : decode cX6_findOdds 7 = .ok (.putfield 269, 3) := by decide +kernel
theorem dX6_findOdds_10 : decode cX6_findOdds 10 = .ok (.aload_n 0, 1) := by decide +kernel
theorem dX6_findOdds_11 : decode cX6_findOdds 11 = .ok (.lconst 1, 1) := by decide +kernel
theorem dX6_findOdds_12 : decode cX6_findOdds 12 = .ok (.putfield 272, 3) := by decide +kernel
theorem dX6_findOdds_15 : decode cX6_findOdds 15 = .ok (.iconst 0, 1) := by decide +kernel
theorem dX6_findOdds_16 : decode cX6_findOdds 16 = .ok (.istore 4, 2) := by decide +kernel
theorem dX6_findOdds_18 : decode cX6_findOdds 18 = .ok (.iload 4, 2) := by decide +kernel
theorem dX6_findOdds_20 : decode cX6_findOdds 20 = .ok (.aload_n 0, 1) := by decide +kernel
theorem dX6_findOdds_21 : decode cX6_findOdds 21 = .ok (.getfield 7, 3) := by decide +kernel
theorem dX6_findOdds_24 : decode cX6_findOdds 24 = .ok (.bipush 33, 2) := by decide +kernel
theorem dX6_findOdds_26 : decode cX6_findOdds 26 = .ok (.iaload, 1) := by decide +kernel
theorem dX6_findOdds_27 : decode cX6_findOdds 27 = .ok (.if_icmp .ge 21, 3) := by decide +kernel
theorem dX6_findOdds_30 : decode cX6_findOdds 30 = .ok (.aload_n 0, 1) := by decide +kernel
theorem dX6_findOdds_31 : decode cX6_findOdds 31 = .ok (.dup, 1) := by decide +kernel
theorem dX6_findOdds_32 : decode cX6_findOdds 32 = .ok (.getfield 272, 3) := by decide +kernel
theorem dX6_findOdds_35 : decode cX6_findOdds 35 = .ok (.ldc2_w 275, 3) := by decide +kernel
theorem dX6_findOdds_38 : decode cX6_findOdds 38 = .ok (.lmul, 1) := by decide +kernel
theorem dX6_findOdds_39 : decode cX6_findOdds 39 = .ok (.putfield 272, 3) := by decide +kernel
theorem dX6_findOdds_42 : decode cX6_findOdds 42 = .ok (.iinc 4 1, 3) := by decide +kernel
theorem dX6_findOdds_45 : decode cX6_findOdds 45 = .ok (.goto (-27), 3) := by decide +kernel
theorem dX6_findOdds_48 : decode cX6_findOdds 48 = .ok (.iconst 0, 1) := by decide +kernel
theorem dX6_findOdds_49 : decode cX6_findOdds 49 = .ok (.istore 4, 2) := by decide +kernel
theorem dX6_findOdds_51 : decode cX6_findOdds 51 = .ok (.iload 4, 2) := by decide +kernel
theorem dX6_findOdds_53 : decode cX6_findOdds 53 = .ok (.iconst 1, 1) := by decide +kernel
theorem dX6_findOdds_54 : decode cX6_findOdds 54 = .ok (.aload_n 0, 1) := by decide +kernel
theorem dX6_findOdds_55 : decode cX6_findOdds 55 = .ok (.getfield 7, 3) := by decide +kernel
theorem dX6_findOdds_58 : decode cX6_findOdds 58 = .ok (.bipush 33, 2) := by decide +kernel
theorem dX6_findOdds_60 : decode cX6_findOdds 60 = .ok (.iaload, 1) := by decide +kernel
theorem dX6_findOdds_61 : decode cX6_findOdds 61 = .ok (.ishl, 1) := by decide +kernel
theorem dX6_findOdds_62 : decode cX6_findOdds 62 = .ok (.if_icmp .ge 120, 3) := by decide +kernel
theorem dX6_findOdds_65 : decode cX6_findOdds 65 = .ok (.lconst 1, 1) := by decide +kernel
theorem dX6_findOdds_66 : decode cX6_findOdds 66 = .ok (.lstore 5, 2) := by decide +kernel
theorem dX6_findOdds_68 : decode cX6_findOdds 68 = .ok (.iconst 0, 1) := by decide +kernel
theorem dX6_findOdds_69 : decode cX6_findOdds 69 = .ok (.istore 7, 2) := by decide +kernel
theorem dX6_findOdds_71 : decode cX6_findOdds 71 = .ok (.iload 7, 2) := by decide +kernel
theorem dX6_findOdds_73 : decode cX6_findOdds 73 = .ok (.aload_n 0, 1) := by decide +kernel
theorem dX6_findOdds_74 : decode cX6_findOdds 74 = .ok (.getfield 7, 3) := by decide +kernel
theorem dX6_findOdds_77 : decode cX6_findOdds 77 = .ok (.bipush 33, 2) := by decide +kernel
theorem dX6_findOdds_79 : decode cX6_findOdds 79 = .ok (.iaload, 1) := by decide +kernel
theorem dX6_findOdds_80 : decode cX6_findOdds 80 = .ok (.if_icmp .ge 35, 3) := by decide +kernel
theorem dX6_findOdds_83 : decode cX6_findOdds 83 = .ok (.lload 5, 2) := by decide +kernel
theorem dX6_findOdds_85 : decode cX6_findOdds 85 = .ok (.iload 4, 2) := by decide +kernel
theorem dX6_findOdds_87 : decode cX6_findOdds 87 = .ok (.iload 7, 2) := by decide +kernel
theorem dX6_findOdds_89 : decode cX6_findOdds 89 = .ok (.ishr, 1) := by decide +kernel
theorem dX6_findOdds_90 : decode cX6_findOdds 90 = .ok (.iconst 1, 1) := by decide +kernel
theorem dX6_findOdds_91 : decode cX6_findOdds 91 = .ok (.iand, 1) := by decide +kernel
theorem dX6_findOdds_92 : decode cX6_findOdds 92 = .ok (.iconst 1, 1) := by decide +kernel
theorem dX6_findOdds_93 : decode cX6_findOdds 93 = .ok (.if_icmp .ne 8, 3) := by decide +kernel
theorem dX6_findOdds_96 : decode cX6_findOdds 96 = .ok (.iload_n 1, 1) := by decide +kernel
theorem dX6_findOdds_97 : decode cX6_findOdds 97 = .ok (.i2l, 1) := by decide +kernel
theorem dX6_findOdds_98 : decode cX6_findOdds 98 = .ok (.goto 8, 3) := by decide +kernel
theorem dX6_findOdds_101 : decode cX6_findOdds 101 = .ok (.bipush 10, 2) := by decide +kernel
theorem dX6_findOdds_103 : decode cX6_findOdds 103 = .ok (.iload_n 1, 1) := by decide +kernel
theorem dX6_findOdds_104 : decode cX6_findOdds 104 = .ok (.isub, 1) := by decide +kernel
theorem dX6_findOdds_105 : decode cX6_findOdds 105 = .ok (.i2l, 1) := by decide +kernel
theorem dX6_findOdds_106 : decode cX6_findOdds 106 = .ok (.lmul, 1) := by decide +kernel
theorem dX6_findOdds_107 : decode cX6_findOdds 107 = .ok (.lstore 5, 2) := by decide +kernel
theorem dX6_findOdds_109 : decode cX6_findOdds 109 = .ok (.iinc 7 1, 3) := by decide +kernel
theorem dX6_findOdds_112 : decode cX6_findOdds 112 = .ok (.goto (-41), 3) := by decide +kernel
theorem dX6_findOdds_115 : decode cX6_findOdds 115 = .ok (.aload_n 0, 1) := by decide +kernel
theorem dX6_findOdds_116 : decode cX6_findOdds 116 = .ok (.invokevirtual 175, 3) := by decide +kernel
theorem dX6_findOdds_119 : decode cX6_findOdds 119 = .ok (.aload_n 0, 1) := by decide +kernel
theorem dX6_findOdds_120 : decode cX6_findOdds 120 = .ok (.iload 4, 2) := by decide +kernel
theorem dX6_findOdds_122 : decode cX6_findOdds 122 = .ok (.putfield 146, 3) := by decide +kernel
theorem dX6_findOdds_125 : decode cX6_findOdds 125 = .ok (.aload_n 0, 1) := by decide +kernel
theorem dX6_findOdds_126 : decode cX6_findOdds 126 = .ok (.iload_n 2, 1) := by decide +kernel
theorem dX6_findOdds_127 : decode cX6_findOdds 127 = .ok (.invokevirtual 205, 3) := by decide +kernel
theorem dX6_findOdds_130 : decode cX6_findOdds 130 = .ok (.aload_n 0, 1) := by decide +kernel
theorem dX6_findOdds_131 : decode cX6_findOdds 131 = .ok (.dup, 1) := by decide +kernel
theorem dX6_findOdds_132 : decode cX6_findOdds 132 = .ok (.getfield 265, 3) := by decide +kernel
theorem dX6_findOdds_135 : decode cX6_findOdds 135 = .ok (.aload_n 0, 1) := by decide +kernel
theorem dX6_findOdds_136 : decode cX6_findOdds 136 = .ok (.getfield 13, 3) := by decide +kernel
theorem dX6_findOdds_139 : decode cX6_findOdds 139 = .ok (.bipush 24, 2) := by decide +kernel
theorem dX6_findOdds_141 : decode cX6_findOdds 141 = .ok (.iaload, 1) := by decide +kernel
theorem dX6_findOdds_142 : decode cX6_findOdds 142 = .ok (.iload_n 3, 1) := by decide +kernel
theorem dX6_findOdds_143 : decode cX6_findOdds 143 = .ok (.if_icmp .gt 8, 3) := by decide +kernel
theorem dX6_findOdds_146 : decode cX6_findOdds 146 = .ok (.lload 5, 2) := by decide +kernel
theorem dX6_findOdds_148 : decode cX6_findOdds 148 = .ok (.goto 4, 3) := by decide +kernel
theorem dX6_findOdds_151 : decode cX6_findOdds 151 = .ok (.lconst 0, 1) := by decide +kernel
theorem dX6_findOdds_152 : decode cX6_findOdds 152 = .ok (.ladd, 1) := by decide +kernel
theorem dX6_findOdds_153 : decode cX6_findOdds 153 = .ok (.putfield 265, 3) := by decide +kernel
theorem dX6_findOdds_156 : decode cX6_findOdds 156 = .ok (.aload_n 0, 1) := by decide +kernel
theorem dX6_findOdds_157 : decode cX6_findOdds 157 = .ok (.dup, 1) := by decide +kernel
theorem dX6_findOdds_158 : decode cX6_findOdds 158 = .ok (.getfield 269, 3) := by decide +kernel
theorem dX6_findOdds_161 : decode cX6_findOdds 161 = .ok (.lload 5, 2) := by decide +kernel
theorem dX6_findOdds_163 : decode cX6_findOdds 163 = .ok (.aload_n 0, 1) := by decide +kernel
theorem dX6_findOdds_164 : decode cX6_findOdds 164 = .ok (.getfield 13, 3) := by decide +kernel
theorem dX6_findOdds_167 : decode cX6_findOdds 167 = .ok (.bipush 24, 2) := by decide +kernel
theorem dX6_findOdds_169 : decode cX6_findOdds 169 = .ok (.iaload, 1) := by decide +kernel
theorem dX6_findOdds_170 : decode cX6_findOdds 170 = .ok (.i2l, 1) := by decide +kernel
theorem dX6_findOdds_171 : decode cX6_findOdds 171 = .ok (.lmul, 1) := by decide +kernel
theorem dX6_findOdds_172 : decode cX6_findOdds 172 = .ok (.ladd, 1) := by decide +kernel
theorem dX6_findOdds_173 : decode cX6_findOdds 173 = .ok (.putfield 269, 3) := by decide +kernel
theorem dX6_findOdds_176 : decode cX6_findOdds 176 = .ok (.iinc 4 1, 3) := by decide +kernel
theorem dX6_findOdds_179 : decode cX6_findOdds 179 = .ok (.goto (-128), 3) := by decide +kernel
theorem dX6_findOdds_182 : decode cX6_findOdds 182 = .ok (.return_, 1) := by decide +kernel
theorem dX6_luck_0 : decode cX6_luck 0 = .ok (.iload_n 1, 1) := by decide +kernel
theorem dX6_luck_1 : decode cX6_luck 1 = .ok (.i2l, 1) := by decide +kernel
theorem dX6_luck_2 : decode cX6_luck 2 = .ok (.lconst 0, 1) := by decide +kernel
theorem dX6_luck_3 : decode cX6_luck 3 = .ok (.ldc2_w 275, 3) := by decide +kernel
theorem dX6_luck_6 : decode cX6_luck 6 = .ok (.invokestatic 69, 3) := by decide +kernel
theorem dX6_luck_9 : decode cX6_luck 9 = .ok (.ifCond .eq 30, 3) := by decide +kernel
theorem dX6_luck_12 : decode cX6_luck 12 = .ok (.iload_n 2, 1) := by decide +kernel
theorem dX6_luck_13 : decode cX6_luck 13 = .ok (.invokestatic 223, 3) := by decide +kernel
theorem dX6_luck_16 : decode cX6_luck 16 = .ok (.ifCond .eq 23, 3) := by decide +kernel
theorem dX6_luck_19 : decode cX6_luck 19 = .ok (.iload_n 3, 1) := by decide +kernel
theorem dX6_luck_20 : decode cX6_luck 20 = .ok (.i2l, 1) := by decide +kernel
theorem dX6_luck_21 : decode cX6_luck 21 = .ok (.lconst 0, 1) := by decide +kernel
theorem dX6_luck_22 : decode cX6_luck 22 = .ok (.ldc2_w 211, 3) := by decide +kernel
theorem dX6_luck_25 : decode cX6_luck 25 = .ok (.invokestatic 69, 3) := by decide +kernel
theorem dX6_luck_28 : decode cX6_luck 28 = .ok (.ifCond .eq 11, 3) := by decide +kernel
theorem dX6_luck_31 : decode cX6_luck 31 = .ok (.iload 4, 2) := by decide +kernel
theorem dX6_luck_33 : decode cX6_luck 33 = .ok (.invokestatic 188, 3) := by decide +kernel
theorem dX6_luck_36 : decode cX6_luck 36 = .ok (.ifCond .ne 7, 3) := by decide +kernel
theorem dX6_luck_39 : decode cX6_luck 39 = .ok (.ldc2_w 277, 3) := by decide +kernel
theorem dX6_luck_42 : decode cX6_luck 42 = .ok (.lreturn, 1) := by decide +kernel
theorem dX6_luck_43 : decode cX6_luck 43 = .ok (.aload_n 0, 1) := by decide +kernel
theorem dX6_luck_44 : decode cX6_luck 44 = .ok (.iload_n 1, 1) := by decide +kernel
theorem dX6_luck_45 : decode cX6_luck 45 = .ok (.iload_n 2, 1) := by decide +kernel
theorem dX6_luck_46 : decode cX6_luck 46 = .ok (.iload_n 3, 1) := by decide +kernel
theorem dX6_luck_47 : decode cX6_luck 47 = .ok (.invokevirtual 279, 3) := by decide +kernel
theorem dX6_luck_50 : decode cX6_luck 50 = .ok (.aload_n 0, 1) := by decide +kernel
theorem dX6_luck_51 : decode cX6_luck 51 = .ok (.getfield 265, 3) := by decide +kernel
theorem dX6_luck_54 : decode cX6_luck 54 = .ok (.aload_n 0, 1) := by decide +kernel
theorem dX6_luck_55 : decode cX6_luck 55 = .ok (.getfield 272, 3) := by decide +kernel
theorem dX6_luck_58 : decode cX6_luck 58 = .ok (.iload 4, 2) := by decide +kernel
theorem dX6_luck_60 : decode cX6_luck 60 = .ok (.invokestatic 282, 3) := by decide +kernel
theorem dX6_luck_63 : decode cX6_luck 63 = .ok (.lreturn, 1) := by decide +kernel
theorem dX6_mean_0 : decode cX6_mean 0 = .ok (.iload_n 1, 1) := by decide +kernel
theorem dX6_mean_1 : decode cX6_mean 1 = .ok (.i2l, 1) := by decide +kernel
theorem dX6_mean_2 : decode cX6_mean 2 = .ok (.lconst 0, 1) := by decide +kernel
theorem dX6_mean_3 : decode cX6_mean 3 = .ok (.ldc2_w 275, 3) := by decide +kernel
theorem dX6_mean_6 : decode cX6_mean 6 = .ok (.invokestatic 69, 3) := by decide +kernel
theorem dX6_mean_9 : decode cX6_mean 9 = .ok (.ifCond .eq 17, 3) := by decide +kernel
theorem dX6_mean_12 : decode cX6_mean 12 = .ok (.iload_n 2, 1) := by decide +kernel
theorem dX6_mean_13 : decode cX6_mean 13 = .ok (.invokestatic 223, 3) := by decide +kernel
theorem dX6_mean_16 : decode cX6_mean 16 = .ok (.ifCond .eq 10, 3) := by decide +kernel
theorem dX6_mean_19 : decode cX6_mean 19 = .ok (.iload_n 3, 1) := by decide +kernel
theorem dX6_mean_20 : decode cX6_mean 20 = .ok (.invokestatic 188, 3) := by decide +kernel
theorem dX6_mean_23 : decode cX6_mean 23 = .ok (.ifCond .ne 7, 3) := by decide +kernel
theorem dX6_mean_26 : decode cX6_mean 26 = .ok (.ldc2_w 277, 3) := by decide +kernel
theorem dX6_mean_29 : decode cX6_mean 29 = .ok (.lreturn, 1) := by decide +kernel
theorem dX6_mean_30 : decode cX6_mean 30 = .ok (.aload_n 0, 1) := by decide +kernel
theorem dX6_mean_31 : decode cX6_mean 31 = .ok (.iload_n 1, 1) := by decide +kernel
theorem dX6_mean_32 : decode cX6_mean 32 = .ok (.iload_n 2, 1) := by decide +kernel
theorem dX6_mean_33 : decode cX6_mean 33 = .ok (.iconst 0, 1) := by decide +kernel
theorem dX6_mean_34 : decode cX6_mean 34 = .ok (.invokevirtual 279, 3) := by decide +kernel
theorem dX6_mean_37 : decode cX6_mean 37 = .ok (.aload_n 0, 1) := by decide +kernel
theorem dX6_mean_38 : decode cX6_mean 38 = .ok (.getfield 269, 3) := by decide +kernel
theorem dX6_mean_41 : decode cX6_mean 41 = .ok (.aload_n 0, 1) := by decide +kernel
theorem dX6_mean_42 : decode cX6_mean 42 = .ok (.getfield 272, 3) := by decide +kernel
theorem dX6_mean_45 : decode cX6_mean 45 = .ok (.iload_n 3, 1) := by decide +kernel
theorem dX6_mean_46 : decode cX6_mean 46 = .ok (.invokestatic 282, 3) := by decide +kernel
theorem dX6_mean_49 : decode cX6_mean 49 = .ok (.lreturn, 1) := by decide +kernel
theorem dX6_see_0 : decode cX6_see 0 = .ok (.iload_n 1, 1) := by decide +kernel
theorem dX6_see_1 : decode cX6_see 1 = .ok (.i2l, 1) := by decide +kernel
theorem dX6_see_2 : decode cX6_see 2 = .ok (.lconst 0, 1) := by decide +kernel
theorem dX6_see_3 : decode cX6_see 3 = .ok (.ldc2_w 203, 3) := by decide +kernel
theorem dX6_see_6 : decode cX6_see 6 = .ok (.invokestatic 69, 3) := by decide +kernel
theorem dX6_see_9 : decode cX6_see 9 = .ok (.ifCond .eq 15, 3) := by decide +kernel
theorem dX6_see_12 : decode cX6_see 12 = .ok (.iload_n 2, 1) := by decide +kernel
theorem dX6_see_13 : decode cX6_see 13 = .ok (.i2l, 1) := by decide +kernel
theorem dX6_see_14 : decode cX6_see 14 = .ok (.lconst 0, 1) := by decide +kernel
theorem dX6_see_15 : decode cX6_see 15 = .ok (.ldc2_w 211, 3) := by decide +kernel
theorem dX6_see_18 : decode cX6_see 18 = .ok (.invokestatic 69, 3) := by decide +kernel
theorem dX6_see_21 : decode cX6_see 21 = .ok (.ifCond .ne 5, 3) := by decide +kernel
theorem dX6_see_24 : decode cX6_see 24 = .ok (.iconst (-1), 1) := by decide +kernel
theorem dX6_see_25 : decode cX6_see 25 = .ok (.ireturn, 1) := by decide +kernel
theorem dX6_see_26 : decode cX6_see 26 = .ok (.aload_n 0, 1) := by decide +kernel
theorem dX6_see_27 : decode cX6_see 27 = .ok (.getfield 7, 3) := by decide +kernel
theorem dX6_see_30 : decode cX6_see 30 = .ok (.bipush 50, 2) := by decide +kernel
theorem dX6_see_32 : decode cX6_see 32 = .ok (.iaload, 1) := by decide +kernel
theorem dX6_see_33 : decode cX6_see 33 = .ok (.bipush 6, 2) := by decide +kernel
theorem dX6_see_35 : decode cX6_see 35 = .ok (.if_icmp .ne 6, 3) := by decide +kernel
theorem dX6_see_38 : decode cX6_see 38 = .ok (.bipush (-3), 2) := by decide +kernel
theorem dX6_see_40 : decode cX6_see 40 = .ok (.ireturn, 1) := by decide +kernel
theorem dX6_see_41 : decode cX6_see 41 = .ok (.bipush 51, 2) := by decide +kernel
theorem dX6_see_43 : decode cX6_see 43 = .ok (.iconst 2, 1) := by decide +kernel
theorem dX6_see_44 : decode cX6_see 44 = .ok (.aload_n 0, 1) := by decide +kernel
theorem dX6_see_45 : decode cX6_see 45 = .ok (.getfield 7, 3) := by decide +kernel
theorem dX6_see_48 : decode cX6_see 48 = .ok (.bipush 50, 2) := by decide +kernel
theorem dX6_see_50 : decode cX6_see 50 = .ok (.iaload, 1) := by decide +kernel
theorem dX6_see_51 : decode cX6_see 51 = .ok (.imul, 1) := by decide +kernel
theorem dX6_see_52 : decode cX6_see 52 = .ok (.iadd, 1) := by decide +kernel
theorem dX6_see_53 : decode cX6_see 53 = .ok (.istore_n 3, 1) := by decide +kernel
theorem dX6_see_54 : decode cX6_see 54 = .ok (.aload_n 0, 1) := by decide +kernel
theorem dX6_see_55 : decode cX6_see 55 = .ok (.getfield 7, 3) := by decide +kernel
theorem dX6_see_58 : decode cX6_see 58 = .ok (.iload_n 3, 1) := by decide +kernel
theorem dX6_see_59 : decode cX6_see 59 = .ok (.iload_n 1, 1) := by decide +kernel
theorem dX6_see_60 : decode cX6_see 60 = .ok (.iastore, 1) := by decide +kernel
theorem dX6_see_61 : decode cX6_see 61 = .ok (.aload_n 0, 1) := by decide +kernel
theorem dX6_see_62 : decode cX6_see 62 = .ok (.getfield 7, 3) := by decide +kernel
theorem dX6_see_65 : decode cX6_see 65 = .ok (.iload_n 3, 1) := by decide +kernel
theorem dX6_see_66 : decode cX6_see 66 = .ok (.iconst 1, 1) := by decide +kernel
theorem dX6_see_67 : decode cX6_see 67 = .ok (.iadd, 1) := by decide +kernel
theorem dX6_see_68 : decode cX6_see 68 = .ok (.iload_n 2, 1) := by decide +kernel
theorem dX6_see_69 : decode cX6_see 69 = .ok (.iastore, 1) := by decide +kernel
theorem dX6_see_70 : decode cX6_see 70 = .ok (.aload_n 0, 1) := by decide +kernel
theorem dX6_see_71 : decode cX6_see 71 = .ok (.getfield 7, 3) := by decide +kernel
theorem dX6_see_74 : decode cX6_see 74 = .ok (.bipush 50, 2) := by decide +kernel
theorem dX6_see_76 : decode cX6_see 76 = .ok (.dup2, 1) := by decide +kernel
theorem dX6_see_77 : decode cX6_see 77 = .ok (.iaload, 1) := by decide +kernel
theorem dX6_see_78 : decode cX6_see 78 = .ok (.iconst 1, 1) := by decide +kernel
theorem dX6_see_79 : decode cX6_see 79 = .ok (.iadd, 1) := by decide +kernel
theorem dX6_see_80 : decode cX6_see 80 = .ok (.iastore, 1) := by decide +kernel
theorem dX6_see_81 : decode cX6_see 81 = .ok (.aload_n 0, 1) := by decide +kernel
theorem dX6_see_82 : decode cX6_see 82 = .ok (.getfield 7, 3) := by decide +kernel
theorem dX6_see_85 : decode cX6_see 85 = .ok (.bipush 50, 2) := by decide +kernel
theorem dX6_see_87 : decode cX6_see 87 = .ok (.iaload, 1) := by decide +kernel
theorem dX6_see_88 : decode cX6_see 88 = .ok (.ireturn, 1) := by decide +kernel
theorem dX6_forget_0 : decode cX6_forget 0 = .ok (.iload_n 1, 1) := by decide +kernel
theorem dX6_forget_1 : decode cX6_forget 1 = .ok (.i2l, 1) := by decide +kernel
theorem dX6_forget_2 : decode cX6_forget 2 = .ok (.lconst 0, 1) := by decide +kernel
theorem dX6_forget_3 : decode cX6_forget 3 = .ok (.aload_n 0, 1) := by decide +kernel
theorem dX6_forget_4 : decode cX6_forget 4 = .ok (.getfield 7, 3) := by decide +kernel
theorem dX6_forget_7 : decode cX6_forget 7 = .ok (.bipush 50, 2) := by decide +kernel
theorem dX6_forget_9 : decode cX6_forget 9 = .ok (.iaload, 1) := by decide +kernel
theorem dX6_forget_10 : decode cX6_forget 10 = .ok (.i2l, 1) := by decide +kernel
theorem dX6_forget_11 : decode cX6_forget 11 = .ok (.invokestatic 69, 3) := by decide +kernel
theorem dX6_forget_14 : decode cX6_forget 14 = .ok (.ifCond .eq 13, 3) := by decide +kernel
theorem dX6_forget_17 : decode cX6_forget 17 = .ok (.aload_n 0, 1) := by decide +kernel
theorem dX6_forget_18 : decode cX6_forget 18 = .ok (.bipush 50, 2) := by decide +kernel
theorem dX6_forget_20 : decode cX6_forget 20 = .ok (.iload_n 1, 1) := by decide +kernel
theorem dX6_forget_21 : decode cX6_forget 21 = .ok (.invokevirtual 195, 3) := by decide +kernel
theorem dX6_forget_24 : decode cX6_forget 24 = .ok (.goto 4, 3) := by decide +kernel
theorem dX6_forget_27 : decode cX6_forget 27 = .ok (.iconst (-1), 1) := by decide +kernel
theorem dX6_forget_28 : decode cX6_forget 28 = .ok (.ireturn, 1) := by decide +kernel
theorem dX6_isSo_0 : decode cX6_isSo 0 = .ok (.iconst 0, 1) := by decide +kernel
theorem dX6_isSo_1 : decode cX6_isSo 1 = .ok (.istore_n 1, 1) := by decide +kernel
theorem dX6_isSo_2 : decode cX6_isSo 2 = .ok (.iload_n 1, 1) := by decide +kernel
theorem dX6_isSo_3 : decode cX6_isSo 3 = .ok (.bipush 30, 2) := by decide +kernel
theorem dX6_isSo_5 : decode cX6_isSo 5 = .ok (.if_icmp .gt 26, 3) := by decide +kernel
theorem dX6_isSo_8 : decode cX6_isSo 8 = .ok (.aload_n 0, 1) := by decide +kernel
theorem dX6_isSo_9 : decode cX6_isSo 9 = .ok (.getfield 26, 3) := by decide +kernel
theorem dX6_isSo_12 : decode cX6_isSo 12 = .ok (.iload_n 1, 1) := by decide +kernel
theorem dX6_isSo_13 : decode cX6_isSo 13 = .ok (.aload_n 0, 1) := by decide +kernel
theorem dX6_isSo_14 : decode cX6_isSo 14 = .ok (.getfield 13, 3) := by decide +kernel
theorem dX6_isSo_17 : decode cX6_isSo 17 = .ok (.bipush 24, 2) := by decide +kernel
theorem dX6_isSo_19 : decode cX6_isSo 19 = .ok (.iaload, 1) := by decide +kernel
theorem dX6_isSo_20 : decode cX6_isSo 20 = .ok (.iastore, 1) := by decide +kernel
theorem dX6_isSo_21 : decode cX6_isSo 21 = .ok (.aload_n 0, 1) := by decide +kernel
theorem dX6_isSo_22 : decode cX6_isSo 22 = .ok (.invokevirtual 172, 3) := by decide +kernel
theorem dX6_isSo_25 : decode cX6_isSo 25 = .ok (.iinc 1 1, 3) := by decide +kernel
theorem dX6_isSo_28 : decode cX6_isSo 28 = .ok (.goto (-26), 3) := by decide +kernel
theorem dX6_isSo_31 : decode cX6_isSo 31 = .ok (.iconst 1, 1) := by decide +kernel
theorem dX6_isSo_32 : decode cX6_isSo 32 = .ok (.istore_n 1, 1) := by decide +kernel
theorem dX6_isSo_33 : decode cX6_isSo 33 = .ok (.iconst 0, 1) := by decide +kernel
theorem dX6_isSo_34 : decode cX6_isSo 34 = .ok (.istore_n 2, 1) := by decide +kernel
theorem dX6_isSo_35 : decode cX6_isSo 35 = .ok (.iload_n 2, 1) := by decide +kernel
theorem dX6_isSo_36 : decode cX6_isSo 36 = .ok (.aload_n 0, 1) := by decide +kernel
theorem dX6_isSo_37 : decode cX6_isSo 37 = .ok (.getfield 7, 3) := by decide +kernel
theorem dX6_isSo_40 : decode cX6_isSo 40 = .ok (.bipush 50, 2) := by decide +kernel
theorem dX6_isSo_42 : decode cX6_isSo 42 = .ok (.iaload, 1) := by decide +kernel
theorem dX6_isSo_43 : decode cX6_isSo 43 = .ok (.if_icmp .ge 51, 3) := by decide +kernel
theorem dX6_isSo_46 : decode cX6_isSo 46 = .ok (.iload_n 1, 1) := by decide +kernel
theorem dX6_isSo_47 : decode cX6_isSo 47 = .ok (.ifCond .eq 39, 3) := by decide +kernel
theorem dX6_isSo_50 : decode cX6_isSo 50 = .ok (.aload_n 0, 1) := by decide +kernel
theorem dX6_isSo_51 : decode cX6_isSo 51 = .ok (.getfield 26, 3) := by decide +kernel
theorem dX6_isSo_54 : decode cX6_isSo 54 = .ok (.aload_n 0, 1) := by decide +kernel
theorem dX6_isSo_55 : decode cX6_isSo 55 = .ok (.getfield 7, 3) := by decide +kernel
theorem dX6_isSo_58 : decode cX6_isSo 58 = .ok (.bipush 51, 2) := by decide +kernel
theorem dX6_isSo_60 : decode cX6_isSo 60 = .ok (.iconst 2, 1) := by decide +kernel
theorem dX6_isSo_61 : decode cX6_isSo 61 = .ok (.iload_n 2, 1) := by decide +kernel
theorem dX6_isSo_62 : decode cX6_isSo 62 = .ok (.imul, 1) := by decide +kernel
theorem dX6_isSo_63 : decode cX6_isSo 63 = .ok (.iadd, 1) := by decide +kernel
theorem dX6_isSo_64 : decode cX6_isSo 64 = .ok (.iaload, 1) := by decide +kernel
theorem dX6_isSo_65 : decode cX6_isSo 65 = .ok (.iaload, 1) := by decide +kernel
theorem dX6_isSo_66 : decode cX6_isSo 66 = .ok (.aload_n 0, 1) := by decide +kernel
theorem dX6_isSo_67 : decode cX6_isSo 67 = .ok (.getfield 7, 3) := by decide +kernel
theorem dX6_isSo_70 : decode cX6_isSo 70 = .ok (.bipush 51, 2) := by decide +kernel
theorem dX6_isSo_72 : decode cX6_isSo 72 = .ok (.iconst 2, 1) := by decide +kernel
theorem dX6_isSo_73 : decode cX6_isSo 73 = .ok (.iload_n 2, 1) := by decide +kernel
theorem dX6_isSo_74 : decode cX6_isSo 74 = .ok (.imul, 1) := by decide +kernel
theorem dX6_isSo_75 : decode cX6_isSo 75 = .ok (.iadd, 1) := by decide +kernel
theorem dX6_isSo_76 : decode cX6_isSo 76 = .ok (.iconst 1, 1) := by decide +kernel
theorem dX6_isSo_77 : decode cX6_isSo 77 = .ok (.iadd, 1) := by decide +kernel
theorem dX6_isSo_78 : decode cX6_isSo 78 = .ok (.iaload, 1) := by decide +kernel
theorem dX6_isSo_79 : decode cX6_isSo 79 = .ok (.if_icmp .ne 7, 3) := by decide +kernel
theorem dX6_isSo_82 : decode cX6_isSo 82 = .ok (.iconst 1, 1) := by decide +kernel
theorem dX6_isSo_83 : decode cX6_isSo 83 = .ok (.goto 4, 3) := by decide +kernel
theorem dX6_isSo_86 : decode cX6_isSo 86 = .ok (.iconst 0, 1) := by decide +kernel
theorem dX6_isSo_87 : decode cX6_isSo 87 = .ok (.istore_n 1, 1) := by decide +kernel
theorem dX6_isSo_88 : decode cX6_isSo 88 = .ok (.iinc 2 1, 3) := by decide +kernel
theorem dX6_isSo_91 : decode cX6_isSo 91 = .ok (.goto (-56), 3) := by decide +kernel
theorem dX6_isSo_94 : decode cX6_isSo 94 = .ok (.iload_n 1, 1) := by decide +kernel
theorem dX6_isSo_95 : decode cX6_isSo 95 = .ok (.ireturn, 1) := by decide +kernel
theorem dX6_isSoWith_0 : decode cX6_isSoWith 0 = .ok (.aload_n 0, 1) := by decide +kernel
theorem dX6_isSoWith_1 : decode cX6_isSoWith 1 = .ok (.invokevirtual 175, 3) := by decide +kernel
theorem dX6_isSoWith_4 : decode cX6_isSoWith 4 = .ok (.aload_n 0, 1) := by decide +kernel
theorem dX6_isSoWith_5 : decode cX6_isSoWith 5 = .ok (.iload_n 1, 1) := by decide +kernel
theorem dX6_isSoWith_6 : decode cX6_isSoWith 6 = .ok (.iload_n 2, 1) := by decide +kernel
theorem dX6_isSoWith_7 : decode cX6_isSoWith 7 = .ok (.iload_n 3, 1) := by decide +kernel
theorem dX6_isSoWith_8 : decode cX6_isSoWith 8 = .ok (.invokevirtual 162, 3) := by decide +kernel
theorem dX6_isSoWith_11 : decode cX6_isSoWith 11 = .ok (.aload_n 0, 1) := by decide +kernel
theorem dX6_isSoWith_12 : decode cX6_isSoWith 12 = .ok (.invokevirtual 286, 3) := by decide +kernel
theorem dX6_isSoWith_15 : decode cX6_isSoWith 15 = .ok (.ireturn, 1) := by decide +kernel
theorem dX6_kinds_0 : decode cX6_kinds 0 = .ok (.aload_n 0, 1) := by decide +kernel
theorem dX6_kinds_1 : decode cX6_kinds 1 = .ok (.iload_n 1, 1) := by decide +kernel
theorem dX6_kinds_2 : decode cX6_kinds 2 = .ok (.invokevirtual 181, 3) := by decide +kernel
theorem dX6_kinds_5 : decode cX6_kinds 5 = .ok (.ifCond .ne 5, 3) := by decide +kernel
theorem dX6_kinds_8 : decode cX6_kinds 8 = .ok (.iconst (-1), 1) := by decide +kernel
theorem dX6_kinds_9 : decode cX6_kinds 9 = .ok (.ireturn, 1) := by decide +kernel
theorem dX6_kinds_10 : decode cX6_kinds 10 = .ok (.iconst 0, 1) := by decide +kernel
theorem dX6_kinds_11 : decode cX6_kinds 11 = .ok (.istore_n 2, 1) := by decide +kernel
theorem dX6_kinds_12 : decode cX6_kinds 12 = .ok (.iconst 0, 1) := by decide +kernel
theorem dX6_kinds_13 : decode cX6_kinds 13 = .ok (.istore_n 3, 1) := by decide +kernel
theorem dX6_kinds_14 : decode cX6_kinds 14 = .ok (.iload_n 3, 1) := by decide +kernel
theorem dX6_kinds_15 : decode cX6_kinds 15 = .ok (.iconst 4, 1) := by decide +kernel
theorem dX6_kinds_16 : decode cX6_kinds 16 = .ok (.if_icmp .ge 24, 3) := by decide +kernel
theorem dX6_kinds_19 : decode cX6_kinds 19 = .ok (.iload_n 2, 1) := by decide +kernel
theorem dX6_kinds_20 : decode cX6_kinds 20 = .ok (.aload_n 0, 1) := by decide +kernel
theorem dX6_kinds_21 : decode cX6_kinds 21 = .ok (.iload_n 1, 1) := by decide +kernel
theorem dX6_kinds_22 : decode cX6_kinds 22 = .ok (.iconst 0, 1) := by decide +kernel
theorem dX6_kinds_23 : decode cX6_kinds 23 = .ok (.iload_n 3, 1) := by decide +kernel
theorem dX6_kinds_24 : decode cX6_kinds 24 = .ok (.invokevirtual 290, 3) := by decide +kernel
theorem dX6_kinds_27 : decode cX6_kinds 27 = .ok (.invokestatic 219, 3) := by decide +kernel
theorem dX6_kinds_30 : decode cX6_kinds 30 = .ok (.iload_n 3, 1) := by decide +kernel
theorem dX6_kinds_31 : decode cX6_kinds 31 = .ok (.ishl, 1) := by decide +kernel
theorem dX6_kinds_32 : decode cX6_kinds 32 = .ok (.ior, 1) := by decide +kernel
theorem dX6_kinds_33 : decode cX6_kinds 33 = .ok (.istore_n 2, 1) := by decide +kernel
theorem dX6_kinds_34 : decode cX6_kinds 34 = .ok (.iinc 3 1, 3) := by decide +kernel
theorem dX6_kinds_37 : decode cX6_kinds 37 = .ok (.goto (-23), 3) := by decide +kernel
theorem dX6_kinds_40 : decode cX6_kinds 40 = .ok (.iload_n 2, 1) := by decide +kernel
theorem dX6_kinds_41 : decode cX6_kinds 41 = .ok (.ireturn, 1) := by decide +kernel
theorem dX6_weights_0 : decode cX6_weights 0 = .ok (.aload_n 0, 1) := by decide +kernel
theorem dX6_weights_1 : decode cX6_weights 1 = .ok (.iload_n 1, 1) := by decide +kernel
theorem dX6_weights_2 : decode cX6_weights 2 = .ok (.invokevirtual 181, 3) := by decide +kernel
theorem dX6_weights_5 : decode cX6_weights 5 = .ok (.ifCond .ne 5, 3) := by decide +kernel
theorem dX6_weights_8 : decode cX6_weights 8 = .ok (.iconst (-1), 1) := by decide +kernel
theorem dX6_weights_9 : decode cX6_weights 9 = .ok (.ireturn, 1) := by decide +kernel
theorem dX6_weights_10 : decode cX6_weights 10 = .ok (.iconst 0, 1) := by decide +kernel
theorem dX6_weights_11 : decode cX6_weights 11 = .ok (.istore_n 2, 1) := by decide +kernel
theorem dX6_weights_12 : decode cX6_weights 12 = .ok (.iconst 1, 1) := by decide +kernel
theorem dX6_weights_13 : decode cX6_weights 13 = .ok (.istore_n 3, 1) := by decide +kernel
theorem dX6_weights_14 : decode cX6_weights 14 = .ok (.iload_n 3, 1) := by decide +kernel
theorem dX6_weights_15 : decode cX6_weights 15 = .ok (.bipush 9, 2) := by decide +kernel
theorem dX6_weights_17 : decode cX6_weights 17 = .ok (.if_icmp .gt 24, 3) := by decide +kernel
theorem dX6_weights_20 : decode cX6_weights 20 = .ok (.iload_n 2, 1) := by decide +kernel
theorem dX6_weights_21 : decode cX6_weights 21 = .ok (.aload_n 0, 1) := by decide +kernel
theorem dX6_weights_22 : decode cX6_weights 22 = .ok (.iload_n 1, 1) := by decide +kernel
theorem dX6_weights_23 : decode cX6_weights 23 = .ok (.iconst 1, 1) := by decide +kernel
theorem dX6_weights_24 : decode cX6_weights 24 = .ok (.iload_n 3, 1) := by decide +kernel
theorem dX6_weights_25 : decode cX6_weights 25 = .ok (.invokevirtual 290, 3) := by decide +kernel
theorem dX6_weights_28 : decode cX6_weights 28 = .ok (.invokestatic 219, 3) := by decide +kernel
theorem dX6_weights_31 : decode cX6_weights 31 = .ok (.iload_n 3, 1) := by decide +kernel
theorem dX6_weights_32 : decode cX6_weights 32 = .ok (.ishl, 1) := by decide +kernel
theorem dX6_weights_33 : decode cX6_weights 33 = .ok (.ior, 1) := by decide +kernel
theorem dX6_weights_34 : decode cX6_weights 34 = .ok (.istore_n 2, 1) := by decide +kernel
theorem dX6_weights_35 : decode cX6_weights 35 = .ok (.iinc 3 1, 3) := by decide +kernel
theorem dX6_weights_38 : decode cX6_weights 38 = .ok (.goto (-24), 3) := by decide +kernel
theorem dX6_weights_41 : decode cX6_weights 41 = .ok (.iload_n 2, 1) := by decide +kernel
theorem dX6_weights_42 : decode cX6_weights 42 = .ok (.ireturn, 1) := by decide +kernel
theorem dX6_saids_0 : decode cX6_saids 0 = .ok (.iload_n 1, 1) := by decide +kernel
theorem dX6_saids_1 : decode cX6_saids 1 = .ok (.invokestatic 188, 3) := by decide +kernel
theorem dX6_saids_4 : decode cX6_saids 4 = .ok (.ifCond .ne 5, 3) := by decide +kernel
theorem dX6_saids_7 : decode cX6_saids 7 = .ok (.iconst (-1), 1) := by decide +kernel
theorem dX6_saids_8 : decode cX6_saids 8 = .ok (.ireturn, 1) := by decide +kernel
theorem dX6_saids_9 : decode cX6_saids 9 = .ok (.iconst 0, 1) := by decide +kernel
theorem dX6_saids_10 : decode cX6_saids 10 = .ok (.istore_n 2, 1) := by decide +kernel
theorem dX6_saids_11 : decode cX6_saids 11 = .ok (.bipush (-4), 2) := by decide +kernel
theorem dX6_saids_13 : decode cX6_saids 13 = .ok (.istore_n 3, 1) := by decide +kernel
theorem dX6_saids_14 : decode cX6_saids 14 = .ok (.iconst 0, 1) := by decide +kernel
theorem dX6_saids_15 : decode cX6_saids 15 = .ok (.istore 4, 2) := by decide +kernel
theorem dX6_saids_17 : decode cX6_saids 17 = .ok (.iload 4, 2) := by decide +kernel
theorem dX6_saids_19 : decode cX6_saids 19 = .ok (.iconst 1, 1) := by decide +kernel
theorem dX6_saids_20 : decode cX6_saids 20 = .ok (.aload_n 0, 1) := by decide +kernel
theorem dX6_saids_21 : decode cX6_saids 21 = .ok (.getfield 64, 3) := by decide +kernel
theorem dX6_saids_24 : decode cX6_saids 24 = .ok (.ishl, 1) := by decide +kernel
theorem dX6_saids_25 : decode cX6_saids 25 = .ok (.if_icmp .ge 66, 3) := by decide +kernel
theorem dX6_saids_28 : decode cX6_saids 28 = .ok (.aload_n 0, 1) := by decide +kernel
theorem dX6_saids_29 : decode cX6_saids 29 = .ok (.invokevirtual 175, 3) := by decide +kernel
theorem dX6_saids_32 : decode cX6_saids 32 = .ok (.iconst 0, 1) := by decide +kernel
theorem dX6_saids_33 : decode cX6_saids 33 = .ok (.istore 5, 2) := by decide +kernel
theorem dX6_saids_35 : decode cX6_saids 35 = .ok (.iload 5, 2) := by decide +kernel
theorem dX6_saids_37 : decode cX6_saids 37 = .ok (.aload_n 0, 1) := by decide +kernel
theorem dX6_saids_38 : decode cX6_saids 38 = .ok (.getfield 64, 3) := by decide +kernel
theorem dX6_saids_41 : decode cX6_saids 41 = .ok (.if_icmp .ge 23, 3) := by decide +kernel
theorem dX6_saids_44 : decode cX6_saids 44 = .ok (.aload_n 0, 1) := by decide +kernel
theorem dX6_saids_45 : decode cX6_saids 45 = .ok (.iload 5, 2) := by decide +kernel
theorem dX6_saids_47 : decode cX6_saids 47 = .ok (.iconst 3, 1) := by decide +kernel
theorem dX6_saids_48 : decode cX6_saids 48 = .ok (.iload 4, 2) := by decide +kernel
theorem dX6_saids_50 : decode cX6_saids 50 = .ok (.iload 5, 2) := by decide +kernel
theorem dX6_saids_52 : decode cX6_saids 52 = .ok (.ishr, 1) := by decide +kernel
theorem dX6_saids_53 : decode cX6_saids 53 = .ok (.iconst 1, 1) := by decide +kernel
theorem dX6_saids_54 : decode cX6_saids 54 = .ok (.iand, 1) := by decide +kernel
theorem dX6_saids_55 : decode cX6_saids 55 = .ok (.invokevirtual 162, 3) := by decide +kernel
theorem dX6_saids_58 : decode cX6_saids 58 = .ok (.iinc 5 1, 3) := by decide +kernel
theorem dX6_saids_61 : decode cX6_saids 61 = .ok (.goto (-26), 3) := by decide +kernel
theorem dX6_saids_64 : decode cX6_saids 64 = .ok (.aload_n 0, 1) := by decide +kernel
theorem dX6_saids_65 : decode cX6_saids 65 = .ok (.invokevirtual 286, 3) := by decide +kernel
theorem dX6_saids_68 : decode cX6_saids 68 = .ok (.ifCond .eq 17, 3) := by decide +kernel
theorem dX6_saids_71 : decode cX6_saids 71 = .ok (.iload_n 2, 1) := by decide +kernel
theorem dX6_saids_72 : decode cX6_saids 72 = .ok (.ifCond .ne 8, 3) := by decide +kernel
theorem dX6_saids_75 : decode cX6_saids 75 = .ok (.iload 4, 2) := by decide +kernel
theorem dX6_saids_77 : decode cX6_saids 77 = .ok (.goto 4, 3) := by decide +kernel
theorem dX6_saids_80 : decode cX6_saids 80 = .ok (.iload_n 3, 1) := by decide +kernel
theorem dX6_saids_81 : decode cX6_saids 81 = .ok (.istore_n 3, 1) := by decide +kernel
theorem dX6_saids_82 : decode cX6_saids 82 = .ok (.iinc 2 1, 3) := by decide +kernel
theorem dX6_saids_85 : decode cX6_saids 85 = .ok (.iinc 4 1, 3) := by decide +kernel
theorem dX6_saids_88 : decode cX6_saids 88 = .ok (.goto (-71), 3) := by decide +kernel
theorem dX6_saids_91 : decode cX6_saids 91 = .ok (.iload_n 1, 1) := by decide +kernel
theorem dX6_saids_92 : decode cX6_saids 92 = .ok (.ifCond .ne 7, 3) := by decide +kernel
theorem dX6_saids_95 : decode cX6_saids 95 = .ok (.iload_n 2, 1) := by decide +kernel
theorem dX6_saids_96 : decode cX6_saids 96 = .ok (.goto 4, 3) := by decide +kernel
theorem dX6_saids_99 : decode cX6_saids 99 = .ok (.iload_n 3, 1) := by decide +kernel
theorem dX6_saids_100 : decode cX6_saids 100 = .ok (.ireturn, 1) := by decide +kernel
theorem dX6_ask_0 : decode cX6_ask 0 = .ok (.aload_n 0, 1) := by decide +kernel
theorem dX6_ask_1 : decode cX6_ask 1 = .ok (.iload_n 1, 1) := by decide +kernel
theorem dX6_ask_2 : decode cX6_ask 2 = .ok (.invokevirtual 181, 3) := by decide +kernel
theorem dX6_ask_5 : decode cX6_ask 5 = .ok (.ifCond .eq 10, 3) := by decide +kernel
theorem dX6_ask_8 : decode cX6_ask 8 = .ok (.iload_n 2, 1) := by decide +kernel
theorem dX6_ask_9 : decode cX6_ask 9 = .ok (.invokestatic 188, 3) := by decide +kernel
theorem dX6_ask_12 : decode cX6_ask 12 = .ok (.ifCond .ne 5, 3) := by decide +kernel
theorem dX6_ask_15 : decode cX6_ask 15 = .ok (.iconst (-1), 1) := by decide +kernel
theorem dX6_ask_16 : decode cX6_ask 16 = .ok (.ireturn, 1) := by decide +kernel
theorem dX6_ask_17 : decode cX6_ask 17 = .ok (.iconst 0, 1) := by decide +kernel
theorem dX6_ask_18 : decode cX6_ask 18 = .ok (.istore_n 3, 1) := by decide +kernel
theorem dX6_ask_19 : decode cX6_ask 19 = .ok (.iconst 1, 1) := by decide +kernel
theorem dX6_ask_20 : decode cX6_ask 20 = .ok (.istore 4, 2) := by decide +kernel
theorem dX6_ask_22 : decode cX6_ask 22 = .ok (.iload 4, 2) := by decide +kernel
theorem dX6_ask_24 : decode cX6_ask 24 = .ok (.bipush 9, 2) := by decide +kernel
theorem dX6_ask_26 : decode cX6_ask 26 = .ok (.if_icmp .gt 58, 3) := by decide +kernel
theorem dX6_ask_29 : decode cX6_ask 29 = .ok (.aload_n 0, 1) := by decide +kernel
theorem dX6_ask_30 : decode cX6_ask 30 = .ok (.iload_n 1, 1) := by decide +kernel
theorem dX6_ask_31 : decode cX6_ask 31 = .ok (.iconst 1, 1) := by decide +kernel
theorem dX6_ask_32 : decode cX6_ask 32 = .ok (.iload 4, 2) := by decide +kernel
theorem dX6_ask_34 : decode cX6_ask 34 = .ok (.invokevirtual 290, 3) := by decide +kernel
theorem dX6_ask_37 : decode cX6_ask 37 = .ok (.ifCond .eq 41, 3) := by decide +kernel
theorem dX6_ask_40 : decode cX6_ask 40 = .ok (.iconst 0, 1) := by decide +kernel
theorem dX6_ask_41 : decode cX6_ask 41 = .ok (.istore 5, 2) := by decide +kernel
theorem dX6_ask_43 : decode cX6_ask 43 = .ok (.iload 5, 2) := by decide +kernel
theorem dX6_ask_45 : decode cX6_ask 45 = .ok (.bipush 30, 2) := by decide +kernel
theorem dX6_ask_47 : decode cX6_ask 47 = .ok (.if_icmp .gt 28, 3) := by decide +kernel
theorem dX6_ask_50 : decode cX6_ask 50 = .ok (.aload_n 0, 1) := by decide +kernel
theorem dX6_ask_51 : decode cX6_ask 51 = .ok (.getfield 29, 3) := by decide +kernel
theorem dX6_ask_54 : decode cX6_ask 54 = .ok (.bipush 31, 2) := by decide +kernel
theorem dX6_ask_56 : decode cX6_ask 56 = .ok (.iload_n 3, 1) := by decide +kernel
theorem dX6_ask_57 : decode cX6_ask 57 = .ok (.imul, 1) := by decide +kernel
theorem dX6_ask_58 : decode cX6_ask 58 = .ok (.iload 5, 2) := by decide +kernel
theorem dX6_ask_60 : decode cX6_ask 60 = .ok (.iadd, 1) := by decide +kernel
theorem dX6_ask_61 : decode cX6_ask 61 = .ok (.aload_n 0, 1) := by decide +kernel
theorem dX6_ask_62 : decode cX6_ask 62 = .ok (.getfield 26, 3) := by decide +kernel
theorem dX6_ask_65 : decode cX6_ask 65 = .ok (.iload 5, 2) := by decide +kernel
theorem dX6_ask_67 : decode cX6_ask 67 = .ok (.iaload, 1) := by decide +kernel
theorem dX6_ask_68 : decode cX6_ask 68 = .ok (.iastore, 1) := by decide +kernel
theorem dX6_ask_69 : decode cX6_ask 69 = .ok (.iinc 5 1, 3) := by decide +kernel
theorem dX6_ask_72 : decode cX6_ask 72 = .ok (.goto (-29), 3) := by decide +kernel
theorem dX6_ask_75 : decode cX6_ask 75 = .ok (.iinc 3 1, 3) := by decide +kernel
theorem dX6_ask_78 : decode cX6_ask 78 = .ok (.iinc 4 1, 3) := by decide +kernel
theorem dX6_ask_81 : decode cX6_ask 81 = .ok (.goto (-59), 3) := by decide +kernel
theorem dX6_ask_84 : decode cX6_ask 84 = .ok (.aload_n 0, 1) := by decide +kernel
theorem dX6_ask_85 : decode cX6_ask 85 = .ok (.iload_n 3, 1) := by decide +kernel
theorem dX6_ask_86 : decode cX6_ask 86 = .ok (.invokevirtual 245, 3) := by decide +kernel
theorem dX6_ask_89 : decode cX6_ask 89 = .ok (.iconst 0, 1) := by decide +kernel
theorem dX6_ask_90 : decode cX6_ask 90 = .ok (.istore 4, 2) := by decide +kernel
theorem dX6_ask_92 : decode cX6_ask 92 = .ok (.iload 4, 2) := by decide +kernel
theorem dX6_ask_94 : decode cX6_ask 94 = .ok (.bipush 30, 2) := by decide +kernel
theorem dX6_ask_96 : decode cX6_ask 96 = .ok (.if_icmp .gt 111, 3) := by decide +kernel
theorem dX6_ask_99 : decode cX6_ask 99 = .ok (.iconst 0, 1) := by decide +kernel
theorem dX6_ask_100 : decode cX6_ask 100 = .ok (.istore 5, 2) := by decide +kernel
theorem dX6_ask_102 : decode cX6_ask 102 = .ok (.iconst 0, 1) := by decide +kernel
theorem dX6_ask_103 : decode cX6_ask 103 = .ok (.istore 6, 2) := by decide +kernel
theorem dX6_ask_105 : decode cX6_ask 105 = .ok (.iload 6, 2) := by decide +kernel
theorem dX6_ask_107 : decode cX6_ask 107 = .ok (.iload_n 3, 1) := by decide +kernel
theorem dX6_ask_108 : decode cX6_ask 108 = .ok (.if_icmp .ge 85, 3) := by decide +kernel
theorem dX6_ask_111 : decode cX6_ask 111 = .ok (.iconst 0, 1) := by decide +kernel
theorem dX6_ask_112 : decode cX6_ask 112 = .ok (.istore 7, 2) := by decide +kernel
theorem dX6_ask_114 : decode cX6_ask 114 = .ok (.iconst 0, 1) := by decide +kernel
theorem dX6_ask_115 : decode cX6_ask 115 = .ok (.istore 8, 2) := by decide +kernel
theorem dX6_ask_117 : decode cX6_ask 117 = .ok (.iload 8, 2) := by decide +kernel
theorem dX6_ask_119 : decode cX6_ask 119 = .ok (.iload_n 3, 1) := by decide +kernel
theorem dX6_ask_120 : decode cX6_ask 120 = .ok (.if_icmp .ge 51, 3) := by decide +kernel
theorem dX6_ask_123 : decode cX6_ask 123 = .ok (.iload 7, 2) := by decide +kernel
theorem dX6_ask_125 : decode cX6_ask 125 = .ok (.aload_n 0, 1) := by decide +kernel
theorem dX6_ask_126 : decode cX6_ask 126 = .ok (.getfield 29, 3) := by decide +kernel
theorem dX6_ask_129 : decode cX6_ask 129 = .ok (.bipush 31, 2) := by decide +kernel
theorem dX6_ask_131 : decode cX6_ask 131 = .ok (.iload 6, 2) := by decide +kernel
theorem dX6_ask_133 : decode cX6_ask 133 = .ok (.imul, 1) := by decide +kernel
theorem dX6_ask_134 : decode cX6_ask 134 = .ok (.iload 4, 2) := by decide +kernel
theorem dX6_ask_136 : decode cX6_ask 136 = .ok (.iadd, 1) := by decide +kernel
theorem dX6_ask_137 : decode cX6_ask 137 = .ok (.iaload, 1) := by decide +kernel
theorem dX6_ask_138 : decode cX6_ask 138 = .ok (.aload_n 0, 1) := by decide +kernel
theorem dX6_ask_139 : decode cX6_ask 139 = .ok (.getfield 29, 3) := by decide +kernel
theorem dX6_ask_142 : decode cX6_ask 142 = .ok (.bipush 31, 2) := by decide +kernel
theorem dX6_ask_144 : decode cX6_ask 144 = .ok (.iload 8, 2) := by decide +kernel
theorem dX6_ask_146 : decode cX6_ask 146 = .ok (.imul, 1) := by decide +kernel
theorem dX6_ask_147 : decode cX6_ask 147 = .ok (.iload 4, 2) := by decide +kernel
theorem dX6_ask_149 : decode cX6_ask 149 = .ok (.iadd, 1) := by decide +kernel
theorem dX6_ask_150 : decode cX6_ask 150 = .ok (.iaload, 1) := by decide +kernel
theorem dX6_ask_151 : decode cX6_ask 151 = .ok (.if_icmp .ne 7, 3) := by decide +kernel
theorem dX6_ask_154 : decode cX6_ask 154 = .ok (.iconst 1, 1) := by decide +kernel
theorem dX6_ask_155 : decode cX6_ask 155 = .ok (.goto 4, 3) := by decide +kernel
theorem dX6_ask_158 : decode cX6_ask 158 = .ok (.iconst 0, 1) := by decide +kernel
theorem dX6_ask_159 : decode cX6_ask 159 = .ok (.invokestatic 219, 3) := by decide +kernel
theorem dX6_ask_162 : decode cX6_ask 162 = .ok (.iadd, 1) := by decide +kernel
theorem dX6_ask_163 : decode cX6_ask 163 = .ok (.istore 7, 2) := by decide +kernel
theorem dX6_ask_165 : decode cX6_ask 165 = .ok (.iinc 8 1, 3) := by decide +kernel
theorem dX6_ask_168 : decode cX6_ask 168 = .ok (.goto (-51), 3) := by decide +kernel
theorem dX6_ask_171 : decode cX6_ask 171 = .ok (.iload 7, 2) := by decide +kernel
theorem dX6_ask_173 : decode cX6_ask 173 = .ok (.iload 5, 2) := by decide +kernel
theorem dX6_ask_175 : decode cX6_ask 175 = .ok (.if_icmp .le 8, 3) := by decide +kernel
theorem dX6_ask_178 : decode cX6_ask 178 = .ok (.iload 7, 2) := by decide +kernel
theorem dX6_ask_180 : decode cX6_ask 180 = .ok (.goto 5, 3) := by decide +kernel
theorem dX6_ask_183 : decode cX6_ask 183 = .ok (.iload 5, 2) := by decide +kernel
theorem dX6_ask_185 : decode cX6_ask 185 = .ok (.istore 5, 2) := by decide +kernel
theorem dX6_ask_187 : decode cX6_ask 187 = .ok (.iinc 6 1, 3) := by decide +kernel
theorem dX6_ask_190 : decode cX6_ask 190 = .ok (.goto (-85), 3) := by decide +kernel
theorem dX6_ask_193 : decode cX6_ask 193 = .ok (.aload_n 0, 1) := by decide +kernel
theorem dX6_ask_194 : decode cX6_ask 194 = .ok (.iload 4, 2) := by decide +kernel
theorem dX6_ask_196 : decode cX6_ask 196 = .ok (.iload 5, 2) := by decide +kernel
theorem dX6_ask_198 : decode cX6_ask 198 = .ok (.invokevirtual 251, 3) := by decide +kernel
theorem dX6_ask_201 : decode cX6_ask 201 = .ok (.iinc 4 1, 3) := by decide +kernel
theorem dX6_ask_204 : decode cX6_ask 204 = .ok (.goto (-112), 3) := by decide +kernel
theorem dX6_ask_207 : decode cX6_ask 207 = .ok (.aload_n 0, 1) := by decide +kernel
theorem dX6_ask_208 : decode cX6_ask 208 = .ok (.iload_n 2, 1) := by decide +kernel
theorem dX6_ask_209 : decode cX6_ask 209 = .ok (.invokevirtual 255, 3) := by decide +kernel
theorem dX6_ask_212 : decode cX6_ask 212 = .ok (.ireturn, 1) := by decide +kernel
theorem dX6_drift_0 : decode cX6_drift 0 = .ok (.iload_n 2, 1) := by decide +kernel
theorem dX6_drift_1 : decode cX6_drift 1 = .ok (.i2l, 1) := by decide +kernel
theorem dX6_drift_2 : decode cX6_drift 2 = .ok (.lconst 1, 1) := by decide +kernel
theorem dX6_drift_3 : decode cX6_drift 3 = .ok (.ldc2_w 211, 3) := by decide +kernel
theorem dX6_drift_6 : decode cX6_drift 6 = .ok (.invokestatic 69, 3) := by decide +kernel
theorem dX6_drift_9 : decode cX6_drift 9 = .ok (.ifCond .eq 10, 3) := by decide +kernel
theorem dX6_drift_12 : decode cX6_drift 12 = .ok (.iload_n 3, 1) := by decide +kernel
theorem dX6_drift_13 : decode cX6_drift 13 = .ok (.invokestatic 188, 3) := by decide +kernel
theorem dX6_drift_16 : decode cX6_drift 16 = .ok (.ifCond .ne 5, 3) := by decide +kernel
theorem dX6_drift_19 : decode cX6_drift 19 = .ok (.iconst (-1), 1) := by decide +kernel
theorem dX6_drift_20 : decode cX6_drift 20 = .ok (.ireturn, 1) := by decide +kernel
theorem dX6_drift_21 : decode cX6_drift 21 = .ok (.aload_n 0, 1) := by decide +kernel
theorem dX6_drift_22 : decode cX6_drift 22 = .ok (.getfield 64, 3) := by decide +kernel
theorem dX6_drift_25 : decode cX6_drift 25 = .ok (.ifCond .ne 6, 3) := by decide +kernel
theorem dX6_drift_28 : decode cX6_drift 28 = .ok (.bipush (-2), 2) := by decide +kernel
theorem dX6_drift_30 : decode cX6_drift 30 = .ok (.ireturn, 1) := by decide +kernel
theorem dX6_drift_31 : decode cX6_drift 31 = .ok (.iload_n 1, 1) := by decide +kernel
theorem dX6_drift_32 : decode cX6_drift 32 = .ok (.istore 4, 2) := by decide +kernel
theorem dX6_drift_34 : decode cX6_drift 34 = .ok (.aload_n 0, 1) := by decide +kernel
theorem dX6_drift_35 : decode cX6_drift 35 = .ok (.invokevirtual 175, 3) := by decide +kernel
theorem dX6_drift_38 : decode cX6_drift 38 = .ok (.iconst 0, 1) := by decide +kernel
theorem dX6_drift_39 : decode cX6_drift 39 = .ok (.istore 5, 2) := by decide +kernel
theorem dX6_drift_41 : decode cX6_drift 41 = .ok (.iload 5, 2) := by decide +kernel
theorem dX6_drift_43 : decode cX6_drift 43 = .ok (.iload_n 2, 1) := by decide +kernel
theorem dX6_drift_44 : decode cX6_drift 44 = .ok (.if_icmp .ge 55, 3) := by decide +kernel
theorem dX6_drift_47 : decode cX6_drift 47 = .ok (.iload 4, 2) := by decide +kernel
theorem dX6_drift_49 : decode cX6_drift 49 = .ok (.ldc_w 294, 3) := by decide +kernel
theorem dX6_drift_52 : decode cX6_drift 52 = .ok (.imul, 1) := by decide +kernel
theorem dX6_drift_53 : decode cX6_drift 53 = .ok (.sipush 12345, 3) := by decide +kernel
theorem dX6_drift_56 : decode cX6_drift 56 = .ok (.iadd, 1) := by decide +kernel
theorem dX6_drift_57 : decode cX6_drift 57 = .ok (.istore 4, 2) := by decide +kernel
theorem dX6_drift_59 : decode cX6_drift 59 = .ok (.iload 4, 2) := by decide +kernel
theorem dX6_drift_61 : decode cX6_drift 61 = .ok (.bipush 16, 2) := by decide +kernel
theorem dX6_drift_63 : decode cX6_drift 63 = .ok (.ishr, 1) := by decide +kernel
theorem dX6_drift_64 : decode cX6_drift 64 = .ok (.sipush 32767, 3) := by decide +kernel
theorem dX6_drift_67 : decode cX6_drift 67 = .ok (.iand, 1) := by decide +kernel
theorem dX6_drift_68 : decode cX6_drift 68 = .ok (.istore 6, 2) := by decide +kernel
theorem dX6_drift_70 : decode cX6_drift 70 = .ok (.aload_n 0, 1) := by decide +kernel
theorem dX6_drift_71 : decode cX6_drift 71 = .ok (.iload 6, 2) := by decide +kernel
theorem dX6_drift_73 : decode cX6_drift 73 = .ok (.aload_n 0, 1) := by decide +kernel
theorem dX6_drift_74 : decode cX6_drift 74 = .ok (.getfield 64, 3) := by decide +kernel
theorem dX6_drift_77 : decode cX6_drift 77 = .ok (.irem, 1) := by decide +kernel
theorem dX6_drift_78 : decode cX6_drift 78 = .ok (.iconst 3, 1) := by decide +kernel
theorem dX6_drift_79 : decode cX6_drift 79 = .ok (.iload 6, 2) := by decide +kernel
theorem dX6_drift_81 : decode cX6_drift 81 = .ok (.bipush 8, 2) := by decide +kernel
theorem dX6_drift_83 : decode cX6_drift 83 = .ok (.idiv, 1) := by decide +kernel
theorem dX6_drift_84 : decode cX6_drift 84 = .ok (.iconst 2, 1) := by decide +kernel
theorem dX6_drift_85 : decode cX6_drift 85 = .ok (.irem, 1) := by decide +kernel
theorem dX6_drift_86 : decode cX6_drift 86 = .ok (.invokevirtual 162, 3) := by decide +kernel
theorem dX6_drift_89 : decode cX6_drift 89 = .ok (.aload_n 0, 1) := by decide +kernel
theorem dX6_drift_90 : decode cX6_drift 90 = .ok (.invokevirtual 172, 3) := by decide +kernel
theorem dX6_drift_93 : decode cX6_drift 93 = .ok (.iinc 5 1, 3) := by decide +kernel
theorem dX6_drift_96 : decode cX6_drift 96 = .ok (.goto (-55), 3) := by decide +kernel
theorem dX6_drift_99 : decode cX6_drift 99 = .ok (.iload_n 3, 1) := by decide +kernel
theorem dX6_drift_100 : decode cX6_drift 100 = .ok (.ifCond .ne 13, 3) := by decide +kernel
theorem dX6_drift_103 : decode cX6_drift 103 = .ok (.aload_n 0, 1) := by decide +kernel
theorem dX6_drift_104 : decode cX6_drift 104 = .ok (.getfield 13, 3) := by decide +kernel
theorem dX6_drift_107 : decode cX6_drift 107 = .ok (.bipush 24, 2) := by decide +kernel
theorem dX6_drift_109 : decode cX6_drift 109 = .ok (.iaload, 1) := by decide +kernel
theorem dX6_drift_110 : decode cX6_drift 110 = .ok (.goto 10, 3) := by decide +kernel
theorem dX6_drift_113 : decode cX6_drift 113 = .ok (.aload_n 0, 1) := by decide +kernel
theorem dX6_drift_114 : decode cX6_drift 114 = .ok (.getfield 13, 3) := by decide +kernel
theorem dX6_drift_117 : decode cX6_drift 117 = .ok (.bipush 25, 2) := by decide +kernel
theorem dX6_drift_119 : decode cX6_drift 119 = .ok (.iaload, 1) := by decide +kernel
theorem dX6_drift_120 : decode cX6_drift 120 = .ok (.ireturn, 1) := by decide +kernel
theorem dX6_copies_0 : decode cX6_copies 0 = .ok (.iconst 0, 1) := by decide +kernel
theorem dX6_copies_1 : decode cX6_copies 1 = .ok (.istore_n 3, 1) := by decide +kernel
theorem dX6_copies_2 : decode cX6_copies 2 = .ok (.iload_n 3, 1) := by decide +kernel
theorem dX6_copies_3 : decode cX6_copies 3 = .ok (.bipush 63, 2) := by decide +kernel
theorem dX6_copies_5 : decode cX6_copies 5 = .ok (.if_icmp .ge 25, 3) := by decide +kernel
theorem dX6_copies_8 : decode cX6_copies 8 = .ok (.aload_n 0, 1) := by decide +kernel
theorem dX6_copies_9 : decode cX6_copies 9 = .ok (.getfield 7, 3) := by decide +kernel
theorem dX6_copies_12 : decode cX6_copies 12 = .ok (.iload_n 1, 1) := by decide +kernel
theorem dX6_copies_13 : decode cX6_copies 13 = .ok (.iload_n 3, 1) := by decide +kernel
theorem dX6_copies_14 : decode cX6_copies 14 = .ok (.iadd, 1) := by decide +kernel
theorem dX6_copies_15 : decode cX6_copies 15 = .ok (.aload_n 0, 1) := by decide +kernel
theorem dX6_copies_16 : decode cX6_copies 16 = .ok (.getfield 7, 3) := by decide +kernel
theorem dX6_copies_19 : decode cX6_copies 19 = .ok (.iload_n 2, 1) := by decide +kernel
theorem dX6_copies_20 : decode cX6_copies 20 = .ok (.iload_n 3, 1) := by decide +kernel
theorem dX6_copies_21 : decode cX6_copies 21 = .ok (.iadd, 1) := by decide +kernel
theorem dX6_copies_22 : decode cX6_copies 22 = .ok (.iaload, 1) := by decide +kernel
theorem dX6_copies_23 : decode cX6_copies 23 = .ok (.iastore, 1) := by decide +kernel
theorem dX6_copies_24 : decode cX6_copies 24 = .ok (.iinc 3 1, 3) := by decide +kernel
theorem dX6_copies_27 : decode cX6_copies 27 = .ok (.goto (-25), 3) := by decide +kernel
theorem dX6_copies_30 : decode cX6_copies 30 = .ok (.return_, 1) := by decide +kernel
theorem dX6_keep_0 : decode cX6_keep 0 = .ok (.iload_n 1, 1) := by decide +kernel
theorem dX6_keep_1 : decode cX6_keep 1 = .ok (.i2l, 1) := by decide +kernel
theorem dX6_keep_2 : decode cX6_keep 2 = .ok (.lconst 0, 1) := by decide +kernel
theorem dX6_keep_3 : decode cX6_keep 3 = .ok (.lconst 1, 1) := by decide +kernel
theorem dX6_keep_4 : decode cX6_keep 4 = .ok (.invokestatic 69, 3) := by decide +kernel
theorem dX6_keep_7 : decode cX6_keep 7 = .ok (.ifCond .ne 5, 3) := by decide +kernel
theorem dX6_keep_10 : decode cX6_keep 10 = .ok (.iconst (-1), 1) := by decide +kernel
theorem dX6_keep_11 : decode cX6_keep 11 = .ok (.ireturn, 1) := by decide +kernel
theorem dX6_keep_12 : decode cX6_keep 12 = .ok (.aload_n 0, 1) := by decide +kernel
theorem dX6_keep_13 : decode cX6_keep 13 = .ok (.getfield 16, 3) := by decide +kernel
theorem dX6_keep_16 : decode cX6_keep 16 = .ok (.iload_n 1, 1) := by decide +kernel
theorem dX6_keep_17 : decode cX6_keep 17 = .ok (.baload, 1) := by decide +kernel
theorem dX6_keep_18 : decode cX6_keep 18 = .ok (.invokestatic 219, 3) := by decide +kernel
theorem dX6_keep_21 : decode cX6_keep 21 = .ok (.istore_n 2, 1) := by decide +kernel
theorem dX6_keep_22 : decode cX6_keep 22 = .ok (.aload_n 0, 1) := by decide +kernel
theorem dX6_keep_23 : decode cX6_keep 23 = .ok (.getfield 16, 3) := by decide +kernel
theorem dX6_keep_26 : decode cX6_keep 26 = .ok (.iload_n 1, 1) := by decide +kernel
theorem dX6_keep_27 : decode cX6_keep 27 = .ok (.iconst 1, 1) := by decide +kernel
theorem dX6_keep_28 : decode cX6_keep 28 = .ok (.bastore, 1) := by decide +kernel
theorem dX6_keep_29 : decode cX6_keep 29 = .ok (.aload_n 0, 1) := by decide +kernel
theorem dX6_keep_30 : decode cX6_keep 30 = .ok (.bipush 63, 2) := by decide +kernel
theorem dX6_keep_32 : decode cX6_keep 32 = .ok (.iload_n 1, 1) := by decide +kernel
theorem dX6_keep_33 : decode cX6_keep 33 = .ok (.iconst 1, 1) := by decide +kernel
theorem dX6_keep_34 : decode cX6_keep 34 = .ok (.iadd, 1) := by decide +kernel
theorem dX6_keep_35 : decode cX6_keep 35 = .ok (.imul, 1) := by decide +kernel
theorem dX6_keep_36 : decode cX6_keep 36 = .ok (.iconst 0, 1) := by decide +kernel
theorem dX6_keep_37 : decode cX6_keep 37 = .ok (.invokevirtual 295, 3) := by decide +kernel
theorem dX6_keep_40 : decode cX6_keep 40 = .ok (.iload_n 2, 1) := by decide +kernel
theorem dX6_keep_41 : decode cX6_keep 41 = .ok (.ireturn, 1) := by decide +kernel
theorem dX6_back_0 : decode cX6_back 0 = .ok (.iload_n 1, 1) := by decide +kernel
theorem dX6_back_1 : decode cX6_back 1 = .ok (.i2l, 1) := by decide +kernel
theorem dX6_back_2 : decode cX6_back 2 = .ok (.lconst 0, 1) := by decide +kernel
theorem dX6_back_3 : decode cX6_back 3 = .ok (.lconst 1, 1) := by decide +kernel
theorem dX6_back_4 : decode cX6_back 4 = .ok (.invokestatic 69, 3) := by decide +kernel
theorem dX6_back_7 : decode cX6_back 7 = .ok (.ifCond .ne 5, 3) := by decide +kernel
theorem dX6_back_10 : decode cX6_back 10 = .ok (.iconst (-1), 1) := by decide +kernel
theorem dX6_back_11 : decode cX6_back 11 = .ok (.ireturn, 1) := by decide +kernel
theorem dX6_back_12 : decode cX6_back 12 = .ok (.aload_n 0, 1) := by decide +kernel
theorem dX6_back_13 : decode cX6_back 13 = .ok (.getfield 16, 3) := by decide +kernel
theorem dX6_back_16 : decode cX6_back 16 = .ok (.iload_n 1, 1) := by decide +kernel
theorem dX6_back_17 : decode cX6_back 17 = .ok (.baload, 1) := by decide +kernel
theorem dX6_back_18 : decode cX6_back 18 = .ok (.ifCond .ne 6, 3) := by decide +kernel
theorem dX6_back_21 : decode cX6_back 21 = .ok (.bipush (-2), 2) := by decide +kernel
theorem dX6_back_23 : decode cX6_back 23 = .ok (.ireturn, 1) := by decide +kernel
theorem dX6_back_24 : decode cX6_back 24 = .ok (.aload_n 0, 1) := by decide +kernel
theorem dX6_back_25 : decode cX6_back 25 = .ok (.iconst 0, 1) := by decide +kernel
theorem dX6_back_26 : decode cX6_back 26 = .ok (.bipush 63, 2) := by decide +kernel
theorem dX6_back_28 : decode cX6_back 28 = .ok (.iload_n 1, 1) := by decide +kernel
theorem dX6_back_29 : decode cX6_back 29 = .ok (.iconst 1, 1) := by decide +kernel
theorem dX6_back_30 : decode cX6_back 30 = .ok (.iadd, 1) := by decide +kernel
theorem dX6_back_31 : decode cX6_back 31 = .ok (.imul, 1) := by decide +kernel
theorem dX6_back_32 : decode cX6_back 32 = .ok (.invokevirtual 295, 3) := by decide +kernel
theorem dX6_back_35 : decode cX6_back 35 = .ok (.aload_n 0, 1) := by decide +kernel
theorem dX6_back_36 : decode cX6_back 36 = .ok (.getfield 7, 3) := by decide +kernel
theorem dX6_back_39 : decode cX6_back 39 = .ok (.bipush 27, 2) := by decide +kernel
theorem dX6_back_41 : decode cX6_back 41 = .ok (.iaload, 1) := by decide +kernel
theorem dX6_back_42 : decode cX6_back 42 = .ok (.ireturn, 1) := by decide +kernel
theorem dX6_isSheet_0 : decode cX6_isSheet 0 = .ok (.iload_n 0, 1) := by decide +kernel
theorem dX6_isSheet_1 : decode cX6_isSheet 1 = .ok (.i2l, 1) := by decide +kernel
theorem dX6_isSheet_2 : decode cX6_isSheet 2 = .ok (.lconst 0, 1) := by decide +kernel
theorem dX6_isSheet_3 : decode cX6_isSheet 3 = .ok (.ldc2_w 191, 3) := by decide +kernel
theorem dX6_isSheet_6 : decode cX6_isSheet 6 = .ok (.invokestatic 69, 3) := by decide +kernel
theorem dX6_isSheet_9 : decode cX6_isSheet 9 = .ok (.ifCond .eq 19, 3) := by decide +kernel
theorem dX6_isSheet_12 : decode cX6_isSheet 12 = .ok (.iload_n 1, 1) := by decide +kernel
theorem dX6_isSheet_13 : decode cX6_isSheet 13 = .ok (.i2l, 1) := by decide +kernel
theorem dX6_isSheet_14 : decode cX6_isSheet 14 = .ok (.lconst 0, 1) := by decide +kernel
theorem dX6_isSheet_15 : decode cX6_isSheet 15 = .ok (.ldc2_w 298, 3) := by decide +kernel
theorem dX6_isSheet_18 : decode cX6_isSheet 18 = .ok (.invokestatic 69, 3) := by decide +kernel
theorem dX6_isSheet_21 : decode cX6_isSheet 21 = .ok (.ifCond .eq 7, 3) := by decide +kernel
theorem dX6_isSheet_24 : decode cX6_isSheet 24 = .ok (.iconst 1, 1) := by decide +kernel
theorem dX6_isSheet_25 : decode cX6_isSheet 25 = .ok (.goto 4, 3) := by decide +kernel
theorem dX6_isSheet_28 : decode cX6_isSheet 28 = .ok (.iconst 0, 1) := by decide +kernel
theorem dX6_isSheet_29 : decode cX6_isSheet 29 = .ok (.ireturn, 1) := by decide +kernel
theorem dX6_sheet_0 : decode cX6_sheet 0 = .ok (.iload_n 1, 1) := by decide +kernel
theorem dX6_sheet_1 : decode cX6_sheet 1 = .ok (.iload_n 2, 1) := by decide +kernel
theorem dX6_sheet_2 : decode cX6_sheet 2 = .ok (.invokestatic 300, 3) := by decide +kernel
theorem dX6_sheet_5 : decode cX6_sheet 5 = .ok (.ifCond .eq 9, 3) := by decide +kernel
theorem dX6_sheet_8 : decode cX6_sheet 8 = .ok (.iload_n 3, 1) := by decide +kernel
theorem dX6_sheet_9 : decode cX6_sheet 9 = .ok (.bipush 40, 2) := by decide +kernel
theorem dX6_sheet_11 : decode cX6_sheet 11 = .ok (.if_icmp .le 5, 3) := by decide +kernel
theorem dX6_sheet_14 : decode cX6_sheet 14 = .ok (.iconst (-1), 1) := by decide +kernel
theorem dX6_sheet_15 : decode cX6_sheet 15 = .ok (.ireturn, 1) := by decide +kernel
theorem dX6_sheet_16 : decode cX6_sheet 16 = .ok (.iload_n 3, 1) := by decide +kernel
theorem dX6_sheet_17 : decode cX6_sheet 17 = .ok (.ifCond .ge 6, 3) := by decide +kernel
theorem dX6_sheet_20 : decode cX6_sheet 20 = .ok (.bipush (-14), 2) := by decide +kernel
theorem dX6_sheet_22 : decode cX6_sheet 22 = .ok (.ireturn, 1) := by decide +kernel
theorem dX6_sheet_23 : decode cX6_sheet 23 = .ok (.aload_n 0, 1) := by decide +kernel
theorem dX6_sheet_24 : decode cX6_sheet 24 = .ok (.getfield 32, 3) := by decide +kernel
theorem dX6_sheet_27 : decode cX6_sheet 27 = .ok (.iload_n 1, 1) := by decide +kernel
theorem dX6_sheet_28 : decode cX6_sheet 28 = .ok (.iload_n 2, 1) := by decide +kernel
theorem dX6_sheet_29 : decode cX6_sheet 29 = .ok (.iastore, 1) := by decide +kernel
theorem dX6_sheet_30 : decode cX6_sheet 30 = .ok (.aload_n 0, 1) := by decide +kernel
theorem dX6_sheet_31 : decode cX6_sheet 31 = .ok (.getfield 35, 3) := by decide +kernel
theorem dX6_sheet_34 : decode cX6_sheet 34 = .ok (.iload_n 1, 1) := by decide +kernel
theorem dX6_sheet_35 : decode cX6_sheet 35 = .ok (.iload_n 3, 1) := by decide +kernel
theorem dX6_sheet_36 : decode cX6_sheet 36 = .ok (.iastore, 1) := by decide +kernel
theorem dX6_sheet_37 : decode cX6_sheet 37 = .ok (.iconst 0, 1) := by decide +kernel
theorem dX6_sheet_38 : decode cX6_sheet 38 = .ok (.istore 4, 2) := by decide +kernel
theorem dX6_sheet_40 : decode cX6_sheet 40 = .ok (.iload 4, 2) := by decide +kernel
theorem dX6_sheet_42 : decode cX6_sheet 42 = .ok (.bipush 40, 2) := by decide +kernel
theorem dX6_sheet_44 : decode cX6_sheet 44 = .ok (.if_icmp .ge 22, 3) := by decide +kernel
theorem dX6_sheet_47 : decode cX6_sheet 47 = .ok (.aload_n 0, 1) := by decide +kernel
theorem dX6_sheet_48 : decode cX6_sheet 48 = .ok (.getfield 38, 3) := by decide +kernel
theorem dX6_sheet_51 : decode cX6_sheet 51 = .ok (.bipush 40, 2) := by decide +kernel
theorem dX6_sheet_53 : decode cX6_sheet 53 = .ok (.iload_n 1, 1) := by decide +kernel
theorem dX6_sheet_54 : decode cX6_sheet 54 = .ok (.imul, 1) := by decide +kernel
theorem dX6_sheet_55 : decode cX6_sheet 55 = .ok (.iload 4, 2) := by decide +kernel
theorem dX6_sheet_57 : decode cX6_sheet 57 = .ok (.iadd, 1) := by decide +kernel
theorem dX6_sheet_58 : decode cX6_sheet 58 = .ok (.iconst 0, 1) := by decide +kernel
theorem dX6_sheet_59 : decode cX6_sheet 59 = .ok (.iastore, 1) := by decide +kernel
theorem dX6_sheet_60 : decode cX6_sheet 60 = .ok (.iinc 4 1, 3) := by decide +kernel
theorem dX6_sheet_63 : decode cX6_sheet 63 = .ok (.goto (-23), 3) := by decide +kernel
theorem dX6_sheet_66 : decode cX6_sheet 66 = .ok (.iconst 1, 1) := by decide +kernel
theorem dX6_sheet_67 : decode cX6_sheet 67 = .ok (.ireturn, 1) := by decide +kernel
theorem dX6_lay_0 : decode cX6_lay 0 = .ok (.iload_n 1, 1) := by decide +kernel
theorem dX6_lay_1 : decode cX6_lay 1 = .ok (.iconst 0, 1) := by decide +kernel
theorem dX6_lay_2 : decode cX6_lay 2 = .ok (.invokestatic 300, 3) := by decide +kernel
theorem dX6_lay_5 : decode cX6_lay 5 = .ok (.ifCond .ne 5, 3) := by decide +kernel
theorem dX6_lay_8 : decode cX6_lay 8 = .ok (.iconst (-1), 1) := by decide +kernel
theorem dX6_lay_9 : decode cX6_lay 9 = .ok (.ireturn, 1) := by decide +kernel
theorem dX6_lay_10 : decode cX6_lay 10 = .ok (.aload_n 0, 1) := by decide +kernel
theorem dX6_lay_11 : decode cX6_lay 11 = .ok (.getfield 32, 3) := by decide +kernel
theorem dX6_lay_14 : decode cX6_lay 14 = .ok (.iload_n 1, 1) := by decide +kernel
theorem dX6_lay_15 : decode cX6_lay 15 = .ok (.iaload, 1) := by decide +kernel
theorem dX6_lay_16 : decode cX6_lay 16 = .ok (.bipush (-4), 2) := by decide +kernel
theorem dX6_lay_18 : decode cX6_lay 18 = .ok (.if_icmp .ne 6, 3) := by decide +kernel
theorem dX6_lay_21 : decode cX6_lay 21 = .ok (.bipush (-11), 2) := by decide +kernel
theorem dX6_lay_23 : decode cX6_lay 23 = .ok (.ireturn, 1) := by decide +kernel
theorem dX6_lay_24 : decode cX6_lay 24 = .ok (.iload_n 2, 1) := by decide +kernel
theorem dX6_lay_25 : decode cX6_lay 25 = .ok (.i2l, 1) := by decide +kernel
theorem dX6_lay_26 : decode cX6_lay 26 = .ok (.lconst 0, 1) := by decide +kernel
theorem dX6_lay_27 : decode cX6_lay 27 = .ok (.aload_n 0, 1) := by decide +kernel
theorem dX6_lay_28 : decode cX6_lay 28 = .ok (.getfield 35, 3) := by decide +kernel
theorem dX6_lay_31 : decode cX6_lay 31 = .ok (.iload_n 1, 1) := by decide +kernel
theorem dX6_lay_32 : decode cX6_lay 32 = .ok (.iaload, 1) := by decide +kernel
theorem dX6_lay_33 : decode cX6_lay 33 = .ok (.iconst 1, 1) := by decide +kernel
theorem dX6_lay_34 : decode cX6_lay 34 = .ok (.isub, 1) := by decide +kernel
theorem dX6_lay_35 : decode cX6_lay 35 = .ok (.i2l, 1) := by decide +kernel
theorem dX6_lay_36 : decode cX6_lay 36 = .ok (.invokestatic 69, 3) := by decide +kernel
theorem dX6_lay_39 : decode cX6_lay 39 = .ok (.ifCond .ne 6, 3) := by decide +kernel
theorem dX6_lay_42 : decode cX6_lay 42 = .ok (.bipush (-12), 2) := by decide +kernel
theorem dX6_lay_44 : decode cX6_lay 44 = .ok (.ireturn, 1) := by decide +kernel
theorem dX6_lay_45 : decode cX6_lay 45 = .ok (.aload_n 0, 1) := by decide +kernel
theorem dX6_lay_46 : decode cX6_lay 46 = .ok (.getfield 38, 3) := by decide +kernel
theorem dX6_lay_49 : decode cX6_lay 49 = .ok (.bipush 40, 2) := by decide +kernel
theorem dX6_lay_51 : decode cX6_lay 51 = .ok (.iload_n 1, 1) := by decide +kernel
theorem dX6_lay_52 : decode cX6_lay 52 = .ok (.imul, 1) := by decide +kernel
theorem dX6_lay_53 : decode cX6_lay 53 = .ok (.iload_n 2, 1) := by decide +kernel
theorem dX6_lay_54 : decode cX6_lay 54 = .ok (.iadd, 1) := by decide +kernel
theorem dX6_lay_55 : decode cX6_lay 55 = .ok (.aload_n 0, 1) := by decide +kernel
theorem dX6_lay_56 : decode cX6_lay 56 = .ok (.getfield 32, 3) := by decide +kernel
theorem dX6_lay_59 : decode cX6_lay 59 = .ok (.iload_n 1, 1) := by decide +kernel
theorem dX6_lay_60 : decode cX6_lay 60 = .ok (.iaload, 1) := by decide +kernel
theorem dX6_lay_61 : decode cX6_lay 61 = .ok (.ifCond .ne 8, 3) := by decide +kernel
theorem dX6_lay_64 : decode cX6_lay 64 = .ok (.iload_n 3, 1) := by decide +kernel
theorem dX6_lay_65 : decode cX6_lay 65 = .ok (.i2b, 1) := by decide +kernel
theorem dX6_lay_66 : decode cX6_lay 66 = .ok (.goto 19, 3) := by decide +kernel
theorem dX6_lay_69 : decode cX6_lay 69 = .ok (.aload_n 0, 1) := by decide +kernel
theorem dX6_lay_70 : decode cX6_lay 70 = .ok (.getfield 32, 3) := by decide +kernel
theorem dX6_lay_73 : decode cX6_lay 73 = .ok (.iload_n 1, 1) := by decide +kernel
theorem dX6_lay_74 : decode cX6_lay 74 = .ok (.iaload, 1) := by decide +kernel
theorem dX6_lay_75 : decode cX6_lay 75 = .ok (.iconst 1, 1) := by decide +kernel
theorem dX6_lay_76 : decode cX6_lay 76 = .ok (.if_icmp .ne 8, 3) := by decide +kernel
theorem dX6_lay_79 : decode cX6_lay 79 = .ok (.iload_n 3, 1) := by decide +kernel
theorem dX6_lay_80 : decode cX6_lay 80 = .ok (.i2s, 1) := by decide +kernel
theorem dX6_lay_81 : decode cX6_lay 81 = .ok (.goto 4, 3) := by decide +kernel
theorem dX6_lay_84 : decode cX6_lay 84 = .ok (.iload_n 3, 1) := by decide +kernel
theorem dX6_lay_85 : decode cX6_lay 85 = .ok (.iastore, 1) := by decide +kernel
theorem dX6_lay_86 : decode cX6_lay 86 = .ok (.iconst 1, 1) := by decide +kernel
theorem dX6_lay_87 : decode cX6_lay 87 = .ok (.ireturn, 1) := by decide +kernel
theorem dX6_read_0 : decode cX6_read 0 = .ok (.iload_n 1, 1) := by decide +kernel
theorem dX6_read_1 : decode cX6_read 1 = .ok (.iload_n 2, 1) := by decide +kernel
theorem dX6_read_2 : decode cX6_read 2 = .ok (.invokestatic 300, 3) := by decide +kernel
theorem dX6_read_5 : decode cX6_read 5 = .ok (.ifCond .eq 16, 3) := by decide +kernel
theorem dX6_read_8 : decode cX6_read 8 = .ok (.iload 4, 2) := by decide +kernel
theorem dX6_read_10 : decode cX6_read 10 = .ok (.i2l, 1) := by decide +kernel
theorem dX6_read_11 : decode cX6_read 11 = .ok (.lconst 0, 1) := by decide +kernel
theorem dX6_read_12 : decode cX6_read 12 = .ok (.ldc2_w 303, 3) := by decide +kernel
theorem dX6_read_15 : decode cX6_read 15 = .ok (.invokestatic 69, 3) := by decide +kernel
theorem dX6_read_18 : decode cX6_read 18 = .ok (.ifCond .ne 5, 3) := by decide +kernel
theorem dX6_read_21 : decode cX6_read 21 = .ok (.iconst (-1), 1) := by decide +kernel
theorem dX6_read_22 : decode cX6_read 22 = .ok (.ireturn, 1) := by decide +kernel
theorem dX6_read_23 : decode cX6_read 23 = .ok (.iconst 0, 1) := by decide +kernel
theorem dX6_read_24 : decode cX6_read 24 = .ok (.istore 5, 2) := by decide +kernel
theorem dX6_read_26 : decode cX6_read 26 = .ok (.iload 5, 2) := by decide +kernel
theorem dX6_read_28 : decode cX6_read 28 = .ok (.bipush 63, 2) := by decide +kernel
theorem dX6_read_30 : decode cX6_read 30 = .ok (.if_icmp .ge 23, 3) := by decide +kernel
theorem dX6_read_33 : decode cX6_read 33 = .ok (.aload_n 0, 1) := by decide +kernel
theorem dX6_read_34 : decode cX6_read 34 = .ok (.getfield 41, 3) := by decide +kernel
theorem dX6_read_37 : decode cX6_read 37 = .ok (.iload 5, 2) := by decide +kernel
theorem dX6_read_39 : decode cX6_read 39 = .ok (.aload_n 0, 1) := by decide +kernel
theorem dX6_read_40 : decode cX6_read 40 = .ok (.getfield 7, 3) := by decide +kernel
theorem dX6_read_43 : decode cX6_read 43 = .ok (.iload 5, 2) := by decide +kernel
theorem dX6_read_45 : decode cX6_read 45 = .ok (.iaload, 1) := by decide +kernel
theorem dX6_read_46 : decode cX6_read 46 = .ok (.iastore, 1) := by decide +kernel
theorem dX6_read_47 : decode cX6_read 47 = .ok (.iinc 5 1, 3) := by decide +kernel
theorem dX6_read_50 : decode cX6_read 50 = .ok (.goto (-24), 3) := by decide +kernel
theorem dX6_read_53 : decode cX6_read 53 = .ok (.iconst 0, 1) := by decide +kernel
theorem dX6_read_54 : decode cX6_read 54 = .ok (.istore 5, 2) := by decide +kernel
theorem dX6_read_56 : decode cX6_read 56 = .ok (.iconst 0, 1) := by decide +kernel
theorem dX6_read_57 : decode cX6_read 57 = .ok (.istore 6, 2) := by decide +kernel
theorem dX6_read_59 : decode cX6_read 59 = .ok (.iconst 0, 1) := by decide +kernel
theorem dX6_read_60 : decode cX6_read 60 = .ok (.istore 7, 2) := by decide +kernel
theorem dX6_read_62 : decode cX6_read 62 = .ok (.iload 7, 2) := by decide +kernel
theorem dX6_read_64 : decode cX6_read 64 = .ok (.iload 4, 2) := by decide +kernel
theorem dX6_read_66 : decode cX6_read 66 = .ok (.if_icmp .ge 184, 3) := by decide +kernel
theorem dX6_read_69 : decode cX6_read 69 = .ok (.iload 5, 2) := by decide +kernel
theorem dX6_read_71 : decode cX6_read 71 = .ok (.ifCond .ne 179, 3) := by decide +kernel
theorem dX6_read_74 : decode cX6_read 74 = .ok (.iconst 0, 1) := by decide +kernel
theorem dX6_read_75 : decode cX6_read 75 = .ok (.istore 8, 2) := by decide +kernel
theorem dX6_read_77 : decode cX6_read 77 = .ok (.iload 8, 2) := by decide +kernel
theorem dX6_read_79 : decode cX6_read 79 = .ok (.iconst 2, 1) := by decide +kernel
theorem dX6_read_80 : decode cX6_read 80 = .ok (.if_icmp .ge 84, 3) := by decide +kernel
theorem dX6_read_83 : decode cX6_read 83 = .ok (.iload 5, 2) := by decide +kernel
theorem dX6_read_85 : decode cX6_read 85 = .ok (.ifCond .ne 79, 3) := by decide +kernel
theorem dX6_read_88 : decode cX6_read 88 = .ok (.iload_n 3, 1) := by decide +kernel
theorem dX6_read_89 : decode cX6_read 89 = .ok (.i2l, 1) := by decide +kernel
theorem dX6_read_90 : decode cX6_read 90 = .ok (.iconst 2, 1) := by decide +kernel
theorem dX6_read_91 : decode cX6_read 91 = .ok (.iload 7, 2) := by decide +kernel
theorem dX6_read_93 : decode cX6_read 93 = .ok (.imul, 1) := by decide +kernel
theorem dX6_read_94 : decode cX6_read 94 = .ok (.i2l, 1) := by decide +kernel
theorem dX6_read_95 : decode cX6_read 95 = .ok (.ladd, 1) := by decide +kernel
theorem dX6_read_96 : decode cX6_read 96 = .ok (.iload 8, 2) := by decide +kernel
theorem dX6_read_98 : decode cX6_read 98 = .ok (.i2l, 1) := by decide +kernel
theorem dX6_read_99 : decode cX6_read 99 = .ok (.ladd, 1) := by decide +kernel
theorem dX6_read_100 : decode cX6_read 100 = .ok (.lstore 9, 2) := by decide +kernel
theorem dX6_read_102 : decode cX6_read 102 = .ok (.aload_n 0, 1) := by decide +kernel
theorem dX6_read_103 : decode cX6_read 103 = .ok (.getfield 32, 3) := by decide +kernel
theorem dX6_read_106 : decode cX6_read 106 = .ok (.iload_n 1, 1) := by decide +kernel
theorem dX6_read_107 : decode cX6_read 107 = .ok (.iaload, 1) := by decide +kernel
theorem dX6_read_108 : decode cX6_read 108 = .ok (.bipush (-4), 2) := by decide +kernel
theorem dX6_read_110 : decode cX6_read 110 = .ok (.if_icmp .ne 7, 3) := by decide +kernel
theorem dX6_read_113 : decode cX6_read 113 = .ok (.iconst 1, 1) := by decide +kernel
theorem dX6_read_114 : decode cX6_read 114 = .ok (.goto 42, 3) := by decide +kernel
theorem dX6_read_117 : decode cX6_read 117 = .ok (.aload_n 0, 1) := by decide +kernel
theorem dX6_read_118 : decode cX6_read 118 = .ok (.getfield 32, 3) := by decide +kernel
theorem dX6_read_121 : decode cX6_read 121 = .ok (.iload_n 1, 1) := by decide +kernel
theorem dX6_read_122 : decode cX6_read 122 = .ok (.iaload, 1) := by decide +kernel
theorem dX6_read_123 : decode cX6_read 123 = .ok (.iload_n 2, 1) := by decide +kernel
theorem dX6_read_124 : decode cX6_read 124 = .ok (.if_icmp .eq 7, 3) := by decide +kernel
theorem dX6_read_127 : decode cX6_read 127 = .ok (.iconst 3, 1) := by decide +kernel
theorem dX6_read_128 : decode cX6_read 128 = .ok (.goto 28, 3) := by decide +kernel
theorem dX6_read_131 : decode cX6_read 131 = .ok (.lload 9, 2) := by decide +kernel
theorem dX6_read_133 : decode cX6_read 133 = .ok (.lconst 0, 1) := by decide +kernel
theorem dX6_read_134 : decode cX6_read 134 = .ok (.lcmp, 1) := by decide +kernel
theorem dX6_read_135 : decode cX6_read 135 = .ok (.ifCond .lt 16, 3) := by decide +kernel
theorem dX6_read_138 : decode cX6_read 138 = .ok (.lload 9, 2) := by decide +kernel
theorem dX6_read_140 : decode cX6_read 140 = .ok (.aload_n 0, 1) := by decide +kernel
theorem dX6_read_141 : decode cX6_read 141 = .ok (.getfield 35, 3) := by decide +kernel
theorem dX6_read_144 : decode cX6_read 144 = .ok (.iload_n 1, 1) := by decide +kernel
theorem dX6_read_145 : decode cX6_read 145 = .ok (.iaload, 1) := by decide +kernel
theorem dX6_read_146 : decode cX6_read 146 = .ok (.i2l, 1) := by decide +kernel
theorem dX6_read_147 : decode cX6_read 147 = .ok (.lcmp, 1) := by decide +kernel
theorem dX6_read_148 : decode cX6_read 148 = .ok (.ifCond .lt 7, 3) := by decide +kernel
theorem dX6_read_151 : decode cX6_read 151 = .ok (.iconst 2, 1) := by decide +kernel
theorem dX6_read_152 : decode cX6_read 152 = .ok (.goto 4, 3) := by decide +kernel
theorem dX6_read_155 : decode cX6_read 155 = .ok (.iconst 0, 1) := by decide +kernel
theorem dX6_read_156 : decode cX6_read 156 = .ok (.istore 5, 2) := by decide +kernel
theorem dX6_read_158 : decode cX6_read 158 = .ok (.iinc 8 1, 3) := by decide +kernel
theorem dX6_read_161 : decode cX6_read 161 = .ok (.goto (-84), 3) := by decide +kernel
theorem dX6_read_164 : decode cX6_read 164 = .ok (.iload 5, 2) := by decide +kernel
theorem dX6_read_166 : decode cX6_read 166 = .ok (.ifCond .ne 78, 3) := by decide +kernel
theorem dX6_read_169 : decode cX6_read 169 = .ok (.bipush 40, 2) := by decide +kernel
theorem dX6_read_171 : decode cX6_read 171 = .ok (.iload_n 1, 1) := by decide +kernel
theorem dX6_read_172 : decode cX6_read 172 = .ok (.imul, 1) := by decide +kernel
theorem dX6_read_173 : decode cX6_read 173 = .ok (.iload_n 3, 1) := by decide +kernel
theorem dX6_read_174 : decode cX6_read 174 = .ok (.iadd, 1) := by decide +kernel
theorem dX6_read_175 : decode cX6_read 175 = .ok (.iconst 2, 1) := by decide +kernel
theorem dX6_read_176 : decode cX6_read 176 = .ok (.iload 7, 2) := by decide +kernel
theorem dX6_read_178 : decode cX6_read 178 = .ok (.imul, 1) := by decide +kernel
theorem dX6_read_179 : decode cX6_read 179 = .ok (.iadd, 1) := by decide +kernel
theorem dX6_read_180 : decode cX6_read 180 = .ok (.istore 8, 2) := by decide +kernel
theorem dX6_read_182 : decode cX6_read 182 = .ok (.aload_n 0, 1) := by decide +kernel
theorem dX6_read_183 : decode cX6_read 183 = .ok (.aload_n 0, 1) := by decide +kernel
theorem dX6_read_184 : decode cX6_read 184 = .ok (.getfield 38, 3) := by decide +kernel
theorem dX6_read_187 : decode cX6_read 187 = .ok (.iload 8, 2) := by decide +kernel
theorem dX6_read_189 : decode cX6_read 189 = .ok (.iaload, 1) := by decide +kernel
theorem dX6_read_190 : decode cX6_read 190 = .ok (.aload_n 0, 1) := by decide +kernel
theorem dX6_read_191 : decode cX6_read 191 = .ok (.getfield 38, 3) := by decide +kernel
theorem dX6_read_194 : decode cX6_read 194 = .ok (.iload 8, 2) := by decide +kernel
theorem dX6_read_196 : decode cX6_read 196 = .ok (.iconst 1, 1) := by decide +kernel
theorem dX6_read_197 : decode cX6_read 197 = .ok (.iadd, 1) := by decide +kernel
theorem dX6_read_198 : decode cX6_read 198 = .ok (.iaload, 1) := by decide +kernel
theorem dX6_read_199 : decode cX6_read 199 = .ok (.invokevirtual 305, 3) := by decide +kernel
theorem dX6_read_202 : decode cX6_read 202 = .ok (.ifCond .ge 39, 3) := by decide +kernel
theorem dX6_read_205 : decode cX6_read 205 = .ok (.iconst 0, 1) := by decide +kernel
theorem dX6_read_206 : decode cX6_read 206 = .ok (.istore 9, 2) := by decide +kernel
theorem dX6_read_208 : decode cX6_read 208 = .ok (.iload 9, 2) := by decide +kernel
theorem dX6_read_210 : decode cX6_read 210 = .ok (.bipush 63, 2) := by decide +kernel
theorem dX6_read_212 : decode cX6_read 212 = .ok (.if_icmp .ge 23, 3) := by decide +kernel
theorem dX6_read_215 : decode cX6_read 215 = .ok (.aload_n 0, 1) := by decide +kernel
theorem dX6_read_216 : decode cX6_read 216 = .ok (.getfield 7, 3) := by decide +kernel
theorem dX6_read_219 : decode cX6_read 219 = .ok (.iload 9, 2) := by decide +kernel
theorem dX6_read_221 : decode cX6_read 221 = .ok (.aload_n 0, 1) := by decide +kernel
theorem dX6_read_222 : decode cX6_read 222 = .ok (.getfield 41, 3) := by decide +kernel
theorem dX6_read_225 : decode cX6_read 225 = .ok (.iload 9, 2) := by decide +kernel
theorem dX6_read_227 : decode cX6_read 227 = .ok (.iaload, 1) := by decide +kernel
theorem dX6_read_228 : decode cX6_read 228 = .ok (.iastore, 1) := by decide +kernel
theorem dX6_read_229 : decode cX6_read 229 = .ok (.iinc 9 1, 3) := by decide +kernel
theorem dX6_read_232 : decode cX6_read 232 = .ok (.goto (-24), 3) := by decide +kernel
theorem dX6_read_235 : decode cX6_read 235 = .ok (.bipush (-20), 2) := by decide +kernel
theorem dX6_read_237 : decode cX6_read 237 = .ok (.iload 7, 2) := by decide +kernel
theorem dX6_read_239 : decode cX6_read 239 = .ok (.isub, 1) := by decide +kernel
theorem dX6_read_240 : decode cX6_read 240 = .ok (.ireturn, 1) := by decide +kernel
theorem dX6_read_241 : decode cX6_read 241 = .ok (.iinc 6 1, 3) := by decide +kernel
theorem dX6_read_244 : decode cX6_read 244 = .ok (.iinc 7 1, 3) := by decide +kernel
theorem dX6_read_247 : decode cX6_read 247 = .ok (.goto (-185), 3) := by decide +kernel
theorem dX6_read_250 : decode cX6_read 250 = .ok (.aload_n 0, 1) := by decide +kernel
theorem dX6_read_251 : decode cX6_read 251 = .ok (.iload 5, 2) := by decide +kernel
theorem dX6_read_253 : decode cX6_read 253 = .ok (.putfield 308, 3) := by decide +kernel
theorem dX6_read_256 : decode cX6_read 256 = .ok (.iload 6, 2) := by decide +kernel
theorem dX6_read_258 : decode cX6_read 258 = .ok (.ireturn, 1) := by decide +kernel
theorem dX6_torn_0 : decode cX6_torn 0 = .ok (.aload_n 0, 1) := by decide +kernel
theorem dX6_torn_1 : decode cX6_torn 1 = .ok (.getfield 308, 3) := by decide +kernel
theorem dX6_torn_4 : decode cX6_torn 4 = .ok (.ireturn, 1) := by decide +kernel
theorem dX6_count_0 : decode cX6_count 0 = .ok (.iconst 0, 1) := by decide +kernel
theorem dX6_count_1 : decode cX6_count 1 = .ok (.istore_n 2, 1) := by decide +kernel
theorem dX6_count_2 : decode cX6_count 2 = .ok (.iconst 0, 1) := by decide +kernel
theorem dX6_count_3 : decode cX6_count 3 = .ok (.istore_n 3, 1) := by decide +kernel
theorem dX6_count_4 : decode cX6_count 4 = .ok (.iconst 0, 1) := by decide +kernel
theorem dX6_count_5 : decode cX6_count 5 = .ok (.istore 4, 2) := by decide +kernel
theorem dX6_count_7 : decode cX6_count 7 = .ok (.iload 4, 2) := by decide +kernel
theorem dX6_count_9 : decode cX6_count 9 = .ok (.aload_n 0, 1) := by decide +kernel
theorem dX6_count_10 : decode cX6_count 10 = .ok (.getfield 64, 3) := by decide +kernel
theorem dX6_count_13 : decode cX6_count 13 = .ok (.if_icmp .ge 96, 3) := by decide +kernel
theorem dX6_count_16 : decode cX6_count 16 = .ok (.iconst 4, 1) := by decide +kernel
theorem dX6_count_17 : decode cX6_count 17 = .ok (.iload 4, 2) := by decide +kernel
theorem dX6_count_19 : decode cX6_count 19 = .ok (.imul, 1) := by decide +kernel
theorem dX6_count_20 : decode cX6_count 20 = .ok (.istore 5, 2) := by decide +kernel
theorem dX6_count_22 : decode cX6_count 22 = .ok (.iload_n 2, 1) := by decide +kernel
theorem dX6_count_23 : decode cX6_count 23 = .ok (.aload_n 0, 1) := by decide +kernel
theorem dX6_count_24 : decode cX6_count 24 = .ok (.getfield 7, 3) := by decide +kernel
theorem dX6_count_27 : decode cX6_count 27 = .ok (.iload 5, 2) := by decide +kernel
theorem dX6_count_29 : decode cX6_count 29 = .ok (.iconst 3, 1) := by decide +kernel
theorem dX6_count_30 : decode cX6_count 30 = .ok (.iadd, 1) := by decide +kernel
theorem dX6_count_31 : decode cX6_count 31 = .ok (.iaload, 1) := by decide +kernel
theorem dX6_count_32 : decode cX6_count 32 = .ok (.ifCond .ne 27, 3) := by decide +kernel
theorem dX6_count_35 : decode cX6_count 35 = .ok (.aload_n 0, 1) := by decide +kernel
theorem dX6_count_36 : decode cX6_count 36 = .ok (.getfield 7, 3) := by decide +kernel
theorem dX6_count_39 : decode cX6_count 39 = .ok (.iload 5, 2) := by decide +kernel
theorem dX6_count_41 : decode cX6_count 41 = .ok (.iconst 2, 1) := by decide +kernel
theorem dX6_count_42 : decode cX6_count 42 = .ok (.iadd, 1) := by decide +kernel
theorem dX6_count_43 : decode cX6_count 43 = .ok (.iaload, 1) := by decide +kernel
theorem dX6_count_44 : decode cX6_count 44 = .ok (.ifCond .ne 15, 3) := by decide +kernel
theorem dX6_count_47 : decode cX6_count 47 = .ok (.aload_n 0, 1) := by decide +kernel
theorem dX6_count_48 : decode cX6_count 48 = .ok (.getfield 7, 3) := by decide +kernel
theorem dX6_count_51 : decode cX6_count 51 = .ok (.iload 5, 2) := by decide +kernel
theorem dX6_count_53 : decode cX6_count 53 = .ok (.iconst 1, 1) := by decide +kernel
theorem dX6_count_54 : decode cX6_count 54 = .ok (.iadd, 1) := by decide +kernel
theorem dX6_count_55 : decode cX6_count 55 = .ok (.iaload, 1) := by decide +kernel
theorem dX6_count_56 : decode cX6_count 56 = .ok (.goto 4, 3) := by decide +kernel
theorem dX6_count_59 : decode cX6_count 59 = .ok (.iconst 0, 1) := by decide +kernel
theorem dX6_count_60 : decode cX6_count 60 = .ok (.iadd, 1) := by decide +kernel
theorem dX6_count_61 : decode cX6_count 61 = .ok (.istore_n 2, 1) := by decide +kernel
theorem dX6_count_62 : decode cX6_count 62 = .ok (.iload_n 3, 1) := by decide +kernel
theorem dX6_count_63 : decode cX6_count 63 = .ok (.aload_n 0, 1) := by decide +kernel
theorem dX6_count_64 : decode cX6_count 64 = .ok (.getfield 7, 3) := by decide +kernel
theorem dX6_count_67 : decode cX6_count 67 = .ok (.iload 5, 2) := by decide +kernel
theorem dX6_count_69 : decode cX6_count 69 = .ok (.iconst 3, 1) := by decide +kernel
theorem dX6_count_70 : decode cX6_count 70 = .ok (.iadd, 1) := by decide +kernel
theorem dX6_count_71 : decode cX6_count 71 = .ok (.iaload, 1) := by decide +kernel
theorem dX6_count_72 : decode cX6_count 72 = .ok (.ifCond .ne 28, 3) := by decide +kernel
theorem dX6_count_75 : decode cX6_count 75 = .ok (.aload_n 0, 1) := by decide +kernel
theorem dX6_count_76 : decode cX6_count 76 = .ok (.getfield 7, 3) := by decide +kernel
theorem dX6_count_79 : decode cX6_count 79 = .ok (.iload 5, 2) := by decide +kernel
theorem dX6_count_81 : decode cX6_count 81 = .ok (.iconst 2, 1) := by decide +kernel
theorem dX6_count_82 : decode cX6_count 82 = .ok (.iadd, 1) := by decide +kernel
theorem dX6_count_83 : decode cX6_count 83 = .ok (.iaload, 1) := by decide +kernel
theorem dX6_count_84 : decode cX6_count 84 = .ok (.iconst 1, 1) := by decide +kernel
theorem dX6_count_85 : decode cX6_count 85 = .ok (.if_icmp .ne 15, 3) := by decide +kernel
theorem dX6_count_88 : decode cX6_count 88 = .ok (.aload_n 0, 1) := by decide +kernel
theorem dX6_count_89 : decode cX6_count 89 = .ok (.getfield 7, 3) := by decide +kernel
theorem dX6_count_92 : decode cX6_count 92 = .ok (.iload 5, 2) := by decide +kernel
theorem dX6_count_94 : decode cX6_count 94 = .ok (.iconst 1, 1) := by decide +kernel
theorem dX6_count_95 : decode cX6_count 95 = .ok (.iadd, 1) := by decide +kernel
theorem dX6_count_96 : decode cX6_count 96 = .ok (.iaload, 1) := by decide +kernel
theorem dX6_count_97 : decode cX6_count 97 = .ok (.goto 4, 3) := by decide +kernel
theorem dX6_count_100 : decode cX6_count 100 = .ok (.iconst 0, 1) := by decide +kernel
theorem dX6_count_101 : decode cX6_count 101 = .ok (.iadd, 1) := by decide +kernel
theorem dX6_count_102 : decode cX6_count 102 = .ok (.istore_n 3, 1) := by decide +kernel
theorem dX6_count_103 : decode cX6_count 103 = .ok (.iinc 4 1, 3) := by decide +kernel
theorem dX6_count_106 : decode cX6_count 106 = .ok (.goto (-99), 3) := by decide +kernel
theorem dX6_count_109 : decode cX6_count 109 = .ok (.iload_n 1, 1) := by decide +kernel
theorem dX6_count_110 : decode cX6_count 110 = .ok (.tableswitch 98 0 5 #[38, 46, 66, 71, 94, 96], 38) := by decide +kernel
theorem dX6_count_148 : decode cX6_count 148 = .ok (.aload_n 0, 1) := by decide +kernel
theorem dX6_count_149 : decode cX6_count 149 = .ok (.getfield 7, 3) := by decide +kernel
theorem dX6_count_152 : decode cX6_count 152 = .ok (.bipush 50, 2) := by decide +kernel
theorem dX6_count_154 : decode cX6_count 154 = .ok (.iaload, 1) := by decide +kernel
theorem dX6_count_155 : decode cX6_count 155 = .ok (.ireturn, 1) := by decide +kernel
theorem dX6_count_156 : decode cX6_count 156 = .ok (.aload_n 0, 1) := by decide +kernel
theorem dX6_count_157 : decode cX6_count 157 = .ok (.getfield 16, 3) := by decide +kernel
theorem dX6_count_160 : decode cX6_count 160 = .ok (.iconst 0, 1) := by decide +kernel
theorem dX6_count_161 : decode cX6_count 161 = .ok (.baload, 1) := by decide +kernel
theorem dX6_count_162 : decode cX6_count 162 = .ok (.invokestatic 219, 3) := by decide +kernel
theorem dX6_count_165 : decode cX6_count 165 = .ok (.aload_n 0, 1) := by decide +kernel
theorem dX6_count_166 : decode cX6_count 166 = .ok (.getfield 16, 3) := by decide +kernel
theorem dX6_count_169 : decode cX6_count 169 = .ok (.iconst 1, 1) := by decide +kernel
theorem dX6_count_170 : decode cX6_count 170 = .ok (.baload, 1) := by decide +kernel
theorem dX6_count_171 : decode cX6_count 171 = .ok (.invokestatic 219, 3) := by decide +kernel
theorem dX6_count_174 : decode cX6_count 174 = .ok (.iadd, 1) := by decide +kernel
theorem dX6_count_175 : decode cX6_count 175 = .ok (.ireturn, 1) := by decide +kernel
theorem dX6_count_176 : decode cX6_count 176 = .ok (.aload_n 0, 1) := by decide +kernel
theorem dX6_count_177 : decode cX6_count 177 = .ok (.getfield 73, 3) := by decide +kernel
theorem dX6_count_180 : decode cX6_count 180 = .ok (.ireturn, 1) := by decide +kernel
theorem dX6_count_181 : decode cX6_count 181 = .ok (.aload_n 0, 1) := by decide +kernel
theorem dX6_count_182 : decode cX6_count 182 = .ok (.getfield 32, 3) := by decide +kernel
theorem dX6_count_185 : decode cX6_count 185 = .ok (.iconst 0, 1) := by decide +kernel
theorem dX6_count_186 : decode cX6_count 186 = .ok (.iaload, 1) := by decide +kernel
theorem dX6_count_187 : decode cX6_count 187 = .ok (.bipush (-4), 2) := by decide +kernel
theorem dX6_count_189 : decode cX6_count 189 = .ok (.if_icmp .ne 8, 3) := by decide +kernel
theorem dX6_count_192 : decode cX6_count 192 = .ok (.bipush (-4), 2) := by decide +kernel
theorem dX6_count_194 : decode cX6_count 194 = .ok (.goto 9, 3) := by decide +kernel
theorem dX6_count_197 : decode cX6_count 197 = .ok (.aload_n 0, 1) := by decide +kernel
theorem dX6_count_198 : decode cX6_count 198 = .ok (.getfield 35, 3) := by decide +kernel
theorem dX6_count_201 : decode cX6_count 201 = .ok (.iconst 0, 1) := by decide +kernel
theorem dX6_count_202 : decode cX6_count 202 = .ok (.iaload, 1) := by decide +kernel
theorem dX6_count_203 : decode cX6_count 203 = .ok (.ireturn, 1) := by decide +kernel
theorem dX6_count_204 : decode cX6_count 204 = .ok (.iload_n 2, 1) := by decide +kernel
theorem dX6_count_205 : decode cX6_count 205 = .ok (.ireturn, 1) := by decide +kernel
theorem dX6_count_206 : decode cX6_count 206 = .ok (.iload_n 3, 1) := by decide +kernel
theorem dX6_count_207 : decode cX6_count 207 = .ok (.ireturn, 1) := by decide +kernel
theorem dX6_count_208 : decode cX6_count 208 = .ok (.iconst (-1), 1) := by decide +kernel
theorem dX6_count_209 : decode cX6_count 209 = .ok (.ireturn, 1) := by decide +kernel
end
section
theorem dJ6_bitCount_0f7a4_0 : decode cJ6_bitCount_0f7a4 0 = .ok (.iload_n 0, 1) := by decide +kernel
theorem dJ6_bitCount_0f7a4_1 : decode cJ6_bitCount_0f7a4 1 = .ok (.iload_n 0, 1) := by decide +kernel
theorem dJ6_bitCount_0f7a4_2 : decode cJ6_bitCount_0f7a4 2 = .ok (.iconst 1, 1) := by decide +kernel
theorem dJ6_bitCount_0f7a4_3 : decode cJ6_bitCount_0f7a4 3 = .ok (.iushr, 1) := by decide +kernel
theorem dJ6_bitCount_0f7a4_4 : decode cJ6_bitCount_0f7a4 4 = .ok (.ldc_w 265, 3) := by decide +kernel
theorem dJ6_bitCount_0f7a4_7 : decode cJ6_bitCount_0f7a4 7 = .ok (.iand, 1) := by decide +kernel
theorem dJ6_bitCount_0f7a4_8 : decode cJ6_bitCount_0f7a4 8 = .ok (.isub, 1) := by decide +kernel
theorem dJ6_bitCount_0f7a4_9 : decode cJ6_bitCount_0f7a4 9 = .ok (.istore_n 0, 1) := by decide +kernel
theorem dJ6_bitCount_0f7a4_10 : decode cJ6_bitCount_0f7a4 10 = .ok (.iload_n 0, 1) := by decide +kernel
theorem dJ6_bitCount_0f7a4_11 : decode cJ6_bitCount_0f7a4 11 = .ok (.ldc_w 266, 3) := by decide +kernel
theorem dJ6_bitCount_0f7a4_14 : decode cJ6_bitCount_0f7a4 14 = .ok (.iand, 1) := by decide +kernel
theorem dJ6_bitCount_0f7a4_15 : decode cJ6_bitCount_0f7a4 15 = .ok (.iload_n 0, 1) := by decide +kernel
theorem dJ6_bitCount_0f7a4_16 : decode cJ6_bitCount_0f7a4 16 = .ok (.iconst 2, 1) := by decide +kernel
theorem dJ6_bitCount_0f7a4_17 : decode cJ6_bitCount_0f7a4 17 = .ok (.iushr, 1) := by decide +kernel
theorem dJ6_bitCount_0f7a4_18 : decode cJ6_bitCount_0f7a4 18 = .ok (.ldc_w 266, 3) := by decide +kernel
theorem dJ6_bitCount_0f7a4_21 : decode cJ6_bitCount_0f7a4 21 = .ok (.iand, 1) := by decide +kernel
theorem dJ6_bitCount_0f7a4_22 : decode cJ6_bitCount_0f7a4 22 = .ok (.iadd, 1) := by decide +kernel
theorem dJ6_bitCount_0f7a4_23 : decode cJ6_bitCount_0f7a4 23 = .ok (.istore_n 0, 1) := by decide +kernel
theorem dJ6_bitCount_0f7a4_24 : decode cJ6_bitCount_0f7a4 24 = .ok (.iload_n 0, 1) := by decide +kernel
theorem dJ6_bitCount_0f7a4_25 : decode cJ6_bitCount_0f7a4 25 = .ok (.iload_n 0, 1) := by decide +kernel
theorem dJ6_bitCount_0f7a4_26 : decode cJ6_bitCount_0f7a4 26 = .ok (.iconst 4, 1) := by decide +kernel
theorem dJ6_bitCount_0f7a4_27 : decode cJ6_bitCount_0f7a4 27 = .ok (.iushr, 1) := by decide +kernel
theorem dJ6_bitCount_0f7a4_28 : decode cJ6_bitCount_0f7a4 28 = .ok (.iadd, 1) := by decide +kernel
theorem dJ6_bitCount_0f7a4_29 : decode cJ6_bitCount_0f7a4 29 = .ok (.ldc_w 267, 3) := by decide +kernel
theorem dJ6_bitCount_0f7a4_32 : decode cJ6_bitCount_0f7a4 32 = .ok (.iand, 1) := by decide +kernel
theorem dJ6_bitCount_0f7a4_33 : decode cJ6_bitCount_0f7a4 33 = .ok (.istore_n 0, 1) := by decide +kernel
theorem dJ6_bitCount_0f7a4_34 : decode cJ6_bitCount_0f7a4 34 = .ok (.iload_n 0, 1) := by decide +kernel
theorem dJ6_bitCount_0f7a4_35 : decode cJ6_bitCount_0f7a4 35 = .ok (.iload_n 0, 1) := by decide +kernel
theorem dJ6_bitCount_0f7a4_36 : decode cJ6_bitCount_0f7a4 36 = .ok (.bipush 8, 2) := by decide +kernel
theorem dJ6_bitCount_0f7a4_38 : decode cJ6_bitCount_0f7a4 38 = .ok (.iushr, 1) := by decide +kernel
theorem dJ6_bitCount_0f7a4_39 : decode cJ6_bitCount_0f7a4 39 = .ok (.iadd, 1) := by decide +kernel
theorem dJ6_bitCount_0f7a4_40 : decode cJ6_bitCount_0f7a4 40 = .ok (.istore_n 0, 1) := by decide +kernel
theorem dJ6_bitCount_0f7a4_41 : decode cJ6_bitCount_0f7a4 41 = .ok (.iload_n 0, 1) := by decide +kernel
theorem dJ6_bitCount_0f7a4_42 : decode cJ6_bitCount_0f7a4 42 = .ok (.iload_n 0, 1) := by decide +kernel
theorem dJ6_bitCount_0f7a4_43 : decode cJ6_bitCount_0f7a4 43 = .ok (.bipush 16, 2) := by decide +kernel
theorem dJ6_bitCount_0f7a4_45 : decode cJ6_bitCount_0f7a4 45 = .ok (.iushr, 1) := by decide +kernel
theorem dJ6_bitCount_0f7a4_46 : decode cJ6_bitCount_0f7a4 46 = .ok (.iadd, 1) := by decide +kernel
theorem dJ6_bitCount_0f7a4_47 : decode cJ6_bitCount_0f7a4 47 = .ok (.istore_n 0, 1) := by decide +kernel
theorem dJ6_bitCount_0f7a4_48 : decode cJ6_bitCount_0f7a4 48 = .ok (.iload_n 0, 1) := by decide +kernel
theorem dJ6_bitCount_0f7a4_49 : decode cJ6_bitCount_0f7a4 49 = .ok (.bipush 63, 2) := by decide +kernel
theorem dJ6_bitCount_0f7a4_51 : decode cJ6_bitCount_0f7a4 51 = .ok (.iand, 1) := by decide +kernel
theorem dJ6_bitCount_0f7a4_52 : decode cJ6_bitCount_0f7a4 52 = .ok (.ireturn, 1) := by decide +kernel
theorem dJ9_abs_0f7a4_0 : decode cJ9_abs_0f7a4 0 = .ok (.iload_n 0, 1) := by decide +kernel
theorem dJ9_abs_0f7a4_1 : decode cJ9_abs_0f7a4 1 = .ok (.ifCond .ge 8, 3) := by decide +kernel
theorem dJ9_abs_0f7a4_4 : decode cJ9_abs_0f7a4 4 = .ok (.iload_n 0, 1) := by decide +kernel
theorem dJ9_abs_0f7a4_5 : decode cJ9_abs_0f7a4 5 = .ok (.ineg, 1) := by decide +kernel
theorem dJ9_abs_0f7a4_6 : decode cJ9_abs_0f7a4 6 = .ok (.goto 4, 3) := by decide +kernel
theorem dJ9_abs_0f7a4_9 : decode cJ9_abs_0f7a4 9 = .ok (.iload_n 0, 1) := by decide +kernel
theorem dJ9_abs_0f7a4_10 : decode cJ9_abs_0f7a4 10 = .ok (.ireturn, 1) := by decide +kernel
theorem dJ9_max_7cf53_0 : decode cJ9_max_7cf53 0 = .ok (.iload_n 0, 1) := by decide +kernel
theorem dJ9_max_7cf53_1 : decode cJ9_max_7cf53 1 = .ok (.iload_n 1, 1) := by decide +kernel
theorem dJ9_max_7cf53_2 : decode cJ9_max_7cf53 2 = .ok (.if_icmp .lt 7, 3) := by decide +kernel
theorem dJ9_max_7cf53_5 : decode cJ9_max_7cf53 5 = .ok (.iload_n 0, 1) := by decide +kernel
theorem dJ9_max_7cf53_6 : decode cJ9_max_7cf53 6 = .ok (.goto 4, 3) := by decide +kernel
theorem dJ9_max_7cf53_9 : decode cJ9_max_7cf53 9 = .ok (.iload_n 1, 1) := by decide +kernel
theorem dJ9_max_7cf53_10 : decode cJ9_max_7cf53 10 = .ok (.ireturn, 1) := by decide +kernel
theorem dJ9_min_7cf53_0 : decode cJ9_min_7cf53 0 = .ok (.iload_n 0, 1) := by decide +kernel
theorem dJ9_min_7cf53_1 : decode cJ9_min_7cf53 1 = .ok (.iload_n 1, 1) := by decide +kernel
theorem dJ9_min_7cf53_2 : decode cJ9_min_7cf53 2 = .ok (.if_icmp .gt 7, 3) := by decide +kernel
theorem dJ9_min_7cf53_5 : decode cJ9_min_7cf53 5 = .ok (.iload_n 0, 1) := by decide +kernel
theorem dJ9_min_7cf53_6 : decode cJ9_min_7cf53 6 = .ok (.goto 4, 3) := by decide +kernel
theorem dJ9_min_7cf53_9 : decode cJ9_min_7cf53 9 = .ok (.iload_n 1, 1) := by decide +kernel
theorem dJ9_min_7cf53_10 : decode cJ9_min_7cf53 10 = .ok (.ireturn, 1) := by decide +kernel
theorem dJ0_length_8abf5_0 : decode cJ0_length_8abf5 0 = .ok (.aload_n 0, 1) := by decide +kernel
theorem dJ0_length_8abf5_1 : decode cJ0_length_8abf5 1 = .ok (.getfield 9, 3) := by decide +kernel
theorem dJ0_length_8abf5_4 : decode cJ0_length_8abf5 4 = .ok (.arraylength, 1) := by decide +kernel
theorem dJ0_length_8abf5_5 : decode cJ0_length_8abf5 5 = .ok (.aload_n 0, 1) := by decide +kernel
theorem dJ0_length_8abf5_6 : decode cJ0_length_8abf5 6 = .ok (.invokevirtual 335, 3) := by decide +kernel
theorem dJ0_length_8abf5_9 : decode cJ0_length_8abf5 9 = .ok (.ishr, 1) := by decide +kernel
theorem dJ0_length_8abf5_10 : decode cJ0_length_8abf5 10 = .ok (.ireturn, 1) := by decide +kernel
theorem dJ0_charAt_5068e_0 : decode cJ0_charAt_5068e 0 = .ok (.aload_n 0, 1) := by decide +kernel
theorem dJ0_charAt_5068e_1 : decode cJ0_charAt_5068e 1 = .ok (.invokevirtual 492, 3) := by decide +kernel
theorem dJ0_charAt_5068e_4 : decode cJ0_charAt_5068e 4 = .ok (.ifCond .eq 12, 3) := by decide +kernel
theorem dJ0_charAt_5068e_7 : decode cJ0_charAt_5068e 7 = .ok (.aload_n 0, 1) := by decide +kernel
theorem dJ0_charAt_5068e_8 : decode cJ0_charAt_5068e 8 = .ok (.getfield 9, 3) := by decide +kernel
theorem dJ0_charAt_5068e_11 : decode cJ0_charAt_5068e 11 = .ok (.iload_n 1, 1) := by decide +kernel
theorem dJ0_charAt_5068e_12 : decode cJ0_charAt_5068e 12 = .ok (.invokestatic 495, 3) := by decide +kernel
theorem dJ0_charAt_5068e_15 : decode cJ0_charAt_5068e 15 = .ok (.ireturn, 1) := by decide +kernel
theorem dJ0_charAt_5068e_16 : decode cJ0_charAt_5068e 16 = .ok (.aload_n 0, 1) := by decide +kernel
theorem dJ0_charAt_5068e_17 : decode cJ0_charAt_5068e 17 = .ok (.getfield 9, 3) := by decide +kernel
theorem dJ0_charAt_5068e_20 : decode cJ0_charAt_5068e 20 = .ok (.iload_n 1, 1) := by decide +kernel
theorem dJ0_charAt_5068e_21 : decode cJ0_charAt_5068e 21 = .ok (.invokestatic 498, 3) := by decide +kernel
theorem dJ0_charAt_5068e_24 : decode cJ0_charAt_5068e 24 = .ok (.ireturn, 1) := by decide +kernel
theorem dJ0_coder_7d493_0 : decode cJ0_coder_7d493 0 = .ok (.getstatic 38, 3) := by decide +kernel
theorem dJ0_coder_7d493_3 : decode cJ0_coder_7d493 3 = .ok (.ifCond .eq 10, 3) := by decide +kernel
theorem dJ0_coder_7d493_6 : decode cJ0_coder_7d493 6 = .ok (.aload_n 0, 1) := by decide +kernel
theorem dJ0_coder_7d493_7 : decode cJ0_coder_7d493 7 = .ok (.getfield 15, 3) := by decide +kernel
theorem dJ0_coder_7d493_10 : decode cJ0_coder_7d493 10 = .ok (.goto 4, 3) := by decide +kernel
theorem dJ0_coder_7d493_13 : decode cJ0_coder_7d493 13 = .ok (.iconst 1, 1) := by decide +kernel
theorem dJ0_coder_7d493_14 : decode cJ0_coder_7d493 14 = .ok (.ireturn, 1) := by decide +kernel
theorem dJ0_isLatin1_aae02_0 : decode cJ0_isLatin1_aae02 0 = .ok (.getstatic 38, 3) := by decide +kernel
theorem dJ0_isLatin1_aae02_3 : decode cJ0_isLatin1_aae02 3 = .ok (.ifCond .eq 14, 3) := by decide +kernel
theorem dJ0_isLatin1_aae02_6 : decode cJ0_isLatin1_aae02 6 = .ok (.aload_n 0, 1) := by decide +kernel
theorem dJ0_isLatin1_aae02_7 : decode cJ0_isLatin1_aae02 7 = .ok (.getfield 15, 3) := by decide +kernel
theorem dJ0_isLatin1_aae02_10 : decode cJ0_isLatin1_aae02 10 = .ok (.ifCond .ne 7, 3) := by decide +kernel
theorem dJ0_isLatin1_aae02_13 : decode cJ0_isLatin1_aae02 13 = .ok (.iconst 1, 1) := by decide +kernel
theorem dJ0_isLatin1_aae02_14 : decode cJ0_isLatin1_aae02 14 = .ok (.goto 4, 3) := by decide +kernel
theorem dJ0_isLatin1_aae02_17 : decode cJ0_isLatin1_aae02 17 = .ok (.iconst 0, 1) := by decide +kernel
theorem dJ0_isLatin1_aae02_18 : decode cJ0_isLatin1_aae02 18 = .ok (.ireturn, 1) := by decide +kernel
theorem dJ0_checkIndex_df160_0 : decode cJ0_checkIndex_df160 0 = .ok (.iload_n 0, 1) := by decide +kernel
theorem dJ0_checkIndex_df160_1 : decode cJ0_checkIndex_df160 1 = .ok (.iload_n 1, 1) := by decide +kernel
theorem dJ0_checkIndex_df160_2 : decode cJ0_checkIndex_df160 2 = .ok (.getstatic 1053, 3) := by decide +kernel
theorem dJ0_checkIndex_df160_5 : decode cJ0_checkIndex_df160 5 = .ok (.invokestatic 1059, 3) := by decide +kernel
theorem dJ0_checkIndex_df160_8 : decode cJ0_checkIndex_df160 8 = .ok (.pop, 1) := by decide +kernel
theorem dJ0_checkIndex_df160_9 : decode cJ0_checkIndex_df160 9 = .ok (.return_, 1) := by decide +kernel
theorem dJ1_charAt_3b067_0 : decode cJ1_charAt_3b067 0 = .ok (.iload_n 1, 1) := by decide +kernel
theorem dJ1_charAt_3b067_1 : decode cJ1_charAt_3b067 1 = .ok (.aload_n 0, 1) := by decide +kernel
theorem dJ1_charAt_3b067_2 : decode cJ1_charAt_3b067 2 = .ok (.arraylength, 1) := by decide +kernel
theorem dJ1_charAt_3b067_3 : decode cJ1_charAt_3b067 3 = .ok (.invokestatic 9, 3) := by decide +kernel
theorem dJ1_charAt_3b067_6 : decode cJ1_charAt_3b067 6 = .ok (.aload_n 0, 1) := by decide +kernel
theorem dJ1_charAt_3b067_7 : decode cJ1_charAt_3b067 7 = .ok (.iload_n 1, 1) := by decide +kernel
theorem dJ1_charAt_3b067_8 : decode cJ1_charAt_3b067 8 = .ok (.baload, 1) := by decide +kernel
theorem dJ1_charAt_3b067_9 : decode cJ1_charAt_3b067 9 = .ok (.sipush 255, 3) := by decide +kernel
theorem dJ1_charAt_3b067_12 : decode cJ1_charAt_3b067 12 = .ok (.iand, 1) := by decide +kernel
theorem dJ1_charAt_3b067_13 : decode cJ1_charAt_3b067 13 = .ok (.i2c, 1) := by decide +kernel
theorem dJ1_charAt_3b067_14 : decode cJ1_charAt_3b067 14 = .ok (.ireturn, 1) := by decide +kernel
theorem dJ2_getChar_3b067_0 : decode cJ2_getChar_3b067 0 = .ok (.getstatic 44, 3) := by decide +kernel
theorem dJ2_getChar_3b067_3 : decode cJ2_getChar_3b067 3 = .ok (.ifCond .ne 25, 3) := by decide +kernel
theorem dJ2_getChar_3b067_6 : decode cJ2_getChar_3b067 6 = .ok (.iload_n 1, 1) := by decide +kernel
theorem dJ2_getChar_3b067_7 : decode cJ2_getChar_3b067 7 = .ok (.ifCond .lt 11, 3) := by decide +kernel
theorem dJ2_getChar_3b067_10 : decode cJ2_getChar_3b067 10 = .ok (.iload_n 1, 1) := by decide +kernel
theorem dJ2_getChar_3b067_11 : decode cJ2_getChar_3b067 11 = .ok (.aload_n 0, 1) := by decide +kernel
theorem dJ2_getChar_3b067_12 : decode cJ2_getChar_3b067 12 = .ok (.invokestatic 48, 3) := by decide +kernel
theorem dJ2_getChar_3b067_15 : decode cJ2_getChar_3b067 15 = .ok (.if_icmp .lt 13, 3) := by decide +kernel
theorem dJ2_getChar_3b067_18 : decode cJ2_getChar_3b067 18 = .ok (.new 52, 3) := by decide +kernel
theorem dJ2_getChar_3b067_21 : decode cJ2_getChar_3b067 21 = .ok (.dup, 1) := by decide +kernel
theorem dJ2_getChar_3b067_22 : decode cJ2_getChar_3b067 22 = .ok (.ldc 54, 2) := by decide +kernel
theorem dJ2_getChar_3b067_24 : decode cJ2_getChar_3b067 24 = .ok (.invokespecial 56, 3) := by decide +kernel
theorem dJ2_getChar_3b067_27 : decode cJ2_getChar_3b067 27 = .ok (.athrow, 1) := by decide +kernel
theorem dJ2_getChar_3b067_28 : decode cJ2_getChar_3b067 28 = .ok (.iload_n 1, 1) := by decide +kernel
theorem dJ2_getChar_3b067_29 : decode cJ2_getChar_3b067 29 = .ok (.iconst 1, 1) := by decide +kernel
theorem dJ2_getChar_3b067_30 : decode cJ2_getChar_3b067 30 = .ok (.ishl, 1) := by decide +kernel
theorem dJ2_getChar_3b067_31 : decode cJ2_getChar_3b067 31 = .ok (.istore_n 1, 1) := by decide +kernel
theorem dJ2_getChar_3b067_32 : decode cJ2_getChar_3b067 32 = .ok (.aload_n 0, 1) := by decide +kernel
theorem dJ2_getChar_3b067_33 : decode cJ2_getChar_3b067 33 = .ok (.iload_n 1, 1) := by decide +kernel
theorem dJ2_getChar_3b067_34 : decode cJ2_getChar_3b067 34 = .ok (.iinc 1 1, 3) := by decide +kernel
theorem dJ2_getChar_3b067_37 : decode cJ2_getChar_3b067 37 = .ok (.baload, 1) := by decide +kernel
theorem dJ2_getChar_3b067_38 : decode cJ2_getChar_3b067 38 = .ok (.sipush 255, 3) := by decide +kernel
theorem dJ2_getChar_3b067_41 : decode cJ2_getChar_3b067 41 = .ok (.iand, 1) := by decide +kernel
theorem dJ2_getChar_3b067_42 : decode cJ2_getChar_3b067 42 = .ok (.getstatic 59, 3) := by decide +kernel
theorem dJ2_getChar_3b067_45 : decode cJ2_getChar_3b067 45 = .ok (.ishl, 1) := by decide +kernel
theorem dJ2_getChar_3b067_46 : decode cJ2_getChar_3b067 46 = .ok (.aload_n 0, 1) := by decide +kernel
theorem dJ2_getChar_3b067_47 : decode cJ2_getChar_3b067 47 = .ok (.iload_n 1, 1) := by decide +kernel
theorem dJ2_getChar_3b067_48 : decode cJ2_getChar_3b067 48 = .ok (.baload, 1) := by decide +kernel
theorem dJ2_getChar_3b067_49 : decode cJ2_getChar_3b067 49 = .ok (.sipush 255, 3) := by decide +kernel
theorem dJ2_getChar_3b067_52 : decode cJ2_getChar_3b067 52 = .ok (.iand, 1) := by decide +kernel
theorem dJ2_getChar_3b067_53 : decode cJ2_getChar_3b067 53 = .ok (.getstatic 63, 3) := by decide +kernel
theorem dJ2_getChar_3b067_56 : decode cJ2_getChar_3b067 56 = .ok (.ishl, 1) := by decide +kernel
theorem dJ2_getChar_3b067_57 : decode cJ2_getChar_3b067 57 = .ok (.ior, 1) := by decide +kernel
theorem dJ2_getChar_3b067_58 : decode cJ2_getChar_3b067 58 = .ok (.i2c, 1) := by decide +kernel
theorem dJ2_getChar_3b067_59 : decode cJ2_getChar_3b067 59 = .ok (.ireturn, 1) := by decide +kernel
theorem dJ2_length_9d52b_0 : decode cJ2_length_9d52b 0 = .ok (.aload_n 0, 1) := by decide +kernel
theorem dJ2_length_9d52b_1 : decode cJ2_length_9d52b 1 = .ok (.arraylength, 1) := by decide +kernel
theorem dJ2_length_9d52b_2 : decode cJ2_length_9d52b 2 = .ok (.iconst 1, 1) := by decide +kernel
theorem dJ2_length_9d52b_3 : decode cJ2_length_9d52b 3 = .ok (.ishr, 1) := by decide +kernel
theorem dJ2_length_9d52b_4 : decode cJ2_length_9d52b 4 = .ok (.ireturn, 1) := by decide +kernel
theorem dJ2_charAt_3b067_0 : decode cJ2_charAt_3b067 0 = .ok (.iload_n 1, 1) := by decide +kernel
theorem dJ2_charAt_3b067_1 : decode cJ2_charAt_3b067 1 = .ok (.aload_n 0, 1) := by decide +kernel
theorem dJ2_charAt_3b067_2 : decode cJ2_charAt_3b067 2 = .ok (.invokestatic 67, 3) := by decide +kernel
theorem dJ2_charAt_3b067_5 : decode cJ2_charAt_3b067 5 = .ok (.aload_n 0, 1) := by decide +kernel
theorem dJ2_charAt_3b067_6 : decode cJ2_charAt_3b067 6 = .ok (.iload_n 1, 1) := by decide +kernel
theorem dJ2_charAt_3b067_7 : decode cJ2_charAt_3b067 7 = .ok (.invokestatic 71, 3) := by decide +kernel
theorem dJ2_charAt_3b067_10 : decode cJ2_charAt_3b067 10 = .ok (.ireturn, 1) := by decide +kernel
theorem dJ2_checkIndex_2214a_0 : decode cJ2_checkIndex_2214a 0 = .ok (.iload_n 0, 1) := by decide +kernel
theorem dJ2_checkIndex_2214a_1 : decode cJ2_checkIndex_2214a 1 = .ok (.aload_n 1, 1) := by decide +kernel
theorem dJ2_checkIndex_2214a_2 : decode cJ2_checkIndex_2214a 2 = .ok (.invokestatic 48, 3) := by decide +kernel
theorem dJ2_checkIndex_2214a_5 : decode cJ2_checkIndex_2214a 5 = .ok (.invokestatic 414, 3) := by decide +kernel
theorem dJ2_checkIndex_2214a_8 : decode cJ2_checkIndex_2214a 8 = .ok (.return_, 1) := by decide +kernel
theorem dJ7_fill_53178_0 : decode cJ7_fill_53178 0 = .ok (.iconst 0, 1) := by decide +kernel
theorem dJ7_fill_53178_1 : decode cJ7_fill_53178 1 = .ok (.istore_n 2, 1) := by decide +kernel
theorem dJ7_fill_53178_2 : decode cJ7_fill_53178 2 = .ok (.aload_n 0, 1) := by decide +kernel
theorem dJ7_fill_53178_3 : decode cJ7_fill_53178 3 = .ok (.arraylength, 1) := by decide +kernel
theorem dJ7_fill_53178_4 : decode cJ7_fill_53178 4 = .ok (.istore_n 3, 1) := by decide +kernel
theorem dJ7_fill_53178_5 : decode cJ7_fill_53178 5 = .ok (.iload_n 2, 1) := by decide +kernel
theorem dJ7_fill_53178_6 : decode cJ7_fill_53178 6 = .ok (.iload_n 3, 1) := by decide +kernel
theorem dJ7_fill_53178_7 : decode cJ7_fill_53178 7 = .ok (.if_icmp .ge 13, 3) := by decide +kernel
theorem dJ7_fill_53178_10 : decode cJ7_fill_53178 10 = .ok (.aload_n 0, 1) := by decide +kernel
theorem dJ7_fill_53178_11 : decode cJ7_fill_53178 11 = .ok (.iload_n 2, 1) := by decide +kernel
theorem dJ7_fill_53178_12 : decode cJ7_fill_53178 12 = .ok (.iload_n 1, 1) := by decide +kernel
theorem dJ7_fill_53178_13 : decode cJ7_fill_53178 13 = .ok (.iastore, 1) := by decide +kernel
theorem dJ7_fill_53178_14 : decode cJ7_fill_53178 14 = .ok (.iinc 2 1, 3) := by decide +kernel
theorem dJ7_fill_53178_17 : decode cJ7_fill_53178 17 = .ok (.goto (-12), 3) := by decide +kernel
theorem dJ7_fill_53178_20 : decode cJ7_fill_53178 20 = .ok (.return_, 1) := by decide +kernel
theorem dJ3_checkIndex_8e157_0 : decode cJ3_checkIndex_8e157 0 = .ok (.iload_n 0, 1) := by decide +kernel
theorem dJ3_checkIndex_8e157_1 : decode cJ3_checkIndex_8e157 1 = .ok (.ifCond .lt 8, 3) := by decide +kernel
theorem dJ3_checkIndex_8e157_4 : decode cJ3_checkIndex_8e157 4 = .ok (.iload_n 0, 1) := by decide +kernel
theorem dJ3_checkIndex_8e157_5 : decode cJ3_checkIndex_8e157 5 = .ok (.iload_n 1, 1) := by decide +kernel
theorem dJ3_checkIndex_8e157_6 : decode cJ3_checkIndex_8e157 6 = .ok (.if_icmp .lt 10, 3) := by decide +kernel
theorem dJ3_checkIndex_8e157_9 : decode cJ3_checkIndex_8e157 9 = .ok (.aload_n 2, 1) := by decide +kernel
theorem dJ3_checkIndex_8e157_10 : decode cJ3_checkIndex_8e157 10 = .ok (.iload_n 0, 1) := by decide +kernel
theorem dJ3_checkIndex_8e157_11 : decode cJ3_checkIndex_8e157 11 = .ok (.iload_n 1, 1) := by decide +kernel
theorem dJ3_checkIndex_8e157_12 : decode cJ3_checkIndex_8e157 12 = .ok (.invokestatic 95, 3) := by decide +kernel
theorem dJ3_checkIndex_8e157_15 : decode cJ3_checkIndex_8e157 15 = .ok (.athrow, 1) := by decide +kernel
theorem dJ3_checkIndex_8e157_16 : decode cJ3_checkIndex_8e157 16 = .ok (.iload_n 0, 1) := by decide +kernel
theorem dJ3_checkIndex_8e157_17 : decode cJ3_checkIndex_8e157 17 = .ok (.ireturn, 1) := by decide +kernel
end
section
/-! The system's cells as one picture: keys (numbers) name the cells, sh says what each cell is, a state says what the cells hold. -/
abbrev StA : Type := (Nat → Nat → Int32) × (Nat → Nat → Int64)
def gi (s : StA) (k j : Nat) : Int32 := s.1 k j
def gl (s : StA) (k j : Nat) : Int64 := s.2 k j
def si (s : StA) (k j : Nat) (v : Int32) : StA := (fun a b => if a = k ∧ b = j then v else s.1 a b, s.2)
def sl (s : StA) (k j : Nat) (v : Int64) : StA := (s.1, fun a b => if a = k ∧ b = j then v else s.2 a b)
theorem gi_si (s : StA) (k j : Nat) (v : Int32) (a b : Nat) : gi (si s k j v) a b = if a = k ∧ b = j then v else gi s a b := rfl
theorem gl_si (s : StA) (k j : Nat) (v : Int32) (a b : Nat) : gl (si s k j v) a b = gl s a b := rfl
theorem gi_sl (s : StA) (k j : Nat) (v : Int64) (a b : Nat) : gi (sl s k j v) a b = gi s a b := rfl
theorem gl_sl (s : StA) (k j : Nat) (v : Int64) (a b : Nat) : gl (sl s k j v) a b = if a = k ∧ b = j then v else gl s a b := rfl
/-- an object: its class's number and its fields (a key, an int: false, a long: true); a row of ints or booleans: its type's number, its length; a row of references: type, length, base, stride -/
abbrev ShA : Type := (Nat × List (Nat ⊕ Bool)) ⊕ ((Nat × Nat) ⊕ (Nat × Nat × Nat × Nat))
def en_F (ph : Nat → Nat) (s : StA) (k j : Nat) : (Nat ⊕ Bool) → Value
  | .inl r => .ref (ph r)
  | .inr false => .int (gi s k j)
  | .inr true => .long (gl s k j)
def en_L (ph : Nat → Nat) (s : StA) (k : Nat) : Nat → List (Nat ⊕ Bool) → List Value
  | _, [] => []
  | j, f :: fs => en_F ph s k j f :: en_L ph s k (j + 1) fs
def en_E (ph : Nat → Nat) (ids : Nat → ClassId) (s : StA) (k : Nat) : ShA → va_E
  | .inl (ci, fs) => .inr (ci, en_L ph s k 0 fs)
  | .inr (.inl (t, n)) => .inl (ids t, n, .inl (fun i => gi s k i))
  | .inr (.inr (t, n, b, d)) => .inl (ids t, n, .inr (.inr (.inr (.inr (fun i => some (ph (b + d * i)))))))
/-- the static side of a world: how many keys, what each is -/
abbrev MW : Type := Nat × (Nat → ShA)
def wld (M : MW) (ph : Nat → Nat) (ids : Nat → ClassId) (s : StA) : va_W := (List.range M.1).map (fun k => (ph k, en_E ph ids s k (M.2 k)))
theorem wld_len (M : MW) (ph : Nat → Nat) (ids : Nat → ClassId) (s : StA) : (wld M ph ids s).length = M.1 := by simp [wld]
theorem wld_get {M : MW} {ph : Nat → Nat} {ids : Nat → ClassId} {s : StA} {k : Nat} {x : ShA} (h : k < M.1 ∧ M.2 k = x) : (wld M ph ids s)[k]? = some (ph k, en_E ph ids s k x) := by
  obtain ⟨h1, h2⟩ := h
  subst h2
  unfold wld
  rw [List.getElem?_map, List.getElem?_range h1]
  rfl
theorem wld_inv {M : MW} {ph : Nat → Nat} {ids : Nat → ClassId} {s : StA} {k : Nat} {q : Nat × va_E} (h : (wld M ph ids s)[k]? = some q) : k < M.1 ∧ q = (ph k, en_E ph ids s k (M.2 k)) := by
  have hk : k < M.1 := by
    have := (List.getElem?_eq_some_iff.mp h).1
    rwa [wld_len] at this
  rw [wld_get ⟨hk, rfl⟩] at h
  exact ⟨hk, (Option.some.inj h).symm⟩
theorem en_L_get (ph : Nat → Nat) (s : StA) (k : Nat) : ∀ (fs : List (Nat ⊕ Bool)) (j0 j : Nat), (en_L ph s k j0 fs)[j]? = (fs[j]?).map (en_F ph s k (j0 + j))
  | [], _, _ => by simp [en_L]
  | f :: fs, j0, 0 => by simp [en_L]
  | f :: fs, j0, j + 1 => by
    have h := en_L_get ph s k fs (j0 + 1) j
    simp only [en_L, List.getElem?_cons_succ, h]
    rw [show j0 + 1 + j = j0 + (j + 1) by omega]
theorem en_L_len (ph : Nat → Nat) (s : StA) (k : Nat) : ∀ (fs : List (Nat ⊕ Bool)) (j0 : Nat), (en_L ph s k j0 fs).length = fs.length
  | [], _ => rfl
  | _ :: fs, j0 => by simp [en_L, en_L_len ph s k fs]
theorem en_L_congr {ph : Nat → Nat} {s s' : StA} {k : Nat} (h1 : ∀ j, gi s' k j = gi s k j) (h2 : ∀ j, gl s' k j = gl s k j) : ∀ (fs : List (Nat ⊕ Bool)) (j0 : Nat), en_L ph s' k j0 fs = en_L ph s k j0 fs
  | [], _ => rfl
  | f :: fs, j0 => by
    simp only [en_L]
    rw [en_L_congr h1 h2 fs]
    congr 1
    rcases f with r | b
    · rfl
    · cases b
      · simp only [en_F, h1]
      · simp only [en_F, h2]
theorem en_E_congr {ph : Nat → Nat} {ids : Nat → ClassId} {s s' : StA} {k : Nat} (h1 : ∀ j, gi s' k j = gi s k j) (h2 : ∀ j, gl s' k j = gl s k j) (x : ShA) : en_E ph ids s' k x = en_E ph ids s k x := by
  rcases x with ⟨ci, fs⟩ | ⟨t, n⟩ | ⟨t, n, b, d⟩
  · simp only [en_E, en_L_congr h1 h2]
  · simp only [en_E, h1]
  · rfl
theorem wld_set {M : MW} {ph : Nat → Nat} {ids : Nat → ClassId} {s s' : StA} {k : Nat} {e : va_E} (hk : k < M.1) (he : en_E ph ids s' k (M.2 k) = e) (h1 : ∀ a, a ≠ k → ∀ j, gi s' a j = gi s a j) (h2 : ∀ a, a ≠ k → ∀ j, gl s' a j = gl s a j) : (wld M ph ids s).set k (ph k, e) = wld M ph ids s' := by
  apply List.ext_getElem?
  intro i
  by_cases hi : i = k
  · subst hi
    rw [List.getElem?_set_self (by rw [wld_len]; exact hk), wld_get ⟨hk, rfl⟩, he]
  · rw [List.getElem?_set_ne (Ne.symm hi)]
    by_cases hl : i < M.1
    · rw [wld_get ⟨hl, rfl⟩, wld_get ⟨hl, rfl⟩, en_E_congr (h1 i hi) (h2 i hi)]
    · rw [List.getElem?_eq_none (by rw [wld_len]; omega), List.getElem?_eq_none (by rw [wld_len]; omega)]
theorem en_L_set_i {ph : Nat → Nat} {s : StA} {k : Nat} {v : Int32} {j : Nat} : ∀ (fs : List (Nat ⊕ Bool)) (j0 i : Nat), fs[i]? = some (.inr false) → j = j0 + i → en_L ph (si s k j v) k j0 fs = (en_L ph s k j0 fs).set i (.int v)
  | [], _, _, h, _ => by simp at h
  | f :: fs, j0, 0, h, e => by
    simp only [List.getElem?_cons_zero, Option.some.injEq] at h
    subst h
    simp only [en_L, List.set_cons_zero, en_F, gi_si]
    rw [if_pos ⟨trivial, by omega⟩]
    congr 1
    have key : ∀ (gs : List (Nat ⊕ Bool)) (i0 : Nat), j < i0 → en_L ph (si s k j v) k i0 gs = en_L ph s k i0 gs := by
      intro gs
      induction gs with
      | nil => intro i0 _; rfl
      | cons g gs ih =>
        intro i0 hi
        simp only [en_L]
        rw [ih (i0 + 1) (by omega)]
        congr 1
        rcases g with r | b
        · rfl
        · cases b
          · simp only [en_F, gi_si]
            rw [if_neg (by omega)]
          · simp only [en_F, gl_si]
    exact key fs (j0 + 1) (by omega)
  | f :: fs, j0, i + 1, h, e => by
    simp only [List.getElem?_cons_succ] at h
    simp only [en_L, List.set_cons_succ]
    rw [en_L_set_i fs (j0 + 1) i h (by omega)]
    congr 1
    rcases f with r | b
    · rfl
    · cases b
      · simp only [en_F, gi_si]
        rw [if_neg (by omega)]
      · simp only [en_F, gl_si]
theorem en_L_set_l {ph : Nat → Nat} {s : StA} {k : Nat} {v : Int64} {j : Nat} : ∀ (fs : List (Nat ⊕ Bool)) (j0 i : Nat), fs[i]? = some (.inr true) → j = j0 + i → en_L ph (sl s k j v) k j0 fs = (en_L ph s k j0 fs).set i (.long v)
  | [], _, _, h, _ => by simp at h
  | f :: fs, j0, 0, h, e => by
    simp only [List.getElem?_cons_zero, Option.some.injEq] at h
    subst h
    simp only [en_L, List.set_cons_zero, en_F, gl_sl]
    rw [if_pos ⟨trivial, by omega⟩]
    congr 1
    have key : ∀ (gs : List (Nat ⊕ Bool)) (i0 : Nat), j < i0 → en_L ph (sl s k j v) k i0 gs = en_L ph s k i0 gs := by
      intro gs
      induction gs with
      | nil => intro i0 _; rfl
      | cons g gs ih =>
        intro i0 hi
        simp only [en_L]
        rw [ih (i0 + 1) (by omega)]
        congr 1
        rcases g with r | b
        · rfl
        · cases b
          · simp only [en_F, gi_sl]
          · simp only [en_F, gl_sl]
            rw [if_neg (by omega)]
    exact key fs (j0 + 1) (by omega)
  | f :: fs, j0, i + 1, h, e => by
    simp only [List.getElem?_cons_succ] at h
    simp only [en_L, List.set_cons_succ]
    rw [en_L_set_l fs (j0 + 1) i h (by omega)]
    congr 1
    rcases f with r | b
    · rfl
    · cases b
      · simp only [en_F, gi_sl]
      · simp only [en_F, gl_sl]
        rw [if_neg (by omega)]
theorem wld_D {M : MW} {ph : Nat → Nat} {ids : Nat → ClassId} {s : StA} {A : Nat → Prop} (h : va_D A (wld M ph ids s)) (s' : StA) : va_D A (wld M ph ids s') := by
  refine ⟨fun i j p q hi hj hpq => ?_, fun k q hq => ?_⟩
  · obtain ⟨h1, rfl⟩ := wld_inv hi
    obtain ⟨h2, rfl⟩ := wld_inv hj
    exact h.1 i j _ _ (wld_get ⟨h1, rfl⟩) (wld_get ⟨h2, rfl⟩) hpq
  · obtain ⟨h1, rfl⟩ := wld_inv hq
    exact h.2 k (ph k, en_E ph ids s k (M.2 k)) (wld_get ⟨h1, rfl⟩)
theorem wld_A {M : MW} {ph : Nat → Nat} {ids : Nat → ClassId} {s s' : StA} {sz q : Nat} (h : va_A (wld M ph ids s) sz q) : va_A (wld M ph ids s') sz q := by
  rcases h with ⟨k, e, h⟩ | h
  · obtain ⟨h1, h2⟩ := wld_inv h
    cases h2
    exact Or.inl ⟨k, _, wld_get ⟨h1, rfl⟩⟩
  · exact Or.inr h
end
section
/-! The walk over a world: contexts, what holds in one, one row an instruction. -/
abbrev XC : Type := (Program × Launch × Env × Room × State × MethodId × Array Value × List Frame × Method × Code × (State → Prop)) × (va_G × (Nat → Nat) × (Nat → ClassId) × (Nat → Prop))
def TYS : List FieldType := [.int, .boolean, .object "UnsaidBallast$Flight", .object "UnsaidBallast$Sheet", .array .int]
def ty_l (ids : Nat → ClassId) : List (ClassId × FieldType) := [(ids 0, .int), (ids 1, .boolean), (ids 2, .object "UnsaidBallast$Flight"), (ids 3, .object "UnsaidBallast$Sheet"), (ids 4, .array .int)]
def TBg : List Cond := lw_tbl.filter goodWord
theorem tb_in {w : Cond} (h : w ∈ lw_tbl) (hg : goodWord w = true) : w ∈ TBg := List.mem_filter.mpr ⟨h, hg⟩
theorem tb_good : GoodIn lw_tbl TBg := fun w h => ⟨(List.mem_filter.mp h).1, good_of_word (List.mem_filter.mp h).2⟩
def TBy (y : MethodName) (cc : ByteArray) (n : Nat) (r : Option FieldType) : List Cond := .code y cc n r :: TBg
theorem tb_y {y y' : MethodName} {cc cc' : ByteArray} {n n' : Nat} {r r' : Option FieldType} (h : Cond.code y' cc' n' r' ∈ TBg) : GoodIn (TBy y cc n r) (TBy y' cc' n' r') := by
  intro w hw
  have hw' : w ∈ TBg := by
    rcases List.mem_cons.mp hw with e | e
    · rw [e]; exact h
    · exact e
  exact ⟨List.mem_cons_of_mem _ hw', good_of_word (List.mem_filter.mp hw').2⟩
/-- what stays of the start that no world holds: links between nest mates, String constants (by their keys 100 on, their rows 200 on) -/
def ne_L : List (String × Nat × MethodName) := [(RX1, 87, yX5_bounded), (RX1, 68, yX5_isIn), (RX2, 28, yX5_isIn), (RX3, 26, yX5_isIn), (RX3, 135, yX5_leastOf), (RX3, 138, yX5_greatestOf), (RX4, 32, yX5_isIn)]
def ex_F (ph : Nat → Nat) (A : Nat → Prop) (U : State) (H : Heap) : Prop :=
  (∀ q ∈ ne_L, va_Nw (.methodLinkNest q.1 q.2.1 q.2.2 RX5) U) ∧ True ∧ (∀ q : Nat, q < 0 → ph q = 0 ∧ A q ∧ H.size = 0)
theorem ex_F.warm {ph : Nat → Nat} {A : Nat → Prop} {s U : State} {H : Heap} (hW : s.WarmedH U.vm) (h : ex_F ph A s H) : ex_F ph A U H := ⟨fun q hq => va_Nw.warmM hW (h.1 q hq), trivial, h.2.2⟩
theorem ex_F.same {ph : Nat → Nat} {A : Nat → Prop} {s U : State} {H : Heap} (hv : s.vm = U.vm) (h : ex_F ph A s H) : ex_F ph A U H := ⟨fun q hq => va_Nw.same rfl hv (h.1 q hq), trivial, h.2.2⟩
theorem ex_F.kept {ph : Nat → Nat} {A B : Nat → Prop} {U : State} {H H1 : Heap} (h : ex_F ph A U H) (_ : ∀ q : Nat, q < H.size → ¬ A q → H1[q]? = H[q]?) (_ : ∀ q, B q → A q) : ex_F ph B U H1 := ⟨h.1, trivial, fun q hq => absurd hq (by omega)⟩
/-- the walk's goal: from any heap that holds the picture, with these locals and this stack, the machine comes to Q -/
def WS (M : MW) (E : XC) (nL pc : Nat) (lv : List (Nat × Value)) (st : List Value) (σ : StA) : Prop :=
  match E with
  | ((p, l, e, R, s, m, args, below, meth, c, Q), (D, ph, ids, A)) => ∀ (H : Heap) (locs : List Loc) (ls : Array Slot), va_P D vwCl (wld M ph ids σ) H → va_S A s.heap H locs → lv_has ls nL lv → W p l e R s m args below meth c H locs 0 0 Q (F0 m pc ls st)
def OK (M : MW) (E : XC) (own : String) (cc : ByteArray) (nL : Nat) (rm : Room) : Prop :=
  match E with
  | ((p, l, e, R, s, m, args, below, meth, c, Q), (D, ph, ids, A)) => p.tables.exec = Jvm.exec ∧ c.code = cc ∧ c.maxLocals = nL ∧ s.vm.findClass own = some m.cls ∧ (∀ w ∈ TBg, w.before args s = true) ∧ va_K D vwCl (ty_l ids) s ∧ (∀ σ, va_D A (wld M ph ids σ)) ∧ (∀ q, s.heap.size ≤ q → A q) ∧ ex_F ph A s s.heap ∧ R = rm
def rf (E : XC) (k : Nat) : Value := .ref (E.2.2.1 k)
def ReI (M : MW) (E : XC) (rt : FieldType) (cc : ByteArray) (σ' : StA) (r : Int32) : Prop :=
  match E with
  | ((p, l, e, R, s, m, args, below, meth, c, Q), (D, ph, ids, A)) => narrow rt (.int r) = .int r → ∀ (H : Heap) (locs : List Loc) (ls : Array Slot) (pc : Nat), decode cc pc = .ok (.ireturn, 1) → va_P D vwCl (wld M ph ids σ') H → va_S A s.heap H locs → W p l e R s m args below meth c H locs 0 0 Q (F0 m pc ls [.int r])
def ReL (M : MW) (E : XC) (cc : ByteArray) (σ' : StA) (r : Int64) : Prop :=
  match E with
  | ((p, l, e, R, s, m, args, below, meth, c, Q), (D, ph, ids, A)) => ∀ (H : Heap) (locs : List Loc) (ls : Array Slot) (pc : Nat), decode cc pc = .ok (.lreturn, 1) → va_P D vwCl (wld M ph ids σ') H → va_S A s.heap H locs → W p l e R s m args below meth c H locs 0 0 Q (F0 m pc ls [.long r])
def ReV (M : MW) (E : XC) (cc : ByteArray) (σ' : StA) : Prop :=
  match E with
  | ((p, l, e, R, s, m, args, below, meth, c, Q), (D, ph, ids, A)) => ∀ (H : Heap) (locs : List Loc) (ls : Array Slot) (pc : Nat), decode cc pc = .ok (.return_, 1) → va_P D vwCl (wld M ph ids σ') H → va_S A s.heap H locs → W p l e R s m args below meth c H locs 0 0 Q (F0 m pc ls [])
def ReR (M : MW) (E : XC) (cc : ByteArray) (σ' : StA) (r : Nat) : Prop :=
  match E with
  | ((p, l, e, R, s, m, args, below, meth, c, Q), (D, ph, ids, A)) => ∀ (H : Heap) (locs : List Loc) (ls : Array Slot) (pc : Nat), decode cc pc = .ok (.areturn, 1) → va_P D vwCl (wld M ph ids σ') H → va_S A s.heap H locs → W p l e R s m args below meth c H locs 0 0 Q (F0 m pc ls [.ref (ph r)])
/-- contracts: from a heap with the picture σ the method y on av comes back, with r, and the picture is σ' -/
def pr_W (M : MW) (D : va_G) (ph : Nat → Nat) (ids : Nat → ClassId) (sz : Nat) (σ : StA) (U : State) : Prop := U.heap.size = sz ∧ va_P D vwCl (wld M ph ids σ) U.heap ∧ va_K D vwCl (ty_l ids) U ∧ va_D (fun _ => True) (wld M ph ids σ) ∧ ex_F ph (va_A (wld M ph ids σ) sz) U U.heap
def CtI (M : MW) (y : MethodName) (cc : ByteArray) (nL : Nat) (rt : FieldType) (rm : Room) (av : (Nat → Nat) → List Value) (σ σ' : StA) (r : Int32) : Prop :=
  ∀ (l : Launch) (D : va_G) (ph : Nat → Nat) (ids : Nat → ClassId) (sz : Nat), Met l y (TBy y cc nL (some rt)) rm (va_Pc (av ph) (pr_W M D ph ids sz σ)) (va_Qi (fun r' (_ : Unit) => r' = r) (fun _ t => va_P D vwCl (wld M ph ids σ') t.heap) (va_A (wld M ph ids σ) sz)) 0 0 (va_A (wld M ph ids σ) sz)
def CtL (M : MW) (y : MethodName) (cc : ByteArray) (nL : Nat) (rm : Room) (av : (Nat → Nat) → List Value) (σ σ' : StA) (r : Int64) : Prop :=
  ∀ (l : Launch) (D : va_G) (ph : Nat → Nat) (ids : Nat → ClassId) (sz : Nat), Met l y (TBy y cc nL (some .long)) rm (va_Pc (av ph) (pr_W M D ph ids sz σ)) (va_Ql (fun r' (_ : Unit) => r' = r) (fun _ t => va_P D vwCl (wld M ph ids σ') t.heap) (va_A (wld M ph ids σ) sz)) 0 0 (va_A (wld M ph ids σ) sz)
def CtV (M : MW) (y : MethodName) (cc : ByteArray) (nL : Nat) (rm : Room) (av : (Nat → Nat) → List Value) (σ σ' : StA) : Prop :=
  ∀ (l : Launch) (D : va_G) (ph : Nat → Nat) (ids : Nat → ClassId) (sz : Nat), Met l y (TBy y cc nL none) rm (va_Pc (av ph) (pr_W M D ph ids sz σ)) (va_Qv (fun (_ : Unit) => True) (fun _ t => va_P D vwCl (wld M ph ids σ') t.heap) (va_A (wld M ph ids σ) sz)) 0 0 (va_A (wld M ph ids σ) sz)
def CtR (M : MW) (y : MethodName) (cc : ByteArray) (nL : Nat) (rt : FieldType) (rm : Room) (av : (Nat → Nat) → List Value) (σ σ' : StA) (r : Nat) : Prop :=
  ∀ (l : Launch) (D : va_G) (ph : Nat → Nat) (ids : Nat → ClassId) (sz : Nat), Met l y (TBy y cc nL (some rt)) rm (va_Pc (av ph) (pr_W M D ph ids sz σ)) (va_Qr (fun (_ : Unit) => True) (fun _ a t => a = ph r ∧ va_P D vwCl (wld M ph ids σ') t.heap) (va_A (wld M ph ids σ) sz)) 0 0 (va_A (wld M ph ids σ) sz)
theorem pr_W.blind {M : MW} {D : va_G} {ph : Nat → Nat} {ids : Nat → ClassId} {sz : Nat} {σ : StA} {av : List Value} : FrameBlind (va_Pc av (pr_W M D ph ids sz σ)) := by
  intro a U g mk q
  obtain ⟨q0, q1, qP, qK, qD, qX⟩ := q
  exact ⟨q0, q1, qP, va_K.moved (u := U) (U := U.calling g mk a) (Vm.Alike.refl U.vm) qK, qD, ex_F.same (s := U) (U := U.calling g mk a) rfl qX⟩
/-- the entry of a method: what every contract begins with -/
theorem ct_in {M : MW} {l : Launch} {y : MethodName} {cc : ByteArray} {nL : Nat} {ro : Option FieldType} {rm : Room} {av : List Value} {D : va_G} {ph : Nat → Nat} {ids : Nat → ClassId} {sz : Nat} {σ : StA} {lv : List (Nat × Value)} {Qc : Array Value → State → Outcome → State → Prop} (hy : plainName y.cls = true) (hlv : lv_args 0 av = lv) (hn : (lg_sl av).length ≤ nL)
    (body : ∀ E : XC, E.2.2.1 = ph → OK M E y.cls cc nL rm → E.2.1 = D → E.2.2.2.1 = ids → E.1.2.2.2.2.2.2.2.2.1.sig.returnType = ro → E.1.2.2.2.2.2.2.2.2.1.locks = false → E.2.2.2.2 = va_A (wld M ph ids σ) sz → E.1.2.2.2.2.2.2.2.2.2.2 = MQ E.1.2.2.2.2.2.2.2.1 Qc E.1.2.2.2.2.2.2.1 E.1.2.2.2.2.1 0 0 (va_A (wld M ph ids σ) sz) → WS M E nL 0 lv [] σ) :
    Met l y (TBy y cc nL ro) rm (va_Pc av (pr_W M D ph ids sz σ)) Qc 0 0 (va_A (wld M ph ids σ) sz) := by
  refine Met.ofW (cc := cc) (maxL := nL) (ret := ro) hy rfl ?_
  intro p e s m args below meth c s₁ B hml hv
  obtain ⟨rfl, hsz, hP, hK, hD0, hX⟩ := hv
  have hts := atoms_spec (ws := TBy y cc nL ro) B.pre
  have hown : s.vm.findClass y.cls = some m.cls := findClass_of_methodNamed B.named
  have hlocks := B.notSynchronized
  subst hsz
  have hD := hD0.self (sz := s.heap.size)
  have hl := lv_entry av (n := nL) hn
  rw [lg_entry_eq]
  generalize (lg_sl av ++ List.replicate (nL - (lg_sl av).length) Slot.unset).toArray = ls at hl ⊢
  rw [hlv] at hl
  have h := body ((p, l, e, rm, s, m, av.toArray, below, meth, c, MQ below Qc av.toArray s 0 0 (va_A (wld M ph ids σ) s.heap.size)), (D, ph, ids, va_A (wld M ph ids σ) s.heap.size)) rfl ⟨B.exec, B.bytes, hml, hown, fun w hw => hts w (List.mem_cons_of_mem _ hw), hK, fun σ' => wld_D hD σ', fun q h => Or.inr h, hX, rfl⟩ rfl rfl B.returns hlocks rfl rfl
  exact h s.heap [] ls hP va_S.rf hl
theorem CtI.of {M : MW} {y : MethodName} {cc : ByteArray} {nL : Nat} {rt : FieldType} {rm : Room} {av : (Nat → Nat) → List Value} {σ σ' : StA} {r : Int32} (hy : plainName y.cls = true) (hn : ∀ ph, (lg_sl (av ph)).length ≤ nL)
    (body : ∀ E : XC, OK M E y.cls cc nL rm → ReI M E rt cc σ' r → WS M E nL 0 (lv_args 0 (av E.2.2.1)) [] σ) : CtI M y cc nL rt rm av σ σ' r := by
  intro l D ph ids sz
  refine ct_in hy rfl (hn ph) (fun E h1 hO h2 h3 hr hlk hA hQ => ?_)
  subst h1
  refine body E hO ?_
  obtain ⟨⟨p, l, e, R, s, m, args, below, meth, c, Q⟩, ⟨D', ph', ids', A⟩⟩ := E
  dsimp only at h2 h3 hr hlk hA hQ hO ⊢
  subst h2 h3 hA hQ
  obtain ⟨hx, hb, -⟩ := hO
  intro hnar H locs ls pc d hP hS
  exact W.zret hx hb hr hnar (fun t ht hW => ⟨⟨r, (), rfl, rfl, by show va_P _ _ _ t.heap; rw [ht]; exact hP⟩, hS.F ht⟩) hS.2.2 d hlk
theorem CtL.of {M : MW} {y : MethodName} {cc : ByteArray} {nL : Nat} {rm : Room} {av : (Nat → Nat) → List Value} {σ σ' : StA} {r : Int64} (hy : plainName y.cls = true) (hn : ∀ ph, (lg_sl (av ph)).length ≤ nL)
    (body : ∀ E : XC, OK M E y.cls cc nL rm → ReL M E cc σ' r → WS M E nL 0 (lv_args 0 (av E.2.2.1)) [] σ) : CtL M y cc nL rm av σ σ' r := by
  intro l D ph ids sz
  refine ct_in hy rfl (hn ph) (fun E h1 hO h2 h3 hr hlk hA hQ => ?_)
  subst h1
  refine body E hO ?_
  obtain ⟨⟨p, l, e, R, s, m, args, below, meth, c, Q⟩, ⟨D', ph', ids', A⟩⟩ := E
  dsimp only at h2 h3 hr hlk hA hQ hO ⊢
  subst h2 h3 hA hQ
  obtain ⟨hx, hb, -⟩ := hO
  intro H locs ls pc d hP hS
  exact W.lret hx hb hr (fun t ht hW => ⟨⟨r, (), rfl, rfl, by show va_P _ _ _ t.heap; rw [ht]; exact hP⟩, hS.F ht⟩) hS.2.2 d hlk
theorem CtV.of {M : MW} {y : MethodName} {cc : ByteArray} {nL : Nat} {rm : Room} {av : (Nat → Nat) → List Value} {σ σ' : StA} (hy : plainName y.cls = true) (hn : ∀ ph, (lg_sl (av ph)).length ≤ nL)
    (body : ∀ E : XC, OK M E y.cls cc nL rm → ReV M E cc σ' → WS M E nL 0 (lv_args 0 (av E.2.2.1)) [] σ) : CtV M y cc nL rm av σ σ' := by
  intro l D ph ids sz
  refine ct_in hy rfl (hn ph) (fun E h1 hO h2 h3 hr hlk hA hQ => ?_)
  subst h1
  refine body E hO ?_
  obtain ⟨⟨p, l, e, R, s, m, args, below, meth, c, Q⟩, ⟨D', ph', ids', A⟩⟩ := E
  dsimp only at h2 h3 hr hlk hA hQ hO ⊢
  subst h2 h3 hA hQ
  obtain ⟨hx, hb, -⟩ := hO
  intro H locs ls pc d hP hS
  exact W.vret hx hb hr (fun t ht hW => ⟨⟨(), rfl, trivial, by show va_P _ _ _ t.heap; rw [ht]; exact hP⟩, hS.F ht⟩) hS.2.2 d hlk
theorem CtR.of {M : MW} {y : MethodName} {cc : ByteArray} {nL : Nat} {rt : FieldType} {rm : Room} {av : (Nat → Nat) → List Value} {σ σ' : StA} {r : Nat} (hrt : (∃ n, rt = .object n) ∨ ∃ t, rt = .array t) (hy : plainName y.cls = true) (hn : ∀ ph, (lg_sl (av ph)).length ≤ nL)
    (body : ∀ E : XC, OK M E y.cls cc nL rm → ReR M E cc σ' r → WS M E nL 0 (lv_args 0 (av E.2.2.1)) [] σ) : CtR M y cc nL rt rm av σ σ' r := by
  intro l D ph ids sz
  refine ct_in hy rfl (hn ph) (fun E h1 hO h2 h3 hr hlk hA hQ => ?_)
  subst h1
  refine body E hO ?_
  obtain ⟨⟨p, l, e, R, s, m, args, below, meth, c, Q⟩, ⟨D', ph', ids', A⟩⟩ := E
  dsimp only at h2 h3 hr hlk hA hQ hO ⊢
  subst h2 h3 hA hQ
  obtain ⟨hx, hb, -⟩ := hO
  intro H locs ls pc d hP hS
  exact W.aret hx hb hr hrt (Or.inr ⟨_, rfl⟩) (fun t ht hW => ⟨⟨(), _, rfl, trivial, rfl, by show va_P _ _ _ t.heap; rw [ht]; exact hP⟩, hS.F ht⟩) hS.2.2 d hlk
end
section
section SR
variable {M : MW} {E : XC} {own : String} {cc : ByteArray} {nL pc : Nat} {rm : Room} {lv : List (Nat × Value)} {st : List Value} {σ : StA}
theorem s_iconst (O : OK M E own cc nL rm) {n : Int} {v : Int32} (d : decode cc pc = .ok (.iconst n, 1)) (hv : Int32.ofInt n = v) (k : WS M E nL (pc + 1) lv (.int v :: st) σ) : WS M E nL pc lv (st) σ := by
  obtain ⟨⟨p, l, e, R, s, m, args, below, meth, c, Q⟩, ⟨D, ph, ids, A⟩⟩ := E
  exact fun H locs ls hP hS hl => lv_iconst O.1 O.2.1 d hv (k H locs ls hP hS hl)
theorem s_bipush (O : OK M E own cc nL rm) {n : Int} {v : Int32} (d : decode cc pc = .ok (.bipush n, 2)) (hv : (Int8.ofInt n).toInt32 = v) (k : WS M E nL (pc + 2) lv (.int v :: st) σ) : WS M E nL pc lv (st) σ := by
  obtain ⟨⟨p, l, e, R, s, m, args, below, meth, c, Q⟩, ⟨D, ph, ids, A⟩⟩ := E
  exact fun H locs ls hP hS hl => lv_bipush O.1 O.2.1 d hv (k H locs ls hP hS hl)
theorem s_sipush (O : OK M E own cc nL rm) {n : Int} {v : Int32} (d : decode cc pc = .ok (.sipush n, 3)) (hv : (Int16.ofInt n).toInt32 = v) (k : WS M E nL (pc + 3) lv (.int v :: st) σ) : WS M E nL pc lv (st) σ := by
  obtain ⟨⟨p, l, e, R, s, m, args, below, meth, c, Q⟩, ⟨D, ph, ids, A⟩⟩ := E
  exact fun H locs ls hP hS hl => lv_sipush O.1 O.2.1 d hv (k H locs ls hP hS hl)
theorem s_lconst (O : OK M E own cc nL rm) {n : Fin 2} {v : Int64} (d : decode cc pc = .ok (.lconst n, 1)) (hv : Int64.ofNat (n : Nat) = v) (k : WS M E nL (pc + 1) lv (.long v :: st) σ) : WS M E nL pc lv (st) σ := by
  obtain ⟨⟨p, l, e, R, s, m, args, below, meth, c, Q⟩, ⟨D, ph, ids, A⟩⟩ := E
  exact fun H locs ls hP hS hl => lv_lconst O.1 O.2.1 d hv (k H locs ls hP hS hl)
theorem s_ldc (O : OK M E own cc nL rm) {i : Nat} {v : Int32} (hw : Cond.constant own i v ∈ TBg) (d : decode cc pc = .ok (.ldc i, 2)) (k : WS M E nL (pc + 2) lv (.int v :: st) σ) : WS M E nL pc lv (st) σ := by
  obtain ⟨⟨p, l, e, R, s, m, args, below, meth, c, Q⟩, ⟨D, ph, ids, A⟩⟩ := E
  exact fun H locs ls hP hS hl => lv_ldc O.1 O.2.1 O.2.2.2.1 (O.2.2.2.2.1 _ hw) d (k H locs ls hP hS hl)
theorem s_ldcw (O : OK M E own cc nL rm) {i : Nat} {v : Int32} (hw : Cond.constant own i v ∈ TBg) (d : decode cc pc = .ok (.ldc_w i, 3)) (k : WS M E nL (pc + 3) lv (.int v :: st) σ) : WS M E nL pc lv (st) σ := by
  obtain ⟨⟨p, l, e, R, s, m, args, below, meth, c, Q⟩, ⟨D, ph, ids, A⟩⟩ := E
  exact fun H locs ls hP hS hl => lv_ldcw O.1 O.2.1 O.2.2.2.1 (O.2.2.2.2.1 _ hw) d (k H locs ls hP hS hl)
theorem s_ldc2 (O : OK M E own cc nL rm) {i : Nat} {v : Int64} (hw : Cond.constantLong own i v ∈ TBg) (d : decode cc pc = .ok (.ldc2_w i, 3)) (k : WS M E nL (pc + 3) lv (.long v :: st) σ) : WS M E nL pc lv (st) σ := by
  obtain ⟨⟨p, l, e, R, s, m, args, below, meth, c, Q⟩, ⟨D, ph, ids, A⟩⟩ := E
  exact fun H locs ls hP hS hl => lv_ldc2 O.1 O.2.1 O.2.2.2.1 (O.2.2.2.2.1 _ hw) d (k H locs ls hP hS hl)
theorem s_iload_n (O : OK M E own cc nL rm) {k9 : Fin 4} {i : Nat} {x : Int32} (q : Nat) (d : decode cc pc = .ok (.iload_n k9, 1)) (hi : (k9 : Nat) = i) (hq : lv[q]? = some (i, .int x)) (k : WS M E nL (pc + 1) lv (.int x :: st) σ) : WS M E nL pc lv (st) σ := by
  obtain ⟨⟨p, l, e, R, s, m, args, below, meth, c, Q⟩, ⟨D, ph, ids, A⟩⟩ := E
  exact fun H locs ls hP hS hl => lv_iload_n O.1 O.2.1 d hi (lv_at hl q hq) (k H locs ls hP hS hl)
theorem s_iload (O : OK M E own cc nL rm) {i : Nat} {x : Int32} (q : Nat) (d : decode cc pc = .ok (.iload i, 2)) (hq : lv[q]? = some (i, .int x)) (k : WS M E nL (pc + 2) lv (.int x :: st) σ) : WS M E nL pc lv (st) σ := by
  obtain ⟨⟨p, l, e, R, s, m, args, below, meth, c, Q⟩, ⟨D, ph, ids, A⟩⟩ := E
  exact fun H locs ls hP hS hl => lv_iload O.1 O.2.1 d (lv_at hl q hq) (k H locs ls hP hS hl)
theorem s_lload_n (O : OK M E own cc nL rm) {k9 : Fin 4} {i : Nat} {x : Int64} (q : Nat) (d : decode cc pc = .ok (.lload_n k9, 1)) (hi : (k9 : Nat) = i) (hq : lv[q]? = some (i, .long x)) (k : WS M E nL (pc + 1) lv (.long x :: st) σ) : WS M E nL pc lv (st) σ := by
  obtain ⟨⟨p, l, e, R, s, m, args, below, meth, c, Q⟩, ⟨D, ph, ids, A⟩⟩ := E
  exact fun H locs ls hP hS hl => lv_lload_n O.1 O.2.1 d hi (lv_at hl q hq) (k H locs ls hP hS hl)
theorem s_lload (O : OK M E own cc nL rm) {i : Nat} {x : Int64} (q : Nat) (d : decode cc pc = .ok (.lload i, 2)) (hq : lv[q]? = some (i, .long x)) (k : WS M E nL (pc + 2) lv (.long x :: st) σ) : WS M E nL pc lv (st) σ := by
  obtain ⟨⟨p, l, e, R, s, m, args, below, meth, c, Q⟩, ⟨D, ph, ids, A⟩⟩ := E
  exact fun H locs ls hP hS hl => lv_lload O.1 O.2.1 d (lv_at hl q hq) (k H locs ls hP hS hl)
theorem s_aload_n (O : OK M E own cc nL rm) {k9 : Fin 4} {i x : Nat} (q : Nat) (d : decode cc pc = .ok (.aload_n k9, 1)) (hi : (k9 : Nat) = i) (hq : lv[q]? = some (i, rf E x)) (k : WS M E nL (pc + 1) lv (rf E x :: st) σ) : WS M E nL pc lv (st) σ := by
  obtain ⟨⟨p, l, e, R, s, m, args, below, meth, c, Q⟩, ⟨D, ph, ids, A⟩⟩ := E
  exact fun H locs ls hP hS hl => lv_aload_n O.1 O.2.1 d hi (lv_at hl q hq) (k H locs ls hP hS hl)
theorem s_aload (O : OK M E own cc nL rm) {i x : Nat} (q : Nat) (d : decode cc pc = .ok (.aload i, 2)) (hq : lv[q]? = some (i, rf E x)) (k : WS M E nL (pc + 2) lv (rf E x :: st) σ) : WS M E nL pc lv (st) σ := by
  obtain ⟨⟨p, l, e, R, s, m, args, below, meth, c, Q⟩, ⟨D, ph, ids, A⟩⟩ := E
  exact fun H locs ls hP hS hl => lv_aload O.1 O.2.1 d (lv_at hl q hq) (k H locs ls hP hS hl)
theorem s_istore_n (O : OK M E own cc nL rm) {k9 : Fin 4} {i : Nat} {x : Int32} {lv' : List (Nat × Value)} (d : decode cc pc = .ok (.istore_n k9, 1)) (hi : (k9 : Nat) = i) (hn : i < nL) (hl' : (i, Value.int x) :: lv.filter (fun q => !(q.1 == i) && !(q.1 + 1 == i && q.2.category == 2)) = lv') (k : WS M E nL (pc + 1) lv' st σ) : WS M E nL pc lv (.int x :: st) σ := by
  obtain ⟨⟨p, l, e, R, s, m, args, below, meth, c, Q⟩, ⟨D, ph, ids, A⟩⟩ := E
  exact fun H locs ls hP hS hl => lv_istore_n O.1 O.2.1 d hi hl hn hl' (fun ls' hl2 => k H locs ls' hP hS hl2)
theorem s_istore (O : OK M E own cc nL rm) {i : Nat} {x : Int32} {lv' : List (Nat × Value)} (d : decode cc pc = .ok (.istore i, 2)) (hn : i < nL) (hl' : (i, Value.int x) :: lv.filter (fun q => !(q.1 == i) && !(q.1 + 1 == i && q.2.category == 2)) = lv') (k : WS M E nL (pc + 2) lv' st σ) : WS M E nL pc lv (.int x :: st) σ := by
  obtain ⟨⟨p, l, e, R, s, m, args, below, meth, c, Q⟩, ⟨D, ph, ids, A⟩⟩ := E
  exact fun H locs ls hP hS hl => lv_istore O.1 O.2.1 d hl hn hl' (fun ls' hl2 => k H locs ls' hP hS hl2)
theorem s_lstore_n (O : OK M E own cc nL rm) {k9 : Fin 4} {i : Nat} {x : Int64} {lv' : List (Nat × Value)} (d : decode cc pc = .ok (.lstore_n k9, 1)) (hi : (k9 : Nat) = i) (hn : i + 1 < nL) (hl' : (i, Value.long x) :: lv.filter (fun q => !(q.1 == i) && (!(q.1 == i + 1) && !(q.1 + 1 == i && q.2.category == 2))) = lv') (k : WS M E nL (pc + 1) lv' st σ) : WS M E nL pc lv (.long x :: st) σ := by
  obtain ⟨⟨p, l, e, R, s, m, args, below, meth, c, Q⟩, ⟨D, ph, ids, A⟩⟩ := E
  exact fun H locs ls hP hS hl => lv_lstore_n O.1 O.2.1 d hi hl hn hl' (fun ls' hl2 => k H locs ls' hP hS hl2)
theorem s_lstore (O : OK M E own cc nL rm) {i : Nat} {x : Int64} {lv' : List (Nat × Value)} (d : decode cc pc = .ok (.lstore i, 2)) (hn : i + 1 < nL) (hl' : (i, Value.long x) :: lv.filter (fun q => !(q.1 == i) && (!(q.1 == i + 1) && !(q.1 + 1 == i && q.2.category == 2))) = lv') (k : WS M E nL (pc + 2) lv' st σ) : WS M E nL pc lv (.long x :: st) σ := by
  obtain ⟨⟨p, l, e, R, s, m, args, below, meth, c, Q⟩, ⟨D, ph, ids, A⟩⟩ := E
  exact fun H locs ls hP hS hl => lv_lstore O.1 O.2.1 d hl hn hl' (fun ls' hl2 => k H locs ls' hP hS hl2)
theorem s_astore_n (O : OK M E own cc nL rm) {k9 : Fin 4} {i x : Nat} {lv' : List (Nat × Value)} (d : decode cc pc = .ok (.astore_n k9, 1)) (hi : (k9 : Nat) = i) (hn : i < nL) (hl' : (i, rf E x) :: lv.filter (fun q => !(q.1 == i) && !(q.1 + 1 == i && q.2.category == 2)) = lv') (k : WS M E nL (pc + 1) lv' st σ) : WS M E nL pc lv (rf E x :: st) σ := by
  obtain ⟨⟨p, l, e, R, s, m, args, below, meth, c, Q⟩, ⟨D, ph, ids, A⟩⟩ := E
  exact fun H locs ls hP hS hl => lv_astore_n O.1 O.2.1 d hi hl hn hl' (fun ls' hl2 => k H locs ls' hP hS hl2)
theorem s_astore (O : OK M E own cc nL rm) {i x : Nat} {lv' : List (Nat × Value)} (d : decode cc pc = .ok (.astore i, 2)) (hn : i < nL) (hl' : (i, rf E x) :: lv.filter (fun q => !(q.1 == i) && !(q.1 + 1 == i && q.2.category == 2)) = lv') (k : WS M E nL (pc + 2) lv' st σ) : WS M E nL pc lv (rf E x :: st) σ := by
  obtain ⟨⟨p, l, e, R, s, m, args, below, meth, c, Q⟩, ⟨D, ph, ids, A⟩⟩ := E
  exact fun H locs ls hP hS hl => lv_astore O.1 O.2.1 d hl hn hl' (fun ls' hl2 => k H locs ls' hP hS hl2)
theorem s_iinc (O : OK M E own cc nL rm) {i : Nat} {n : Int} {x v : Int32} {lv' : List (Nat × Value)} (q : Nat) (d : decode cc pc = .ok (.iinc i n, 3)) (hq : lv[q]? = some (i, .int x)) (hv : x + Int32.ofInt n = v) (hn : i < nL) (hl' : (i, Value.int v) :: lv.filter (fun q => !(q.1 == i) && !(q.1 + 1 == i && q.2.category == 2)) = lv') (k : WS M E nL (pc + 3) lv' st σ) : WS M E nL pc lv st σ := by
  obtain ⟨⟨p, l, e, R, s, m, args, below, meth, c, Q⟩, ⟨D, ph, ids, A⟩⟩ := E
  exact fun H locs ls hP hS hl => lv_iinc O.1 O.2.1 d hl hq hv hn hl' (fun ls' hl2 => k H locs ls' hP hS hl2)
theorem s_iadd (O : OK M E own cc nL rm) {x y : Int32} (d : decode cc pc = .ok (.iadd, 1)) (k : WS M E nL (pc + 1) lv (.int (x + y) :: st) σ) : WS M E nL pc lv (.int y :: .int x :: st) σ := by
  obtain ⟨⟨p, l, e, R, s, m, args, below, meth, c, Q⟩, ⟨D, ph, ids, A⟩⟩ := E
  exact fun H locs ls hP hS hl => lv_iadd O.1 O.2.1 d (k H locs ls hP hS hl)
theorem s_isub (O : OK M E own cc nL rm) {x y : Int32} (d : decode cc pc = .ok (.isub, 1)) (k : WS M E nL (pc + 1) lv (.int (x - y) :: st) σ) : WS M E nL pc lv (.int y :: .int x :: st) σ := by
  obtain ⟨⟨p, l, e, R, s, m, args, below, meth, c, Q⟩, ⟨D, ph, ids, A⟩⟩ := E
  exact fun H locs ls hP hS hl => lv_isub O.1 O.2.1 d (k H locs ls hP hS hl)
theorem s_imul (O : OK M E own cc nL rm) {x y : Int32} (d : decode cc pc = .ok (.imul, 1)) (k : WS M E nL (pc + 1) lv (.int (x * y) :: st) σ) : WS M E nL pc lv (.int y :: .int x :: st) σ := by
  obtain ⟨⟨p, l, e, R, s, m, args, below, meth, c, Q⟩, ⟨D, ph, ids, A⟩⟩ := E
  exact fun H locs ls hP hS hl => lv_imul O.1 O.2.1 d (k H locs ls hP hS hl)
theorem s_iand (O : OK M E own cc nL rm) {x y : Int32} (d : decode cc pc = .ok (.iand, 1)) (k : WS M E nL (pc + 1) lv (.int (x &&& y) :: st) σ) : WS M E nL pc lv (.int y :: .int x :: st) σ := by
  obtain ⟨⟨p, l, e, R, s, m, args, below, meth, c, Q⟩, ⟨D, ph, ids, A⟩⟩ := E
  exact fun H locs ls hP hS hl => lv_iand O.1 O.2.1 d (k H locs ls hP hS hl)
theorem s_ior (O : OK M E own cc nL rm) {x y : Int32} (d : decode cc pc = .ok (.ior, 1)) (k : WS M E nL (pc + 1) lv (.int (x ||| y) :: st) σ) : WS M E nL pc lv (.int y :: .int x :: st) σ := by
  obtain ⟨⟨p, l, e, R, s, m, args, below, meth, c, Q⟩, ⟨D, ph, ids, A⟩⟩ := E
  exact fun H locs ls hP hS hl => lv_ior O.1 O.2.1 d (k H locs ls hP hS hl)
theorem s_ixor (O : OK M E own cc nL rm) {x y : Int32} (d : decode cc pc = .ok (.ixor, 1)) (k : WS M E nL (pc + 1) lv (.int (x ^^^ y) :: st) σ) : WS M E nL pc lv (.int y :: .int x :: st) σ := by
  obtain ⟨⟨p, l, e, R, s, m, args, below, meth, c, Q⟩, ⟨D, ph, ids, A⟩⟩ := E
  exact fun H locs ls hP hS hl => lv_ixor O.1 O.2.1 d (k H locs ls hP hS hl)
theorem s_ishl (O : OK M E own cc nL rm) {x y : Int32} (d : decode cc pc = .ok (.ishl, 1)) (k : WS M E nL (pc + 1) lv (.int (x <<< (y &&& 31)) :: st) σ) : WS M E nL pc lv (.int y :: .int x :: st) σ := by
  obtain ⟨⟨p, l, e, R, s, m, args, below, meth, c, Q⟩, ⟨D, ph, ids, A⟩⟩ := E
  exact fun H locs ls hP hS hl => lv_ishl O.1 O.2.1 d (k H locs ls hP hS hl)
theorem s_ishr (O : OK M E own cc nL rm) {x y : Int32} (d : decode cc pc = .ok (.ishr, 1)) (k : WS M E nL (pc + 1) lv (.int (x >>> (y &&& 31)) :: st) σ) : WS M E nL pc lv (.int y :: .int x :: st) σ := by
  obtain ⟨⟨p, l, e, R, s, m, args, below, meth, c, Q⟩, ⟨D, ph, ids, A⟩⟩ := E
  exact fun H locs ls hP hS hl => lv_ishr O.1 O.2.1 d (k H locs ls hP hS hl)
theorem s_iushr (O : OK M E own cc nL rm) {x y v : Int32} (d : decode cc pc = .ok (.iushr, 1)) (hv : (x.toUInt32 >>> (y.toUInt32 &&& Int32.toUInt32 31)).toInt32 = v) (k : WS M E nL (pc + 1) lv (.int v :: st) σ) : WS M E nL pc lv (.int y :: .int x :: st) σ := by
  obtain ⟨⟨p, l, e, R, s, m, args, below, meth, c, Q⟩, ⟨D, ph, ids, A⟩⟩ := E
  exact fun H locs ls hP hS hl => lv_iushr O.1 O.2.1 d hv (k H locs ls hP hS hl)
theorem s_idiv (O : OK M E own cc nL rm) {x y : Int32} (d : decode cc pc = .ok (.idiv, 1)) (h : ¬ y = 0) (k : WS M E nL (pc + 1) lv (.int (x / y) :: st) σ) : WS M E nL pc lv (.int y :: .int x :: st) σ := by
  obtain ⟨⟨p, l, e, R, s, m, args, below, meth, c, Q⟩, ⟨D, ph, ids, A⟩⟩ := E
  exact fun H locs ls hP hS hl => lv_idiv O.1 O.2.1 d h (k H locs ls hP hS hl)
theorem s_irem (O : OK M E own cc nL rm) {x y : Int32} (d : decode cc pc = .ok (.irem, 1)) (h : ¬ y = 0) (k : WS M E nL (pc + 1) lv (.int (x - x / y * y) :: st) σ) : WS M E nL pc lv (.int y :: .int x :: st) σ := by
  obtain ⟨⟨p, l, e, R, s, m, args, below, meth, c, Q⟩, ⟨D, ph, ids, A⟩⟩ := E
  exact fun H locs ls hP hS hl => lv_irem O.1 O.2.1 d h (k H locs ls hP hS hl)
theorem s_ineg (O : OK M E own cc nL rm) {x : Int32} (d : decode cc pc = .ok (.ineg, 1)) (k : WS M E nL (pc + 1) lv (.int (-x) :: st) σ) : WS M E nL pc lv (.int x :: st) σ := by
  obtain ⟨⟨p, l, e, R, s, m, args, below, meth, c, Q⟩, ⟨D, ph, ids, A⟩⟩ := E
  exact fun H locs ls hP hS hl => lv_ineg O.1 O.2.1 d (k H locs ls hP hS hl)
theorem s_ladd (O : OK M E own cc nL rm) {x y : Int64} (d : decode cc pc = .ok (.ladd, 1)) (k : WS M E nL (pc + 1) lv (.long (x + y) :: st) σ) : WS M E nL pc lv (.long y :: .long x :: st) σ := by
  obtain ⟨⟨p, l, e, R, s, m, args, below, meth, c, Q⟩, ⟨D, ph, ids, A⟩⟩ := E
  exact fun H locs ls hP hS hl => lv_ladd O.1 O.2.1 d (k H locs ls hP hS hl)
theorem s_lsub (O : OK M E own cc nL rm) {x y : Int64} (d : decode cc pc = .ok (.lsub, 1)) (k : WS M E nL (pc + 1) lv (.long (x - y) :: st) σ) : WS M E nL pc lv (.long y :: .long x :: st) σ := by
  obtain ⟨⟨p, l, e, R, s, m, args, below, meth, c, Q⟩, ⟨D, ph, ids, A⟩⟩ := E
  exact fun H locs ls hP hS hl => lv_lsub O.1 O.2.1 d (k H locs ls hP hS hl)
theorem s_lmul (O : OK M E own cc nL rm) {x y : Int64} (d : decode cc pc = .ok (.lmul, 1)) (k : WS M E nL (pc + 1) lv (.long (x * y) :: st) σ) : WS M E nL pc lv (.long y :: .long x :: st) σ := by
  obtain ⟨⟨p, l, e, R, s, m, args, below, meth, c, Q⟩, ⟨D, ph, ids, A⟩⟩ := E
  exact fun H locs ls hP hS hl => lv_lmul O.1 O.2.1 d (k H locs ls hP hS hl)
theorem s_ldiv (O : OK M E own cc nL rm) {x y : Int64} (d : decode cc pc = .ok (.ldiv, 1)) (h : ¬ y = 0) (k : WS M E nL (pc + 1) lv (.long (x / y) :: st) σ) : WS M E nL pc lv (.long y :: .long x :: st) σ := by
  obtain ⟨⟨p, l, e, R, s, m, args, below, meth, c, Q⟩, ⟨D, ph, ids, A⟩⟩ := E
  exact fun H locs ls hP hS hl => lv_ldiv O.1 O.2.1 d h (k H locs ls hP hS hl)
theorem s_lrem (O : OK M E own cc nL rm) {x y : Int64} (d : decode cc pc = .ok (.lrem, 1)) (h : ¬ y = 0) (k : WS M E nL (pc + 1) lv (.long (x - x / y * y) :: st) σ) : WS M E nL pc lv (.long y :: .long x :: st) σ := by
  obtain ⟨⟨p, l, e, R, s, m, args, below, meth, c, Q⟩, ⟨D, ph, ids, A⟩⟩ := E
  exact fun H locs ls hP hS hl => lv_lrem O.1 O.2.1 d h (k H locs ls hP hS hl)
theorem s_lcmp (O : OK M E own cc nL rm) {x y : Int64} (d : decode cc pc = .ok (.lcmp, 1)) (k : WS M E nL (pc + 1) lv (.int (lg_cmp x y) :: st) σ) : WS M E nL pc lv (.long y :: .long x :: st) σ := by
  obtain ⟨⟨p, l, e, R, s, m, args, below, meth, c, Q⟩, ⟨D, ph, ids, A⟩⟩ := E
  exact fun H locs ls hP hS hl => W.lcmp O.1 O.2.1 d (k H locs ls hP hS hl)
theorem s_i2l (O : OK M E own cc nL rm) {x : Int32} (d : decode cc pc = .ok (.i2l, 1)) (k : WS M E nL (pc + 1) lv (.long x.toInt64 :: st) σ) : WS M E nL pc lv (.int x :: st) σ := by
  obtain ⟨⟨p, l, e, R, s, m, args, below, meth, c, Q⟩, ⟨D, ph, ids, A⟩⟩ := E
  exact fun H locs ls hP hS hl => lv_i2l O.1 O.2.1 d rfl (k H locs ls hP hS hl)
theorem s_i2b (O : OK M E own cc nL rm) {x : Int32} (d : decode cc pc = .ok (.i2b, 1)) (k : WS M E nL (pc + 1) lv (.int x.toInt8.toInt32 :: st) σ) : WS M E nL pc lv (.int x :: st) σ := by
  obtain ⟨⟨p, l, e, R, s, m, args, below, meth, c, Q⟩, ⟨D, ph, ids, A⟩⟩ := E
  exact fun H locs ls hP hS hl => lv_i2b O.1 O.2.1 d rfl (k H locs ls hP hS hl)
theorem s_i2s (O : OK M E own cc nL rm) {x : Int32} (d : decode cc pc = .ok (.i2s, 1)) (k : WS M E nL (pc + 1) lv (.int x.toInt16.toInt32 :: st) σ) : WS M E nL pc lv (.int x :: st) σ := by
  obtain ⟨⟨p, l, e, R, s, m, args, below, meth, c, Q⟩, ⟨D, ph, ids, A⟩⟩ := E
  exact fun H locs ls hP hS hl => lv_i2s O.1 O.2.1 d rfl (k H locs ls hP hS hl)
theorem s_dup (O : OK M E own cc nL rm) {va : Value} (d : decode cc pc = .ok (.dup, 1)) (h : va.category = 1) (k : WS M E nL (pc + 1) lv (va :: va :: st) σ) : WS M E nL pc lv (va :: st) σ := by
  obtain ⟨⟨p, l, e, R, s, m, args, below, meth, c, Q⟩, ⟨D, ph, ids, A⟩⟩ := E
  exact fun H locs ls hP hS hl => lv_dup O.1 O.2.1 d h (k H locs ls hP hS hl)
theorem s_dup2 (O : OK M E own cc nL rm) {va vb : Value} (d : decode cc pc = .ok (.dup2, 1)) (h : va.category = 1) (h2 : vb.category = 1) (k : WS M E nL (pc + 1) lv (va :: vb :: va :: vb :: st) σ) : WS M E nL pc lv (va :: vb :: st) σ := by
  obtain ⟨⟨p, l, e, R, s, m, args, below, meth, c, Q⟩, ⟨D, ph, ids, A⟩⟩ := E
  exact fun H locs ls hP hS hl => lv_dup2_11 O.1 O.2.1 d h h2 (k H locs ls hP hS hl)
theorem s_pop (O : OK M E own cc nL rm) {va : Value} (d : decode cc pc = .ok (.pop, 1)) (h : va.category = 1) (k : WS M E nL (pc + 1) lv (st) σ) : WS M E nL pc lv (va :: st) σ := by
  obtain ⟨⟨p, l, e, R, s, m, args, below, meth, c, Q⟩, ⟨D, ph, ids, A⟩⟩ := E
  exact fun H locs ls hP hS hl => lv_pop O.1 O.2.1 d h (k H locs ls hP hS hl)
theorem s_goto (O : OK M E own cc nL rm) {off : Int} {tgt : Nat} (d : decode cc pc = .ok (.goto off, 3)) (ht : (pc : Int) + off = (tgt : Int)) (k : WS M E nL tgt lv (st) σ) : WS M E nL pc lv (st) σ := by
  obtain ⟨⟨p, l, e, R, s, m, args, below, meth, c, Q⟩, ⟨D, ph, ids, A⟩⟩ := E
  exact fun H locs ls hP hS hl => lv_goto O.1 O.2.1 d ht (k H locs ls hP hS hl)
theorem s_if_eq (O : OK M E own cc nL rm) {x : Int32} {off : Int} {tgt : Nat} (d : decode cc pc = .ok (.ifCond .eq off, 3)) (ht : (pc : Int) + off = (tgt : Int)) (kt : x = 0 → WS M E nL tgt lv st σ) (kf : ¬ x = 0 → WS M E nL (pc + 3) lv st σ) : WS M E nL pc lv (.int x :: st) σ := by
  obtain ⟨⟨p, l, e, R, s, m, args, below, meth, c, Q⟩, ⟨D, ph, ids, A⟩⟩ := E
  exact fun H locs ls hP hS hl => lv_if_eq O.1 O.2.1 d ht (fun h => kt h H locs ls hP hS hl) (fun h => kf h H locs ls hP hS hl)
theorem s_if_ne (O : OK M E own cc nL rm) {x : Int32} {off : Int} {tgt : Nat} (d : decode cc pc = .ok (.ifCond .ne off, 3)) (ht : (pc : Int) + off = (tgt : Int)) (kt : ¬ x = 0 → WS M E nL tgt lv st σ) (kf : x = 0 → WS M E nL (pc + 3) lv st σ) : WS M E nL pc lv (.int x :: st) σ := by
  obtain ⟨⟨p, l, e, R, s, m, args, below, meth, c, Q⟩, ⟨D, ph, ids, A⟩⟩ := E
  exact fun H locs ls hP hS hl => lv_if_ne O.1 O.2.1 d ht (fun h => kt h H locs ls hP hS hl) (fun h => kf h H locs ls hP hS hl)
theorem s_if_lt (O : OK M E own cc nL rm) {x : Int32} {off : Int} {tgt : Nat} (d : decode cc pc = .ok (.ifCond .lt off, 3)) (ht : (pc : Int) + off = (tgt : Int)) (kt : x < 0 → WS M E nL tgt lv st σ) (kf : ¬ x < 0 → WS M E nL (pc + 3) lv st σ) : WS M E nL pc lv (.int x :: st) σ := by
  obtain ⟨⟨p, l, e, R, s, m, args, below, meth, c, Q⟩, ⟨D, ph, ids, A⟩⟩ := E
  exact fun H locs ls hP hS hl => lv_if_lt O.1 O.2.1 d ht (fun h => kt h H locs ls hP hS hl) (fun h => kf h H locs ls hP hS hl)
theorem s_if_ge (O : OK M E own cc nL rm) {x : Int32} {off : Int} {tgt : Nat} (d : decode cc pc = .ok (.ifCond .ge off, 3)) (ht : (pc : Int) + off = (tgt : Int)) (kt : 0 ≤ x → WS M E nL tgt lv st σ) (kf : ¬ 0 ≤ x → WS M E nL (pc + 3) lv st σ) : WS M E nL pc lv (.int x :: st) σ := by
  obtain ⟨⟨p, l, e, R, s, m, args, below, meth, c, Q⟩, ⟨D, ph, ids, A⟩⟩ := E
  exact fun H locs ls hP hS hl => lv_if_ge O.1 O.2.1 d ht (fun h => kt h H locs ls hP hS hl) (fun h => kf h H locs ls hP hS hl)
theorem s_if_gt (O : OK M E own cc nL rm) {x : Int32} {off : Int} {tgt : Nat} (d : decode cc pc = .ok (.ifCond .gt off, 3)) (ht : (pc : Int) + off = (tgt : Int)) (kt : 0 < x → WS M E nL tgt lv st σ) (kf : ¬ 0 < x → WS M E nL (pc + 3) lv st σ) : WS M E nL pc lv (.int x :: st) σ := by
  obtain ⟨⟨p, l, e, R, s, m, args, below, meth, c, Q⟩, ⟨D, ph, ids, A⟩⟩ := E
  exact fun H locs ls hP hS hl => lv_if_gt O.1 O.2.1 d ht (fun h => kt h H locs ls hP hS hl) (fun h => kf h H locs ls hP hS hl)
theorem s_if_le (O : OK M E own cc nL rm) {x : Int32} {off : Int} {tgt : Nat} (d : decode cc pc = .ok (.ifCond .le off, 3)) (ht : (pc : Int) + off = (tgt : Int)) (kt : x ≤ 0 → WS M E nL tgt lv st σ) (kf : ¬ x ≤ 0 → WS M E nL (pc + 3) lv st σ) : WS M E nL pc lv (.int x :: st) σ := by
  obtain ⟨⟨p, l, e, R, s, m, args, below, meth, c, Q⟩, ⟨D, ph, ids, A⟩⟩ := E
  exact fun H locs ls hP hS hl => lv_if_le O.1 O.2.1 d ht (fun h => kt h H locs ls hP hS hl) (fun h => kf h H locs ls hP hS hl)
theorem s_icmp_eq (O : OK M E own cc nL rm) {x y : Int32} {off : Int} {tgt : Nat} (d : decode cc pc = .ok (.if_icmp .eq off, 3)) (ht : (pc : Int) + off = (tgt : Int)) (kt : x = y → WS M E nL tgt lv st σ) (kf : ¬ x = y → WS M E nL (pc + 3) lv st σ) : WS M E nL pc lv (.int y :: .int x :: st) σ := by
  obtain ⟨⟨p, l, e, R, s, m, args, below, meth, c, Q⟩, ⟨D, ph, ids, A⟩⟩ := E
  exact fun H locs ls hP hS hl => lv_icmp_eq O.1 O.2.1 d ht (fun h => kt h H locs ls hP hS hl) (fun h => kf h H locs ls hP hS hl)
theorem s_icmp_ne (O : OK M E own cc nL rm) {x y : Int32} {off : Int} {tgt : Nat} (d : decode cc pc = .ok (.if_icmp .ne off, 3)) (ht : (pc : Int) + off = (tgt : Int)) (kt : ¬ x = y → WS M E nL tgt lv st σ) (kf : x = y → WS M E nL (pc + 3) lv st σ) : WS M E nL pc lv (.int y :: .int x :: st) σ := by
  obtain ⟨⟨p, l, e, R, s, m, args, below, meth, c, Q⟩, ⟨D, ph, ids, A⟩⟩ := E
  exact fun H locs ls hP hS hl => lv_icmp_ne O.1 O.2.1 d ht (fun h => kt h H locs ls hP hS hl) (fun h => kf h H locs ls hP hS hl)
theorem s_icmp_lt (O : OK M E own cc nL rm) {x y : Int32} {off : Int} {tgt : Nat} (d : decode cc pc = .ok (.if_icmp .lt off, 3)) (ht : (pc : Int) + off = (tgt : Int)) (kt : x < y → WS M E nL tgt lv st σ) (kf : ¬ x < y → WS M E nL (pc + 3) lv st σ) : WS M E nL pc lv (.int y :: .int x :: st) σ := by
  obtain ⟨⟨p, l, e, R, s, m, args, below, meth, c, Q⟩, ⟨D, ph, ids, A⟩⟩ := E
  exact fun H locs ls hP hS hl => lv_icmp_lt O.1 O.2.1 d ht (fun h => kt h H locs ls hP hS hl) (fun h => kf h H locs ls hP hS hl)
theorem s_icmp_ge (O : OK M E own cc nL rm) {x y : Int32} {off : Int} {tgt : Nat} (d : decode cc pc = .ok (.if_icmp .ge off, 3)) (ht : (pc : Int) + off = (tgt : Int)) (kt : y ≤ x → WS M E nL tgt lv st σ) (kf : ¬ y ≤ x → WS M E nL (pc + 3) lv st σ) : WS M E nL pc lv (.int y :: .int x :: st) σ := by
  obtain ⟨⟨p, l, e, R, s, m, args, below, meth, c, Q⟩, ⟨D, ph, ids, A⟩⟩ := E
  exact fun H locs ls hP hS hl => lv_icmp_ge O.1 O.2.1 d ht (fun h => kt h H locs ls hP hS hl) (fun h => kf h H locs ls hP hS hl)
theorem s_icmp_gt (O : OK M E own cc nL rm) {x y : Int32} {off : Int} {tgt : Nat} (d : decode cc pc = .ok (.if_icmp .gt off, 3)) (ht : (pc : Int) + off = (tgt : Int)) (kt : y < x → WS M E nL tgt lv st σ) (kf : ¬ y < x → WS M E nL (pc + 3) lv st σ) : WS M E nL pc lv (.int y :: .int x :: st) σ := by
  obtain ⟨⟨p, l, e, R, s, m, args, below, meth, c, Q⟩, ⟨D, ph, ids, A⟩⟩ := E
  exact fun H locs ls hP hS hl => lv_icmp_gt O.1 O.2.1 d ht (fun h => kt h H locs ls hP hS hl) (fun h => kf h H locs ls hP hS hl)
theorem s_icmp_le (O : OK M E own cc nL rm) {x y : Int32} {off : Int} {tgt : Nat} (d : decode cc pc = .ok (.if_icmp .le off, 3)) (ht : (pc : Int) + off = (tgt : Int)) (kt : x ≤ y → WS M E nL tgt lv st σ) (kf : ¬ x ≤ y → WS M E nL (pc + 3) lv st σ) : WS M E nL pc lv (.int y :: .int x :: st) σ := by
  obtain ⟨⟨p, l, e, R, s, m, args, below, meth, c, Q⟩, ⟨D, ph, ids, A⟩⟩ := E
  exact fun H locs ls hP hS hl => lv_icmp_le O.1 O.2.1 d ht (fun h => kt h H locs ls hP hS hl) (fun h => kf h H locs ls hP hS hl)
theorem s_tabO (O : OK M E own cc nL rm) {dflt lo hi : Int} {offs : Array Int} {len : Nat} {x : Int32} {tgt : Nat} (d : decode cc pc = .ok (.tableswitch dflt lo hi offs, len)) (h : x.toInt < lo ∨ hi < x.toInt) (ht : (pc : Int) + dflt = (tgt : Int)) (k : WS M E nL tgt lv st σ) : WS M E nL pc lv (.int x :: st) σ := by
  obtain ⟨⟨p, l, e, R, s, m, args, below, meth, c, Q⟩, ⟨D, ph, ids, A⟩⟩ := E
  exact fun H locs ls hP hS hl => lv_tableOut O.1 O.2.1 d h ht (k H locs ls hP hS hl)
theorem s_tabI (O : OK M E own cc nL rm) {dflt lo hi : Int} {offs : Array Int} {len : Nat} {x : Int32} {off : Int} {tgt : Nat} (d : decode cc pc = .ok (.tableswitch dflt lo hi offs, len)) (h1 : ¬ x.toInt < lo) (h2 : ¬ hi < x.toInt) (ho : offs[(x.toInt - lo).toNat]? = some off) (ht : (pc : Int) + off = (tgt : Int)) (k : WS M E nL tgt lv st σ) : WS M E nL pc lv (.int x :: st) σ := by
  obtain ⟨⟨p, l, e, R, s, m, args, below, meth, c, Q⟩, ⟨D, ph, ids, A⟩⟩ := E
  exact fun H locs ls hP hS hl => lv_tableIn O.1 O.2.1 d h1 h2 ho ht (k H locs ls hP hS hl)
theorem s_look (O : OK M E own cc nL rm) {dflt : Int} {ps : Array (Int × Int)} {len : Nat} {x : Int32} {off : Int} {tgt : Nat} (d : decode cc pc = .ok (.lookupswitch dflt ps, len)) (hp : (ps.toList.zip (ps.toList.drop 1)).all (fun (a, next) => a.1 < next.1) = true) (ho : Op.lookupswitch.offset ps.toList dflt x.toInt = off) (ht : (pc : Int) + off = (tgt : Int)) (k : WS M E nL tgt lv st σ) : WS M E nL pc lv (.int x :: st) σ := by
  obtain ⟨⟨p, l, e, R, s, m, args, below, meth, c, Q⟩, ⟨D, ph, ids, A⟩⟩ := E
  exact fun H locs ls hP hS hl => lv_lookup O.1 O.2.1 d hp ho ht (k H locs ls hP hS hl)
theorem s_loc {lv' : List (Nat × Value)} (ks : List Nat) (h : lv_pick lv ks = lv') (k : WS M E nL pc lv' st σ) : WS M E nL pc lv st σ := by
  obtain ⟨⟨p, l, e, R, s, m, args, below, meth, c, Q⟩, ⟨D, ph, ids, A⟩⟩ := E
  exact fun H locs ls hP hS hl => k H locs ls hP hS (lv_sub hl ks h)
theorem s_topi {x : Int32} (k : ∀ y : Int32, y = x → WS M E nL pc lv (.int y :: st) σ) : WS M E nL pc lv (.int x :: st) σ := k x rfl
theorem s_topl {x : Int64} (k : ∀ y : Int64, y = x → WS M E nL pc lv (.long y :: st) σ) : WS M E nL pc lv (.long x :: st) σ := k x rfl
theorem s_iret {rt : FieldType} {σ' : StA} {r x : Int32} (hr : ReI M E rt cc σ' r) (hn : narrow rt (.int x) = .int x) (d : decode cc pc = .ok (.ireturn, 1)) (h : some (σ, x) = some (σ', r)) : WS M E nL pc lv [.int x] σ := by
  cases h
  obtain ⟨⟨p, l, e, R, s, m, args, below, meth, c, Q⟩, ⟨D, ph, ids, A⟩⟩ := E
  exact fun H locs ls hP hS hl => hr hn H locs ls pc d hP hS
theorem s_lret {σ' : StA} {r x : Int64} (hr : ReL M E cc σ' r) (d : decode cc pc = .ok (.lreturn, 1)) (h : some (σ, x) = some (σ', r)) : WS M E nL pc lv [.long x] σ := by
  cases h
  obtain ⟨⟨p, l, e, R, s, m, args, below, meth, c, Q⟩, ⟨D, ph, ids, A⟩⟩ := E
  exact fun H locs ls hP hS hl => hr H locs ls pc d hP hS
theorem s_vret {σ' : StA} (hr : ReV M E cc σ') (d : decode cc pc = .ok (.return_, 1)) {u : Unit} (h : some (σ, ()) = some (σ', u)) : WS M E nL pc lv [] σ := by
  cases h
  obtain ⟨⟨p, l, e, R, s, m, args, below, meth, c, Q⟩, ⟨D, ph, ids, A⟩⟩ := E
  exact fun H locs ls hP hS hl => hr H locs ls pc d hP hS
theorem s_aret {σ' : StA} {r x : Nat} (hr : ReR M E cc σ' r) (d : decode cc pc = .ok (.areturn, 1)) (h : some (σ, x) = some (σ', r)) : WS M E nL pc lv [rf E x] σ := by
  cases h
  obtain ⟨⟨p, l, e, R, s, m, args, below, meth, c, Q⟩, ⟨D, ph, ids, A⟩⟩ := E
  exact fun H locs ls hP hS hl => hr H locs ls pc d hP hS
end SR
end
section
def FgX (own : String) (index ci j : Nat) : Prop := ∃ (C : String) (T : u_T) (N : Nat), vwCl[ci]? = some (C, T, N) ∧ (∀ w ∈ u_ws C T N, w ∈ TBg) ∧ j < N ∧ Cond.fieldLink own index (T j).1 (T j).2.1 (T j).2.2.1 ∈ TBg
def FpX (own : String) (index ci j : Nat) (ty : FieldType) : Prop := ∃ (C : String) (T : u_T) (N : Nat) (ty0 : Nat → FieldType), vwCl[ci]? = some (C, T, N) ∧ (∀ w ∈ u_ws C T N, w ∈ TBg) ∧ j < N ∧ Cond.fieldLink own index (T j).1 (T j).2.1 (T j).2.2.1 ∈ TBg ∧ (∀ k, k < N → parseFieldDescriptor (T k).2.2.1 = some (ty0 k)) ∧ (∀ a, a < N → ∀ b, b < N → a ≠ b → (T a).2.1 ≠ (T b).2.1) ∧ (T j).2.2.2 = false ∧ parseFieldDescriptor (T j).2.2.1 = some ty
def LkV (own : String) (index : Nat) (y : MethodName) (cc : ByteArray) (nL : Nat) (ro : Option FieldType) (n : Nat) : Prop := Cond.code y cc nL ro ∈ TBg ∧ Cond.methodLink own index y ∈ TBg ∧ Cond.instanceMethod y ∈ TBg ∧ Cond.selects y.cls y y ∈ TBg ∧ Cond.initialized y.cls ∈ TBg ∧ y.cls ≠ "java/lang/invoke/MethodHandle" ∧ y.cls ≠ "java/lang/invoke/VarHandle" ∧ (parseMethodDescriptor y.desc).map (fun d => d.parameters.length) = some n
def LkS (own : String) (index : Nat) (y : MethodName) (cc : ByteArray) (nL : Nat) (ro : Option FieldType) (n : Nat) : Prop := Cond.code y cc nL ro ∈ TBg ∧ Cond.methodLink own index y ∈ TBg ∧ Cond.static y ∈ TBg ∧ Cond.initialized y.cls ∈ TBg ∧ y.cls ≠ "java/lang/invoke/MethodHandle" ∧ y.cls ≠ "java/lang/invoke/VarHandle" ∧ (parseMethodDescriptor y.desc).map (fun d => d.parameters.length) = some n
def LkN (own : String) (index : Nat) (y : MethodName) (cc : ByteArray) (nL : Nat) (ro : Option FieldType) (n : Nat) : Prop := Cond.code y cc nL ro ∈ TBg ∧ (own, index, y) ∈ ne_L ∧ Cond.static y ∈ TBg ∧ Cond.initialized y.cls ∈ TBg ∧ y.cls ≠ "java/lang/invoke/MethodHandle" ∧ y.cls ≠ "java/lang/invoke/VarHandle" ∧ (parseMethodDescriptor y.desc).map (fun d => d.parameters.length) = some n
/-- 0 or 1 -/
def is_b (x : Int32) : Prop := x = 0 ∨ x = 1
theorem is_b.nar {x : Int32} (h : is_b x) : narrow .boolean (.int x) = .int x := by
  rcases h with rfl | rfl <;> rfl
theorem is_b.fit {x : Int32} (h : is_b x) : fits .boolean (.int x) = true := by
  rcases h with rfl | rfl <;> rfl
theorem is_b.vpn {x : Int32} (h : is_b x) : vp_nar .boolean x = x := by
  rcases h with rfl | rfl <;> rfl
/-- the caller's cells hold the callee's -/
theorem ca_A {M : MW} {ph : Nat → Nat} {ids : Nat → ClassId} {σ : StA} {A : Nat → Prop} {H0 H : Heap} {locs : List Loc} (hD : va_D A (wld M ph ids σ)) (hA : ∀ q, H0.size ≤ q → A q) (hS : va_S A H0 H locs) : ∀ q, va_A (wld M ph ids σ) H.size q → A q := by
  intro q h
  rcases h with ⟨k, e, h⟩ | h
  · exact hD.2 k (q, e) h
  · exact hA q (Nat.le_trans hS.1 h)
section SH
variable {M : MW} {E : XC} {own : String} {cc : ByteArray} {nL pc : Nat} {rm : Room} {lv : List (Nat × Value)} {st : List Value} {σ : StA}
theorem s_getI (O : OK M E own cc nL rm) {k j ci index : Nat} {fs : List (Nat ⊕ Bool)} (F : FgX own index ci j) (hs : k < M.1 ∧ M.2 k = .inl (ci, fs)) (hf : fs[j]? = some (.inr false)) (d : decode cc pc = .ok (.getfield index, 3)) (kk : WS M E nL (pc + 3) lv (.int (gi σ k j) :: st) σ) : WS M E nL pc lv (rf E k :: st) σ := by
  obtain ⟨⟨p, l, e, R, s, m, args, below, meth, c, Q⟩, ⟨D, ph, ids, A⟩⟩ := E
  obtain ⟨C, T, N, h1, h2, h3, h4⟩ := F
  intro H locs ls hP hS hl
  refine va_get (C := C) (T := T) (N := N) O.1 O.2.1 O.2.2.2.2.1 h2 O.2.2.2.1 O.2.2.2.2.2.1 hP k (wld_get hs) h1 j h3 (O.2.2.2.2.1 _ h4) (fun _ h9 => h9) ?_ d (kk H locs ls hP hS hl)
  rw [en_L_get, hf, Nat.zero_add]
  rfl
theorem s_getL (O : OK M E own cc nL rm) {k j ci index : Nat} {fs : List (Nat ⊕ Bool)} (F : FgX own index ci j) (hs : k < M.1 ∧ M.2 k = .inl (ci, fs)) (hf : fs[j]? = some (.inr true)) (d : decode cc pc = .ok (.getfield index, 3)) (kk : WS M E nL (pc + 3) lv (.long (gl σ k j) :: st) σ) : WS M E nL pc lv (rf E k :: st) σ := by
  obtain ⟨⟨p, l, e, R, s, m, args, below, meth, c, Q⟩, ⟨D, ph, ids, A⟩⟩ := E
  obtain ⟨C, T, N, h1, h2, h3, h4⟩ := F
  intro H locs ls hP hS hl
  refine va_get (C := C) (T := T) (N := N) O.1 O.2.1 O.2.2.2.2.1 h2 O.2.2.2.1 O.2.2.2.2.2.1 hP k (wld_get hs) h1 j h3 (O.2.2.2.2.1 _ h4) (fun _ h9 => h9) ?_ d (kk H locs ls hP hS hl)
  rw [en_L_get, hf, Nat.zero_add]
  rfl
theorem s_getR (O : OK M E own cc nL rm) {k j ci index : Nat} {r : Nat} {fs : List (Nat ⊕ Bool)} (F : FgX own index ci j) (hs : k < M.1 ∧ M.2 k = .inl (ci, fs)) (hf : fs[j]? = some (.inl r)) (d : decode cc pc = .ok (.getfield index, 3)) (kk : WS M E nL (pc + 3) lv (rf E r :: st) σ) : WS M E nL pc lv (rf E k :: st) σ := by
  obtain ⟨⟨p, l, e, R, s, m, args, below, meth, c, Q⟩, ⟨D, ph, ids, A⟩⟩ := E
  obtain ⟨C, T, N, h1, h2, h3, h4⟩ := F
  intro H locs ls hP hS hl
  refine va_get (C := C) (T := T) (N := N) O.1 O.2.1 O.2.2.2.2.1 h2 O.2.2.2.1 O.2.2.2.2.2.1 hP k (wld_get hs) h1 j h3 (O.2.2.2.2.1 _ h4) (fun _ h9 => h9) ?_ d (kk H locs ls hP hS hl)
  rw [en_L_get, hf, Nat.zero_add]
  rfl
theorem s_putI (O : OK M E own cc nL rm) {k j ci index : Nat} {v : Int32} {fs : List (Nat ⊕ Bool)} (F : FpX own index ci j .int) (hs : k < M.1 ∧ M.2 k = .inl (ci, fs)) (hf : fs[j]? = some (.inr false)) (d : decode cc pc = .ok (.putfield index, 3)) (kk : WS M E nL (pc + 3) lv st (si σ k j v)) : WS M E nL pc lv (.int v :: rf E k :: st) σ := by
  obtain ⟨⟨p, l, e, R, s, m, args, below, meth, c, Q⟩, ⟨D, ph, ids, A⟩⟩ := E
  obtain ⟨C, T, N, ty0, h1, h2, h3, h4, h5, h6, h7, h8⟩ := F
  have hln : j < (en_L ph σ k 0 fs).length := by rw [en_L_len]; exact (List.getElem?_eq_some_iff.mp hf).1
  intro H locs ls hP hS hl
  refine va_put (C := C) (T := T) (N := N) (v := .int v) (ty := .int) O.1 O.2.1 O.2.2.2.2.1 h2 ty0 h5 h6 O.2.2.2.1 O.2.2.2.2.2.1 hP (O.2.2.2.2.2.2.1 σ) hS k (wld_get hs) h1 j h3 (O.2.2.2.2.1 _ h4) (fun _ h9 => h9) h7 h8 rfl rfl hln d (fun H1 locs1 hP1 hD1 hS1 => kk H1 locs1 ls ?_ hS1 hl)
  rw [wld_set (s' := si σ k j v) hs.1 (by rw [hs.2]; simp only [en_E]; rw [en_L_set_i fs 0 j hf (by omega)]) (fun a ha b => by first | (simp only [gi_si]; rw [if_neg (by omega)]) | rfl) (fun a ha b => by first | (simp only [gl_sl]; rw [if_neg (by omega)]) | rfl)] at hP1
  exact hP1
theorem s_putZ (O : OK M E own cc nL rm) {k j ci index : Nat} {v : Int32} {fs : List (Nat ⊕ Bool)} (F : FpX own index ci j .boolean) (hb : is_b v) (hs : k < M.1 ∧ M.2 k = .inl (ci, fs)) (hf : fs[j]? = some (.inr false)) (d : decode cc pc = .ok (.putfield index, 3)) (kk : WS M E nL (pc + 3) lv st (si σ k j v)) : WS M E nL pc lv (.int v :: rf E k :: st) σ := by
  obtain ⟨⟨p, l, e, R, s, m, args, below, meth, c, Q⟩, ⟨D, ph, ids, A⟩⟩ := E
  obtain ⟨C, T, N, ty0, h1, h2, h3, h4, h5, h6, h7, h8⟩ := F
  have hln : j < (en_L ph σ k 0 fs).length := by rw [en_L_len]; exact (List.getElem?_eq_some_iff.mp hf).1
  intro H locs ls hP hS hl
  refine va_put (C := C) (T := T) (N := N) (v := .int v) (ty := .boolean) O.1 O.2.1 O.2.2.2.2.1 h2 ty0 h5 h6 O.2.2.2.1 O.2.2.2.2.2.1 hP (O.2.2.2.2.2.2.1 σ) hS k (wld_get hs) h1 j h3 (O.2.2.2.2.1 _ h4) (fun _ h9 => h9) h7 h8 hb.nar hb.fit hln d (fun H1 locs1 hP1 hD1 hS1 => kk H1 locs1 ls ?_ hS1 hl)
  rw [wld_set (s' := si σ k j v) hs.1 (by rw [hs.2]; simp only [en_E]; rw [en_L_set_i fs 0 j hf (by omega)]) (fun a ha b => by first | (simp only [gi_si]; rw [if_neg (by omega)]) | rfl) (fun a ha b => by first | (simp only [gl_sl]; rw [if_neg (by omega)]) | rfl)] at hP1
  exact hP1
theorem s_putL (O : OK M E own cc nL rm) {k j ci index : Nat} {v : Int64} {fs : List (Nat ⊕ Bool)} (F : FpX own index ci j .long) (hs : k < M.1 ∧ M.2 k = .inl (ci, fs)) (hf : fs[j]? = some (.inr true)) (d : decode cc pc = .ok (.putfield index, 3)) (kk : WS M E nL (pc + 3) lv st (sl σ k j v)) : WS M E nL pc lv (.long v :: rf E k :: st) σ := by
  obtain ⟨⟨p, l, e, R, s, m, args, below, meth, c, Q⟩, ⟨D, ph, ids, A⟩⟩ := E
  obtain ⟨C, T, N, ty0, h1, h2, h3, h4, h5, h6, h7, h8⟩ := F
  have hln : j < (en_L ph σ k 0 fs).length := by rw [en_L_len]; exact (List.getElem?_eq_some_iff.mp hf).1
  intro H locs ls hP hS hl
  refine va_put (C := C) (T := T) (N := N) (v := .long v) (ty := .long) O.1 O.2.1 O.2.2.2.2.1 h2 ty0 h5 h6 O.2.2.2.1 O.2.2.2.2.2.1 hP (O.2.2.2.2.2.2.1 σ) hS k (wld_get hs) h1 j h3 (O.2.2.2.2.1 _ h4) (fun _ h9 => h9) h7 h8 rfl rfl hln d (fun H1 locs1 hP1 hD1 hS1 => kk H1 locs1 ls ?_ hS1 hl)
  rw [wld_set (s' := sl σ k j v) hs.1 (by rw [hs.2]; simp only [en_E]; rw [en_L_set_l fs 0 j hf (by omega)]) (fun a ha b => by first | (simp only [gi_si]; rw [if_neg (by omega)]) | rfl) (fun a ha b => by first | (simp only [gl_sl]; rw [if_neg (by omega)]) | rfl)] at hP1
  exact hP1
theorem s_iald (O : OK M E own cc nL rm) {k n : Nat} {i : Int32} (hs : k < M.1 ∧ M.2 k = .inr (.inl (0, n))) (hin : vp_in i n) (d : decode cc pc = .ok (.iaload, 1)) (kk : WS M E nL (pc + 1) lv (.int (gi σ k i.toNatClampNeg) :: st) σ) : WS M E nL pc lv (.int i :: rf E k :: st) σ := by
  obtain ⟨⟨p, l, e, R, s, m, args, below, meth, c, Q⟩, ⟨D, ph, ids, A⟩⟩ := E
  exact fun H locs ls hP hS hl => va_iald O.1 O.2.1 O.2.2.2.2.2.1 hP k 0 (wld_get hs) rfl hin d (kk H locs ls hP hS hl)
theorem s_zald (O : OK M E own cc nL rm) {k n : Nat} {i : Int32} (hs : k < M.1 ∧ M.2 k = .inr (.inl (1, n))) (hin : vp_in i n) (d : decode cc pc = .ok (.baload, 1)) (kk : WS M E nL (pc + 1) lv (.int (gi σ k i.toNatClampNeg) :: st) σ) : WS M E nL pc lv (.int i :: rf E k :: st) σ := by
  obtain ⟨⟨p, l, e, R, s, m, args, below, meth, c, Q⟩, ⟨D, ph, ids, A⟩⟩ := E
  exact fun H locs ls hP hS hl => va_zald O.1 O.2.1 O.2.2.2.2.2.1 hP k 1 (wld_get hs) rfl hin d (kk H locs ls hP hS hl)
theorem ar_set {M : MW} {ph : Nat → Nat} {ids : Nat → ClassId} {σ : StA} {k n t : Nat} {i : Nat} {v : Int32} (hs : k < M.1 ∧ M.2 k = .inr (.inl (t, n))) : (wld M ph ids σ).set k (ph k, .inl (ids t, n, .inl (upd (fun j => gi σ k j) i v))) = wld M ph ids (si σ k i v) := by
  refine wld_set hs.1 ?_ (fun a ha b => by simp only [gi_si]; rw [if_neg (by omega)]) (fun _ _ _ => rfl)
  rw [hs.2]
  simp only [en_E]
  have e : (fun j => gi (si σ k i v) k j) = upd (fun j => gi σ k j) i v := by
    funext j
    simp [gi_si, upd]
  rw [e]
theorem s_iast (O : OK M E own cc nL rm) {k n : Nat} {i v : Int32} (hs : k < M.1 ∧ M.2 k = .inr (.inl (0, n))) (hin : vp_in i n) (d : decode cc pc = .ok (.iastore, 1)) (kk : WS M E nL (pc + 1) lv st (si σ k i.toNatClampNeg v)) : WS M E nL pc lv (.int v :: .int i :: rf E k :: st) σ := by
  obtain ⟨⟨p, l, e, R, s, m, args, below, meth, c, Q⟩, ⟨D, ph, ids, A⟩⟩ := E
  exact fun H locs ls hP hS hl => va_iast O.1 O.2.1 O.2.2.2.2.2.1 hP (O.2.2.2.2.2.2.1 σ) hS k 0 (wld_get hs) rfl hin d (fun H1 locs1 hP1 _ hS1 => kk H1 locs1 ls (by rw [ar_set hs] at hP1; exact hP1) hS1 hl)
theorem s_zast (O : OK M E own cc nL rm) {k n : Nat} {i v : Int32} (hb : is_b v) (hs : k < M.1 ∧ M.2 k = .inr (.inl (1, n))) (hin : vp_in i n) (d : decode cc pc = .ok (.bastore, 1)) (kk : WS M E nL (pc + 1) lv st (si σ k i.toNatClampNeg v)) : WS M E nL pc lv (.int v :: .int i :: rf E k :: st) σ := by
  obtain ⟨⟨p, l, e, R, s, m, args, below, meth, c, Q⟩, ⟨D, ph, ids, A⟩⟩ := E
  exact fun H locs ls hP hS hl => va_zast O.1 O.2.1 O.2.2.2.2.2.1 hP (O.2.2.2.2.2.2.1 σ) hS k 1 (wld_get hs) rfl hin d (fun H1 locs1 hP1 _ hS1 => kk H1 locs1 ls (by rw [hb.vpn, ar_set hs] at hP1; exact hP1) hS1 hl)
theorem s_alen (O : OK M E own cc nL rm) {k n : Nat} {v : Int32} (hs : k < M.1 ∧ M.2 k = .inr (.inl (0, n))) (hv : Int32.ofNat n = v) (d : decode cc pc = .ok (.arraylength, 1)) (kk : WS M E nL (pc + 1) lv (.int v :: st) σ) : WS M E nL pc lv (rf E k :: st) σ := by
  obtain ⟨⟨p, l, e, R, s, m, args, below, meth, c, Q⟩, ⟨D, ph, ids, A⟩⟩ := E
  exact fun H locs ls hP hS hl => va_alen (ty := .int) O.1 O.2.1 O.2.2.2.2.2.1 hP k 0 (wld_get hs) rfl hv d (kk H locs ls hP hS hl)
theorem s_aald (O : OK M E own cc nL rm) {k t n b dd : Nat} {i : Int32} (hs : k < M.1 ∧ M.2 k = .inr (.inr (t, n, b, dd))) (ht : t = 2 ∨ t = 3 ∨ t = 4) (hin : vp_in i n) (d : decode cc pc = .ok (.aaload, 1)) (kk : WS M E nL (pc + 1) lv (rf E (b + dd * i.toNatClampNeg) :: st) σ) : WS M E nL pc lv (.int i :: rf E k :: st) σ := by
  obtain ⟨⟨p, l, e, R, s, m, args, below, meth, c, Q⟩, ⟨D, ph, ids, A⟩⟩ := E
  intro H locs ls hP hS hl
  have hlt : i.toNatClampNeg < n := Nat.not_le.mp fun q => hin (Or.inr q)
  have ha := wld_get (ph := ph) (ids := ids) (s := σ) hs
  have key : ∀ (ty : FieldType), (ty_l ids)[t]? = some (ids t, ty) → ty.isReference = true → W p l e R s m args below meth c H locs 0 0 Q (F0 m pc ls (.int i :: .ref (ph k) :: st)) := fun ty hty hrf =>
    W.aald (v := va_rf (some (ph (b + dd * i.toNatClampNeg)))) (ty := ty) O.1 O.2.1 (hP k _ ha) ((O.2.2.2.2.2.1.2 t _ hty).1 n (fun j => va_rf (some (ph (b + dd * j))))) hrf (fun q => by cases q) (by show ¬ (i < 0 ∨ (arrV _ _ _).slots.size ≤ _); rw [arrV_size]; exact hin) (by show (arrV _ _ _).slots[_]? = _; rw [arrV_read _ _ hlt]) rfl rfl d (kk H locs ls hP hS hl)
  rcases ht with rfl | rfl | rfl
  · exact key _ rfl rfl
  · exact key _ rfl rfl
  · exact key _ rfl rfl
theorem s_VI (O : OK M E own cc nL rm) {y : MethodName} {cc' : ByteArray} {nL' index n : Nat} {rm' : Room} {av : (Nat → Nat) → List Value} {σ' : StA} {As st0 : List Value} {r : Int32} {rt : FieldType} {k ci : Nat} {fs : List (Nat ⊕ Bool)} {T : u_T} {N : Nat} (L : LkV own index y cc' nL' (some rt) n) (hC : CtI M y cc' nL' rt rm' av σ σ' r) (hav : av E.2.2.1 = rf E k :: As) (hs : k < M.1 ∧ M.2 k = .inl (ci, fs)) (hc : vwCl[ci]? = some (y.cls, T, N)) (hn : As.length = n) (hz : rm'.cells = 0 ∧ rm'.slots = 0) (hR : rm'.frames + 1 ≤ rm.frames ∧ 8 + (nL' + 11) + rm'.locals ≤ rm.locals) (hst : st0 = As.reverse ++ rf E k :: st) (hw : (st.map fun v => v.category).sum ≤ 8) (d : decode cc pc = .ok (.invokevirtual index, 3)) (kk : WS M E nL (pc + 3) lv (.int r :: st) σ') : WS M E nL pc lv st0 σ := by
  obtain ⟨⟨p, l, e, R, s, m, args, below, meth, c, Q⟩, ⟨D, ph, ids, A⟩⟩ := E
  intro H locs ls hP hS hl
  have hG : GoodIn TBg (TBy y cc' nL' (some rt)) := by
    intro w hw9
    have hw' : w ∈ TBg := by
      rcases List.mem_cons.mp hw9 with e | e
      · rw [e]; exact L.1
      · exact e
    exact ⟨hw', good_of_word (List.mem_filter.mp hw').2⟩
  have hRR : R = rm := O.2.2.2.2.2.2.2.2.2
  subst hRR
  have hX := O.2.2.2.2.2.2.2.2.1
  have hA1 := ca_A (O.2.2.2.2.2.2.1 σ) O.2.2.2.2.2.2.2.1 hS
  have hav' : av ph = .ref (ph k) :: As := hav
  have hpre : ∀ U : State, U.heap = H → s.WarmedH U.vm → va_Pc (av ph) (pr_W M D ph ids H.size σ) (Value.ref (ph k) :: As).toArray U := fun U hU hW => ⟨by rw [hav'], by rw [hU], by rw [hU]; exact hP, va_K.moved hW.alike O.2.2.2.2.2.1, (O.2.2.2.2.2.2.1 σ).weaken (fun _ _ _ _ => trivial), by rw [hU]; exact (hX.kept hS.2.1 hA1).warm hW⟩
  refine va_calli (va_runV (As := As) (rest := st) ⟨O.1, O.2.1, O.2.2.1, O.2.2.2.1, O.2.2.2.2.1⟩ (hC l D ph ids H.size) ⟨callB_of n O.2.2.2.2.1 hG rfl hz.1 hz.2 (O.2.2.2.2.1 _ L.2.2.2.2.1) (O.2.2.2.2.1 _ L.2.1) L.2.2.2.2.2 hR, O.2.2.2.2.1 _ L.2.2.1, O.2.2.2.2.1 _ L.2.2.2.1⟩ ⟨pr_W.blind, va_recv O.2.2.2.2.2.1 hP hc (wld_get hs), hpre⟩ rfl hn hl.1 hst (lv_room hw) d ⟨Nat.zero_le _, Nat.zero_le _⟩) hS (fun q _ h => hA1 q h) hA1 (fun r' u t H1 locs1 ht hvm hw' hB hz1 hk1 hS1 => ?_)
  subst hw'
  have hB : va_P D vwCl (wld M ph ids σ') t.heap := hB
  rw [ht] at hB
  exact kk H1 locs1 ls hB hS1 hl
theorem s_SI (O : OK M E own cc nL rm) {y : MethodName} {cc' : ByteArray} {nL' index n : Nat} {rm' : Room} {av : (Nat → Nat) → List Value} {σ' : StA} {As st0 : List Value} {r : Int32} {rt : FieldType} (L : LkS own index y cc' nL' (some rt) n) (hC : CtI M y cc' nL' rt rm' av σ σ' r) (hav : av E.2.2.1 = As) (hn : As.length = n) (hz : rm'.cells = 0 ∧ rm'.slots = 0) (hR : rm'.frames + 1 ≤ rm.frames ∧ 8 + (nL' + 11) + rm'.locals ≤ rm.locals) (hst : st0 = As.reverse ++ st) (hw : (st.map fun v => v.category).sum ≤ 8) (d : decode cc pc = .ok (.invokestatic index, 3)) (kk : WS M E nL (pc + 3) lv (.int r :: st) σ') : WS M E nL pc lv st0 σ := by
  obtain ⟨⟨p, l, e, R, s, m, args, below, meth, c, Q⟩, ⟨D, ph, ids, A⟩⟩ := E
  intro H locs ls hP hS hl
  have hG : GoodIn TBg (TBy y cc' nL' (some rt)) := by
    intro w hw9
    have hw' : w ∈ TBg := by
      rcases List.mem_cons.mp hw9 with e | e
      · rw [e]; exact L.1
      · exact e
    exact ⟨hw', good_of_word (List.mem_filter.mp hw').2⟩
  have hRR : R = rm := O.2.2.2.2.2.2.2.2.2
  subst hRR
  have hX := O.2.2.2.2.2.2.2.2.1
  have hA1 := ca_A (O.2.2.2.2.2.2.1 σ) O.2.2.2.2.2.2.2.1 hS
  have hav' : av ph = As := hav
  have hpre : ∀ U : State, U.heap = H → s.WarmedH U.vm → va_Pc (av ph) (pr_W M D ph ids H.size σ) As.toArray U := fun U hU hW => ⟨by rw [hav'], by rw [hU], by rw [hU]; exact hP, va_K.moved hW.alike O.2.2.2.2.2.1, (O.2.2.2.2.2.2.1 σ).weaken (fun _ _ _ _ => trivial), by rw [hU]; exact (hX.kept hS.2.1 hA1).warm hW⟩
  refine va_calli (va_runS (As := As) (rest := st) ⟨O.1, O.2.1, O.2.2.1, O.2.2.2.1, O.2.2.2.2.1⟩ (hC l D ph ids H.size) ⟨callB_of n O.2.2.2.2.1 hG rfl hz.1 hz.2 (O.2.2.2.2.1 _ L.2.2.2.1) (O.2.2.2.2.1 _ L.2.1) L.2.2.2.2 hR, O.2.2.2.2.1 _ L.2.2.1⟩ ⟨pr_W.blind, hpre⟩ rfl hn hl.1 hst (lv_room hw) d ⟨Nat.zero_le _, Nat.zero_le _⟩) hS (fun q _ h => hA1 q h) hA1 (fun r' u t H1 locs1 ht hvm hw' hB hz1 hk1 hS1 => ?_)
  subst hw'
  have hB : va_P D vwCl (wld M ph ids σ') t.heap := hB
  rw [ht] at hB
  exact kk H1 locs1 ls hB hS1 hl
theorem s_NI (O : OK M E own cc nL rm) {y : MethodName} {cc' : ByteArray} {nL' index n : Nat} {rm' : Room} {av : (Nat → Nat) → List Value} {σ' : StA} {As st0 : List Value} {r : Int32} {rt : FieldType} (L : LkN own index y cc' nL' (some rt) n) (hC : CtI M y cc' nL' rt rm' av σ σ' r) (hav : av E.2.2.1 = As) (hn : As.length = n) (hz : rm'.cells = 0 ∧ rm'.slots = 0) (hR : rm'.frames + 1 ≤ rm.frames ∧ 8 + (nL' + 11) + rm'.locals ≤ rm.locals) (hst : st0 = As.reverse ++ st) (hw : (st.map fun v => v.category).sum ≤ 8) (d : decode cc pc = .ok (.invokestatic index, 3)) (kk : WS M E nL (pc + 3) lv (.int r :: st) σ') : WS M E nL pc lv st0 σ := by
  obtain ⟨⟨p, l, e, R, s, m, args, below, meth, c, Q⟩, ⟨D, ph, ids, A⟩⟩ := E
  intro H locs ls hP hS hl
  have hG : GoodIn TBg (TBy y cc' nL' (some rt)) := by
    intro w hw9
    have hw' : w ∈ TBg := by
      rcases List.mem_cons.mp hw9 with e | e
      · rw [e]; exact L.1
      · exact e
    exact ⟨hw', good_of_word (List.mem_filter.mp hw').2⟩
  have hRR : R = rm := O.2.2.2.2.2.2.2.2.2
  subst hRR
  have hX := O.2.2.2.2.2.2.2.2.1
  have hA1 := ca_A (O.2.2.2.2.2.2.1 σ) O.2.2.2.2.2.2.2.1 hS
  have hav' : av ph = As := hav
  have hpre : ∀ U : State, U.heap = H → s.WarmedH U.vm → va_Pc (av ph) (pr_W M D ph ids H.size σ) As.toArray U := fun U hU hW => ⟨by rw [hav'], by rw [hU], by rw [hU]; exact hP, va_K.moved hW.alike O.2.2.2.2.2.1, (O.2.2.2.2.2.2.1 σ).weaken (fun _ _ _ _ => trivial), by rw [hU]; exact (hX.kept hS.2.1 hA1).warm hW⟩
  refine va_calli (va_runSN (host := RX5) (As := As) (rest := st) ⟨O.1, O.2.1, O.2.2.1, O.2.2.2.1, O.2.2.2.2.1⟩ (hC l D ph ids H.size) ⟨va_cnB n O.2.2.2.2.1 hG rfl hz.1 hz.2 (hX.1 _ L.2.1) (O.2.2.2.2.1 _ L.2.2.2.1) L.2.2.2.2 hR, O.2.2.2.2.1 _ L.2.2.1, trivial⟩ ⟨pr_W.blind, hpre⟩ rfl hn hl.1 hst (lv_room hw) d ⟨Nat.zero_le _, Nat.zero_le _⟩) hS (fun q _ h => hA1 q h) hA1 (fun r' u t H1 locs1 ht hvm hw' hB hz1 hk1 hS1 => ?_)
  subst hw'
  have hB : va_P D vwCl (wld M ph ids σ') t.heap := hB
  rw [ht] at hB
  exact kk H1 locs1 ls hB hS1 hl
theorem s_VL (O : OK M E own cc nL rm) {y : MethodName} {cc' : ByteArray} {nL' index n : Nat} {rm' : Room} {av : (Nat → Nat) → List Value} {σ' : StA} {As st0 : List Value} {r : Int64} {k ci : Nat} {fs : List (Nat ⊕ Bool)} {T : u_T} {N : Nat} (L : LkV own index y cc' nL' (some .long) n) (hC : CtL M y cc' nL' rm' av σ σ' r) (hav : av E.2.2.1 = rf E k :: As) (hs : k < M.1 ∧ M.2 k = .inl (ci, fs)) (hc : vwCl[ci]? = some (y.cls, T, N)) (hn : As.length = n) (hz : rm'.cells = 0 ∧ rm'.slots = 0) (hR : rm'.frames + 1 ≤ rm.frames ∧ 8 + (nL' + 11) + rm'.locals ≤ rm.locals) (hst : st0 = As.reverse ++ rf E k :: st) (hw : (st.map fun v => v.category).sum ≤ 8) (d : decode cc pc = .ok (.invokevirtual index, 3)) (kk : WS M E nL (pc + 3) lv (.long r :: st) σ') : WS M E nL pc lv st0 σ := by
  obtain ⟨⟨p, l, e, R, s, m, args, below, meth, c, Q⟩, ⟨D, ph, ids, A⟩⟩ := E
  intro H locs ls hP hS hl
  have hG : GoodIn TBg (TBy y cc' nL' (some .long)) := by
    intro w hw9
    have hw' : w ∈ TBg := by
      rcases List.mem_cons.mp hw9 with e | e
      · rw [e]; exact L.1
      · exact e
    exact ⟨hw', good_of_word (List.mem_filter.mp hw').2⟩
  have hRR : R = rm := O.2.2.2.2.2.2.2.2.2
  subst hRR
  have hX := O.2.2.2.2.2.2.2.2.1
  have hA1 := ca_A (O.2.2.2.2.2.2.1 σ) O.2.2.2.2.2.2.2.1 hS
  have hav' : av ph = .ref (ph k) :: As := hav
  have hpre : ∀ U : State, U.heap = H → s.WarmedH U.vm → va_Pc (av ph) (pr_W M D ph ids H.size σ) (Value.ref (ph k) :: As).toArray U := fun U hU hW => ⟨by rw [hav'], by rw [hU], by rw [hU]; exact hP, va_K.moved hW.alike O.2.2.2.2.2.1, (O.2.2.2.2.2.2.1 σ).weaken (fun _ _ _ _ => trivial), by rw [hU]; exact (hX.kept hS.2.1 hA1).warm hW⟩
  refine va_calll (va_runV (As := As) (rest := st) ⟨O.1, O.2.1, O.2.2.1, O.2.2.2.1, O.2.2.2.2.1⟩ (hC l D ph ids H.size) ⟨callB_of n O.2.2.2.2.1 hG rfl hz.1 hz.2 (O.2.2.2.2.1 _ L.2.2.2.2.1) (O.2.2.2.2.1 _ L.2.1) L.2.2.2.2.2 hR, O.2.2.2.2.1 _ L.2.2.1, O.2.2.2.2.1 _ L.2.2.2.1⟩ ⟨pr_W.blind, va_recv O.2.2.2.2.2.1 hP hc (wld_get hs), hpre⟩ rfl hn hl.1 hst (lv_room hw) d ⟨Nat.zero_le _, Nat.zero_le _⟩) hS (fun q _ h => hA1 q h) hA1 (fun r' u t H1 locs1 ht hvm hw' hB hz1 hk1 hS1 => ?_)
  subst hw'
  have hB : va_P D vwCl (wld M ph ids σ') t.heap := hB
  rw [ht] at hB
  exact kk H1 locs1 ls hB hS1 hl
theorem s_SL (O : OK M E own cc nL rm) {y : MethodName} {cc' : ByteArray} {nL' index n : Nat} {rm' : Room} {av : (Nat → Nat) → List Value} {σ' : StA} {As st0 : List Value} {r : Int64} (L : LkS own index y cc' nL' (some .long) n) (hC : CtL M y cc' nL' rm' av σ σ' r) (hav : av E.2.2.1 = As) (hn : As.length = n) (hz : rm'.cells = 0 ∧ rm'.slots = 0) (hR : rm'.frames + 1 ≤ rm.frames ∧ 8 + (nL' + 11) + rm'.locals ≤ rm.locals) (hst : st0 = As.reverse ++ st) (hw : (st.map fun v => v.category).sum ≤ 8) (d : decode cc pc = .ok (.invokestatic index, 3)) (kk : WS M E nL (pc + 3) lv (.long r :: st) σ') : WS M E nL pc lv st0 σ := by
  obtain ⟨⟨p, l, e, R, s, m, args, below, meth, c, Q⟩, ⟨D, ph, ids, A⟩⟩ := E
  intro H locs ls hP hS hl
  have hG : GoodIn TBg (TBy y cc' nL' (some .long)) := by
    intro w hw9
    have hw' : w ∈ TBg := by
      rcases List.mem_cons.mp hw9 with e | e
      · rw [e]; exact L.1
      · exact e
    exact ⟨hw', good_of_word (List.mem_filter.mp hw').2⟩
  have hRR : R = rm := O.2.2.2.2.2.2.2.2.2
  subst hRR
  have hX := O.2.2.2.2.2.2.2.2.1
  have hA1 := ca_A (O.2.2.2.2.2.2.1 σ) O.2.2.2.2.2.2.2.1 hS
  have hav' : av ph = As := hav
  have hpre : ∀ U : State, U.heap = H → s.WarmedH U.vm → va_Pc (av ph) (pr_W M D ph ids H.size σ) As.toArray U := fun U hU hW => ⟨by rw [hav'], by rw [hU], by rw [hU]; exact hP, va_K.moved hW.alike O.2.2.2.2.2.1, (O.2.2.2.2.2.2.1 σ).weaken (fun _ _ _ _ => trivial), by rw [hU]; exact (hX.kept hS.2.1 hA1).warm hW⟩
  refine va_calll (va_runS (As := As) (rest := st) ⟨O.1, O.2.1, O.2.2.1, O.2.2.2.1, O.2.2.2.2.1⟩ (hC l D ph ids H.size) ⟨callB_of n O.2.2.2.2.1 hG rfl hz.1 hz.2 (O.2.2.2.2.1 _ L.2.2.2.1) (O.2.2.2.2.1 _ L.2.1) L.2.2.2.2 hR, O.2.2.2.2.1 _ L.2.2.1⟩ ⟨pr_W.blind, hpre⟩ rfl hn hl.1 hst (lv_room hw) d ⟨Nat.zero_le _, Nat.zero_le _⟩) hS (fun q _ h => hA1 q h) hA1 (fun r' u t H1 locs1 ht hvm hw' hB hz1 hk1 hS1 => ?_)
  subst hw'
  have hB : va_P D vwCl (wld M ph ids σ') t.heap := hB
  rw [ht] at hB
  exact kk H1 locs1 ls hB hS1 hl
theorem s_NL (O : OK M E own cc nL rm) {y : MethodName} {cc' : ByteArray} {nL' index n : Nat} {rm' : Room} {av : (Nat → Nat) → List Value} {σ' : StA} {As st0 : List Value} {r : Int64} (L : LkN own index y cc' nL' (some .long) n) (hC : CtL M y cc' nL' rm' av σ σ' r) (hav : av E.2.2.1 = As) (hn : As.length = n) (hz : rm'.cells = 0 ∧ rm'.slots = 0) (hR : rm'.frames + 1 ≤ rm.frames ∧ 8 + (nL' + 11) + rm'.locals ≤ rm.locals) (hst : st0 = As.reverse ++ st) (hw : (st.map fun v => v.category).sum ≤ 8) (d : decode cc pc = .ok (.invokestatic index, 3)) (kk : WS M E nL (pc + 3) lv (.long r :: st) σ') : WS M E nL pc lv st0 σ := by
  obtain ⟨⟨p, l, e, R, s, m, args, below, meth, c, Q⟩, ⟨D, ph, ids, A⟩⟩ := E
  intro H locs ls hP hS hl
  have hG : GoodIn TBg (TBy y cc' nL' (some .long)) := by
    intro w hw9
    have hw' : w ∈ TBg := by
      rcases List.mem_cons.mp hw9 with e | e
      · rw [e]; exact L.1
      · exact e
    exact ⟨hw', good_of_word (List.mem_filter.mp hw').2⟩
  have hRR : R = rm := O.2.2.2.2.2.2.2.2.2
  subst hRR
  have hX := O.2.2.2.2.2.2.2.2.1
  have hA1 := ca_A (O.2.2.2.2.2.2.1 σ) O.2.2.2.2.2.2.2.1 hS
  have hav' : av ph = As := hav
  have hpre : ∀ U : State, U.heap = H → s.WarmedH U.vm → va_Pc (av ph) (pr_W M D ph ids H.size σ) As.toArray U := fun U hU hW => ⟨by rw [hav'], by rw [hU], by rw [hU]; exact hP, va_K.moved hW.alike O.2.2.2.2.2.1, (O.2.2.2.2.2.2.1 σ).weaken (fun _ _ _ _ => trivial), by rw [hU]; exact (hX.kept hS.2.1 hA1).warm hW⟩
  refine va_calll (va_runSN (host := RX5) (As := As) (rest := st) ⟨O.1, O.2.1, O.2.2.1, O.2.2.2.1, O.2.2.2.2.1⟩ (hC l D ph ids H.size) ⟨va_cnB n O.2.2.2.2.1 hG rfl hz.1 hz.2 (hX.1 _ L.2.1) (O.2.2.2.2.1 _ L.2.2.2.1) L.2.2.2.2 hR, O.2.2.2.2.1 _ L.2.2.1, trivial⟩ ⟨pr_W.blind, hpre⟩ rfl hn hl.1 hst (lv_room hw) d ⟨Nat.zero_le _, Nat.zero_le _⟩) hS (fun q _ h => hA1 q h) hA1 (fun r' u t H1 locs1 ht hvm hw' hB hz1 hk1 hS1 => ?_)
  subst hw'
  have hB : va_P D vwCl (wld M ph ids σ') t.heap := hB
  rw [ht] at hB
  exact kk H1 locs1 ls hB hS1 hl
theorem s_VV (O : OK M E own cc nL rm) {y : MethodName} {cc' : ByteArray} {nL' index n : Nat} {rm' : Room} {av : (Nat → Nat) → List Value} {σ' : StA} {As st0 : List Value} {k ci : Nat} {fs : List (Nat ⊕ Bool)} {T : u_T} {N : Nat} (L : LkV own index y cc' nL' none n) (hC : CtV M y cc' nL' rm' av σ σ') (hav : av E.2.2.1 = rf E k :: As) (hs : k < M.1 ∧ M.2 k = .inl (ci, fs)) (hc : vwCl[ci]? = some (y.cls, T, N)) (hn : As.length = n) (hz : rm'.cells = 0 ∧ rm'.slots = 0) (hR : rm'.frames + 1 ≤ rm.frames ∧ 8 + (nL' + 11) + rm'.locals ≤ rm.locals) (hst : st0 = As.reverse ++ rf E k :: st) (hw : (st.map fun v => v.category).sum ≤ 8) (d : decode cc pc = .ok (.invokevirtual index, 3)) (kk : WS M E nL (pc + 3) lv (st) σ') : WS M E nL pc lv st0 σ := by
  obtain ⟨⟨p, l, e, R, s, m, args, below, meth, c, Q⟩, ⟨D, ph, ids, A⟩⟩ := E
  intro H locs ls hP hS hl
  have hG : GoodIn TBg (TBy y cc' nL' none) := by
    intro w hw9
    have hw' : w ∈ TBg := by
      rcases List.mem_cons.mp hw9 with e | e
      · rw [e]; exact L.1
      · exact e
    exact ⟨hw', good_of_word (List.mem_filter.mp hw').2⟩
  have hRR : R = rm := O.2.2.2.2.2.2.2.2.2
  subst hRR
  have hX := O.2.2.2.2.2.2.2.2.1
  have hA1 := ca_A (O.2.2.2.2.2.2.1 σ) O.2.2.2.2.2.2.2.1 hS
  have hav' : av ph = .ref (ph k) :: As := hav
  have hpre : ∀ U : State, U.heap = H → s.WarmedH U.vm → va_Pc (av ph) (pr_W M D ph ids H.size σ) (Value.ref (ph k) :: As).toArray U := fun U hU hW => ⟨by rw [hav'], by rw [hU], by rw [hU]; exact hP, va_K.moved hW.alike O.2.2.2.2.2.1, (O.2.2.2.2.2.2.1 σ).weaken (fun _ _ _ _ => trivial), by rw [hU]; exact (hX.kept hS.2.1 hA1).warm hW⟩
  refine va_callv (va_runV (As := As) (rest := st) ⟨O.1, O.2.1, O.2.2.1, O.2.2.2.1, O.2.2.2.2.1⟩ (hC l D ph ids H.size) ⟨callB_of n O.2.2.2.2.1 hG rfl hz.1 hz.2 (O.2.2.2.2.1 _ L.2.2.2.2.1) (O.2.2.2.2.1 _ L.2.1) L.2.2.2.2.2 hR, O.2.2.2.2.1 _ L.2.2.1, O.2.2.2.2.1 _ L.2.2.2.1⟩ ⟨pr_W.blind, va_recv O.2.2.2.2.2.1 hP hc (wld_get hs), hpre⟩ rfl hn hl.1 hst (lv_room hw) d ⟨Nat.zero_le _, Nat.zero_le _⟩) hS (fun q _ h => hA1 q h) hA1 (fun u t H1 locs1 ht hvm hw' hB hz1 hk1 hS1 => ?_)
  have hB : va_P D vwCl (wld M ph ids σ') t.heap := hB
  rw [ht] at hB
  exact kk H1 locs1 ls hB hS1 hl
theorem s_SV (O : OK M E own cc nL rm) {y : MethodName} {cc' : ByteArray} {nL' index n : Nat} {rm' : Room} {av : (Nat → Nat) → List Value} {σ' : StA} {As st0 : List Value} (L : LkS own index y cc' nL' none n) (hC : CtV M y cc' nL' rm' av σ σ') (hav : av E.2.2.1 = As) (hn : As.length = n) (hz : rm'.cells = 0 ∧ rm'.slots = 0) (hR : rm'.frames + 1 ≤ rm.frames ∧ 8 + (nL' + 11) + rm'.locals ≤ rm.locals) (hst : st0 = As.reverse ++ st) (hw : (st.map fun v => v.category).sum ≤ 8) (d : decode cc pc = .ok (.invokestatic index, 3)) (kk : WS M E nL (pc + 3) lv (st) σ') : WS M E nL pc lv st0 σ := by
  obtain ⟨⟨p, l, e, R, s, m, args, below, meth, c, Q⟩, ⟨D, ph, ids, A⟩⟩ := E
  intro H locs ls hP hS hl
  have hG : GoodIn TBg (TBy y cc' nL' none) := by
    intro w hw9
    have hw' : w ∈ TBg := by
      rcases List.mem_cons.mp hw9 with e | e
      · rw [e]; exact L.1
      · exact e
    exact ⟨hw', good_of_word (List.mem_filter.mp hw').2⟩
  have hRR : R = rm := O.2.2.2.2.2.2.2.2.2
  subst hRR
  have hX := O.2.2.2.2.2.2.2.2.1
  have hA1 := ca_A (O.2.2.2.2.2.2.1 σ) O.2.2.2.2.2.2.2.1 hS
  have hav' : av ph = As := hav
  have hpre : ∀ U : State, U.heap = H → s.WarmedH U.vm → va_Pc (av ph) (pr_W M D ph ids H.size σ) As.toArray U := fun U hU hW => ⟨by rw [hav'], by rw [hU], by rw [hU]; exact hP, va_K.moved hW.alike O.2.2.2.2.2.1, (O.2.2.2.2.2.2.1 σ).weaken (fun _ _ _ _ => trivial), by rw [hU]; exact (hX.kept hS.2.1 hA1).warm hW⟩
  refine va_callv (va_runS (As := As) (rest := st) ⟨O.1, O.2.1, O.2.2.1, O.2.2.2.1, O.2.2.2.2.1⟩ (hC l D ph ids H.size) ⟨callB_of n O.2.2.2.2.1 hG rfl hz.1 hz.2 (O.2.2.2.2.1 _ L.2.2.2.1) (O.2.2.2.2.1 _ L.2.1) L.2.2.2.2 hR, O.2.2.2.2.1 _ L.2.2.1⟩ ⟨pr_W.blind, hpre⟩ rfl hn hl.1 hst (lv_room hw) d ⟨Nat.zero_le _, Nat.zero_le _⟩) hS (fun q _ h => hA1 q h) hA1 (fun u t H1 locs1 ht hvm hw' hB hz1 hk1 hS1 => ?_)
  have hB : va_P D vwCl (wld M ph ids σ') t.heap := hB
  rw [ht] at hB
  exact kk H1 locs1 ls hB hS1 hl
theorem s_NV (O : OK M E own cc nL rm) {y : MethodName} {cc' : ByteArray} {nL' index n : Nat} {rm' : Room} {av : (Nat → Nat) → List Value} {σ' : StA} {As st0 : List Value} (L : LkN own index y cc' nL' none n) (hC : CtV M y cc' nL' rm' av σ σ') (hav : av E.2.2.1 = As) (hn : As.length = n) (hz : rm'.cells = 0 ∧ rm'.slots = 0) (hR : rm'.frames + 1 ≤ rm.frames ∧ 8 + (nL' + 11) + rm'.locals ≤ rm.locals) (hst : st0 = As.reverse ++ st) (hw : (st.map fun v => v.category).sum ≤ 8) (d : decode cc pc = .ok (.invokestatic index, 3)) (kk : WS M E nL (pc + 3) lv (st) σ') : WS M E nL pc lv st0 σ := by
  obtain ⟨⟨p, l, e, R, s, m, args, below, meth, c, Q⟩, ⟨D, ph, ids, A⟩⟩ := E
  intro H locs ls hP hS hl
  have hG : GoodIn TBg (TBy y cc' nL' none) := by
    intro w hw9
    have hw' : w ∈ TBg := by
      rcases List.mem_cons.mp hw9 with e | e
      · rw [e]; exact L.1
      · exact e
    exact ⟨hw', good_of_word (List.mem_filter.mp hw').2⟩
  have hRR : R = rm := O.2.2.2.2.2.2.2.2.2
  subst hRR
  have hX := O.2.2.2.2.2.2.2.2.1
  have hA1 := ca_A (O.2.2.2.2.2.2.1 σ) O.2.2.2.2.2.2.2.1 hS
  have hav' : av ph = As := hav
  have hpre : ∀ U : State, U.heap = H → s.WarmedH U.vm → va_Pc (av ph) (pr_W M D ph ids H.size σ) As.toArray U := fun U hU hW => ⟨by rw [hav'], by rw [hU], by rw [hU]; exact hP, va_K.moved hW.alike O.2.2.2.2.2.1, (O.2.2.2.2.2.2.1 σ).weaken (fun _ _ _ _ => trivial), by rw [hU]; exact (hX.kept hS.2.1 hA1).warm hW⟩
  refine va_callv (va_runSN (host := RX5) (As := As) (rest := st) ⟨O.1, O.2.1, O.2.2.1, O.2.2.2.1, O.2.2.2.2.1⟩ (hC l D ph ids H.size) ⟨va_cnB n O.2.2.2.2.1 hG rfl hz.1 hz.2 (hX.1 _ L.2.1) (O.2.2.2.2.1 _ L.2.2.2.1) L.2.2.2.2 hR, O.2.2.2.2.1 _ L.2.2.1, trivial⟩ ⟨pr_W.blind, hpre⟩ rfl hn hl.1 hst (lv_room hw) d ⟨Nat.zero_le _, Nat.zero_le _⟩) hS (fun q _ h => hA1 q h) hA1 (fun u t H1 locs1 ht hvm hw' hB hz1 hk1 hS1 => ?_)
  have hB : va_P D vwCl (wld M ph ids σ') t.heap := hB
  rw [ht] at hB
  exact kk H1 locs1 ls hB hS1 hl
theorem s_VR (O : OK M E own cc nL rm) {y : MethodName} {cc' : ByteArray} {nL' index n : Nat} {rm' : Room} {av : (Nat → Nat) → List Value} {σ' : StA} {As st0 : List Value} {r : Nat} {rt : FieldType} {k ci : Nat} {fs : List (Nat ⊕ Bool)} {T : u_T} {N : Nat} (L : LkV own index y cc' nL' (some rt) n) (hC : CtR M y cc' nL' rt rm' av σ σ' r) (hav : av E.2.2.1 = rf E k :: As) (hs : k < M.1 ∧ M.2 k = .inl (ci, fs)) (hc : vwCl[ci]? = some (y.cls, T, N)) (hn : As.length = n) (hz : rm'.cells = 0 ∧ rm'.slots = 0) (hR : rm'.frames + 1 ≤ rm.frames ∧ 8 + (nL' + 11) + rm'.locals ≤ rm.locals) (hst : st0 = As.reverse ++ rf E k :: st) (hw : (st.map fun v => v.category).sum ≤ 8) (d : decode cc pc = .ok (.invokevirtual index, 3)) (kk : WS M E nL (pc + 3) lv (rf E r :: st) σ') : WS M E nL pc lv st0 σ := by
  obtain ⟨⟨p, l, e, R, s, m, args, below, meth, c, Q⟩, ⟨D, ph, ids, A⟩⟩ := E
  intro H locs ls hP hS hl
  have hG : GoodIn TBg (TBy y cc' nL' (some rt)) := by
    intro w hw9
    have hw' : w ∈ TBg := by
      rcases List.mem_cons.mp hw9 with e | e
      · rw [e]; exact L.1
      · exact e
    exact ⟨hw', good_of_word (List.mem_filter.mp hw').2⟩
  have hRR : R = rm := O.2.2.2.2.2.2.2.2.2
  subst hRR
  have hX := O.2.2.2.2.2.2.2.2.1
  have hA1 := ca_A (O.2.2.2.2.2.2.1 σ) O.2.2.2.2.2.2.2.1 hS
  have hav' : av ph = .ref (ph k) :: As := hav
  have hpre : ∀ U : State, U.heap = H → s.WarmedH U.vm → va_Pc (av ph) (pr_W M D ph ids H.size σ) (Value.ref (ph k) :: As).toArray U := fun U hU hW => ⟨by rw [hav'], by rw [hU], by rw [hU]; exact hP, va_K.moved hW.alike O.2.2.2.2.2.1, (O.2.2.2.2.2.2.1 σ).weaken (fun _ _ _ _ => trivial), by rw [hU]; exact (hX.kept hS.2.1 hA1).warm hW⟩
  refine va_callr (va_runV (As := As) (rest := st) ⟨O.1, O.2.1, O.2.2.1, O.2.2.2.1, O.2.2.2.2.1⟩ (hC l D ph ids H.size) ⟨callB_of n O.2.2.2.2.1 hG rfl hz.1 hz.2 (O.2.2.2.2.1 _ L.2.2.2.2.1) (O.2.2.2.2.1 _ L.2.1) L.2.2.2.2.2 hR, O.2.2.2.2.1 _ L.2.2.1, O.2.2.2.2.1 _ L.2.2.2.1⟩ ⟨pr_W.blind, va_recv O.2.2.2.2.2.1 hP hc (wld_get hs), hpre⟩ rfl hn hl.1 hst (lv_room hw) d ⟨Nat.zero_le _, Nat.zero_le _⟩) hS (fun q _ h => hA1 q h) hA1 (fun u ra t H1 locs1 ht hvm hw' hB hz1 hk1 hS1 => ?_)
  obtain ⟨e1, hB⟩ := hB
  subst e1
  have hB : va_P D vwCl (wld M ph ids σ') t.heap := hB
  rw [ht] at hB
  exact kk H1 locs1 ls hB hS1 hl
theorem s_SR (O : OK M E own cc nL rm) {y : MethodName} {cc' : ByteArray} {nL' index n : Nat} {rm' : Room} {av : (Nat → Nat) → List Value} {σ' : StA} {As st0 : List Value} {r : Nat} {rt : FieldType} (L : LkS own index y cc' nL' (some rt) n) (hC : CtR M y cc' nL' rt rm' av σ σ' r) (hav : av E.2.2.1 = As) (hn : As.length = n) (hz : rm'.cells = 0 ∧ rm'.slots = 0) (hR : rm'.frames + 1 ≤ rm.frames ∧ 8 + (nL' + 11) + rm'.locals ≤ rm.locals) (hst : st0 = As.reverse ++ st) (hw : (st.map fun v => v.category).sum ≤ 8) (d : decode cc pc = .ok (.invokestatic index, 3)) (kk : WS M E nL (pc + 3) lv (rf E r :: st) σ') : WS M E nL pc lv st0 σ := by
  obtain ⟨⟨p, l, e, R, s, m, args, below, meth, c, Q⟩, ⟨D, ph, ids, A⟩⟩ := E
  intro H locs ls hP hS hl
  have hG : GoodIn TBg (TBy y cc' nL' (some rt)) := by
    intro w hw9
    have hw' : w ∈ TBg := by
      rcases List.mem_cons.mp hw9 with e | e
      · rw [e]; exact L.1
      · exact e
    exact ⟨hw', good_of_word (List.mem_filter.mp hw').2⟩
  have hRR : R = rm := O.2.2.2.2.2.2.2.2.2
  subst hRR
  have hX := O.2.2.2.2.2.2.2.2.1
  have hA1 := ca_A (O.2.2.2.2.2.2.1 σ) O.2.2.2.2.2.2.2.1 hS
  have hav' : av ph = As := hav
  have hpre : ∀ U : State, U.heap = H → s.WarmedH U.vm → va_Pc (av ph) (pr_W M D ph ids H.size σ) As.toArray U := fun U hU hW => ⟨by rw [hav'], by rw [hU], by rw [hU]; exact hP, va_K.moved hW.alike O.2.2.2.2.2.1, (O.2.2.2.2.2.2.1 σ).weaken (fun _ _ _ _ => trivial), by rw [hU]; exact (hX.kept hS.2.1 hA1).warm hW⟩
  refine va_callr (va_runS (As := As) (rest := st) ⟨O.1, O.2.1, O.2.2.1, O.2.2.2.1, O.2.2.2.2.1⟩ (hC l D ph ids H.size) ⟨callB_of n O.2.2.2.2.1 hG rfl hz.1 hz.2 (O.2.2.2.2.1 _ L.2.2.2.1) (O.2.2.2.2.1 _ L.2.1) L.2.2.2.2 hR, O.2.2.2.2.1 _ L.2.2.1⟩ ⟨pr_W.blind, hpre⟩ rfl hn hl.1 hst (lv_room hw) d ⟨Nat.zero_le _, Nat.zero_le _⟩) hS (fun q _ h => hA1 q h) hA1 (fun u ra t H1 locs1 ht hvm hw' hB hz1 hk1 hS1 => ?_)
  obtain ⟨e1, hB⟩ := hB
  subst e1
  have hB : va_P D vwCl (wld M ph ids σ') t.heap := hB
  rw [ht] at hB
  exact kk H1 locs1 ls hB hS1 hl
theorem s_NR (O : OK M E own cc nL rm) {y : MethodName} {cc' : ByteArray} {nL' index n : Nat} {rm' : Room} {av : (Nat → Nat) → List Value} {σ' : StA} {As st0 : List Value} {r : Nat} {rt : FieldType} (L : LkN own index y cc' nL' (some rt) n) (hC : CtR M y cc' nL' rt rm' av σ σ' r) (hav : av E.2.2.1 = As) (hn : As.length = n) (hz : rm'.cells = 0 ∧ rm'.slots = 0) (hR : rm'.frames + 1 ≤ rm.frames ∧ 8 + (nL' + 11) + rm'.locals ≤ rm.locals) (hst : st0 = As.reverse ++ st) (hw : (st.map fun v => v.category).sum ≤ 8) (d : decode cc pc = .ok (.invokestatic index, 3)) (kk : WS M E nL (pc + 3) lv (rf E r :: st) σ') : WS M E nL pc lv st0 σ := by
  obtain ⟨⟨p, l, e, R, s, m, args, below, meth, c, Q⟩, ⟨D, ph, ids, A⟩⟩ := E
  intro H locs ls hP hS hl
  have hG : GoodIn TBg (TBy y cc' nL' (some rt)) := by
    intro w hw9
    have hw' : w ∈ TBg := by
      rcases List.mem_cons.mp hw9 with e | e
      · rw [e]; exact L.1
      · exact e
    exact ⟨hw', good_of_word (List.mem_filter.mp hw').2⟩
  have hRR : R = rm := O.2.2.2.2.2.2.2.2.2
  subst hRR
  have hX := O.2.2.2.2.2.2.2.2.1
  have hA1 := ca_A (O.2.2.2.2.2.2.1 σ) O.2.2.2.2.2.2.2.1 hS
  have hav' : av ph = As := hav
  have hpre : ∀ U : State, U.heap = H → s.WarmedH U.vm → va_Pc (av ph) (pr_W M D ph ids H.size σ) As.toArray U := fun U hU hW => ⟨by rw [hav'], by rw [hU], by rw [hU]; exact hP, va_K.moved hW.alike O.2.2.2.2.2.1, (O.2.2.2.2.2.2.1 σ).weaken (fun _ _ _ _ => trivial), by rw [hU]; exact (hX.kept hS.2.1 hA1).warm hW⟩
  refine va_callr (va_runSN (host := RX5) (As := As) (rest := st) ⟨O.1, O.2.1, O.2.2.1, O.2.2.2.1, O.2.2.2.2.1⟩ (hC l D ph ids H.size) ⟨va_cnB n O.2.2.2.2.1 hG rfl hz.1 hz.2 (hX.1 _ L.2.1) (O.2.2.2.2.1 _ L.2.2.2.1) L.2.2.2.2 hR, O.2.2.2.2.1 _ L.2.2.1, trivial⟩ ⟨pr_W.blind, hpre⟩ rfl hn hl.1 hst (lv_room hw) d ⟨Nat.zero_le _, Nat.zero_le _⟩) hS (fun q _ h => hA1 q h) hA1 (fun u ra t H1 locs1 ht hvm hw' hB hz1 hk1 hS1 => ?_)
  obtain ⟨e1, hB⟩ := hB
  subst e1
  have hB : va_P D vwCl (wld M ph ids σ') t.heap := hB
  rw [ht] at hB
  exact kk H1 locs1 ls hB hS1 hl
end SH
end
section
/-! The functions' own words: naming, guards, calls, loops. -/
def nmi {β : Type} (v : Int32) (k : Int32 → Option β) : Option β := k v
def nml {β : Type} (v : Int64) (k : Int64 → Option β) : Option β := k v
def nms {β : Type} (v : StA) (k : StA → Option β) : Option β := k v
def bn {α β : Type} (o : Option (StA × α)) (k : StA → α → Option β) : Option β := match o with
  | none => none
  | some (s, a) => k s a
def gd {β : Type} (i : Int32) (n : Nat) (k : Option β) : Option β := if 0 ≤ i.toInt ∧ i.toInt < (n : Int) then k else none
def gz {β : Type} (x : Int32) (k : Option β) : Option β := if x = 0 ∨ x = 1 then k else none
def g0 {β : Type} (x : Int32) (k : Option β) : Option β := if x = 0 then none else k
def g0l {β : Type} (x : Int64) (k : Option β) : Option β := if x = 0 then none else k
def FU : Nat := 1048576
def it {V W : Type} (body : StA → V → Option (StA × (V ⊕ W))) : Nat → StA → V → Option (StA × W)
  | 0, _, _ => none
  | n + 1, s, v => match body s v with
    | none => none
    | some (s', .inl v') => it body n s' v'
    | some (s', .inr e) => some (s', e)
theorem nmi_e {β : Type} {v x : Int32} {k : Int32 → Option β} {z : Option β} (e : x = v) (h : nmi v k = z) : k x = z := by rw [e]; exact h
theorem nml_e {β : Type} {v x : Int64} {k : Int64 → Option β} {z : Option β} (e : x = v) (h : nml v k = z) : k x = z := by rw [e]; exact h
theorem nms_e {β : Type} {v x : StA} {k : StA → Option β} {z : Option β} (e : x = v) (h : nms v k = z) : k x = z := by rw [e]; exact h
theorem bn_e {α β : Type} {o : Option (StA × α)} {k : StA → α → Option β} {z : β} (h : bn o k = some z) : ∃ s a, o = some (s, a) ∧ k s a = some z := by
  rcases o with _ | ⟨s, a⟩
  · cases h
  · exact ⟨s, a, rfl, h⟩
theorem gd_e {β : Type} {i : Int32} {n : Nat} {k : Option β} {z : β} (h : gd i n k = some z) : vp_in i n ∧ k = some z := by
  unfold gd at h
  split at h
  · exact ⟨vp_in_iff.mpr ‹_›, h⟩
  · cases h
theorem gz_e {β : Type} {x : Int32} {k : Option β} {z : β} (h : gz x k = some z) : is_b x ∧ k = some z := by
  unfold gz at h
  split at h
  · exact ⟨‹_›, h⟩
  · cases h
theorem g0_e {β : Type} {x : Int32} {k : Option β} {z : β} (h : g0 x k = some z) : ¬ x = 0 ∧ k = some z := by
  unfold g0 at h
  split at h
  · cases h
  · exact ⟨‹_›, h⟩
theorem g0l_e {β : Type} {x : Int64} {k : Option β} {z : β} (h : g0l x k = some z) : ¬ x = 0 ∧ k = some z := by
  unfold g0l at h
  split at h
  · cases h
  · exact ⟨‹_›, h⟩
theorem if_t {β : Type} {c : Prop} [Decidable c] {a b z : β} (hc : c) (h : (if c then a else b) = z) : a = z := by rw [if_pos hc] at h; exact h
theorem if_f {β : Type} {c : Prop} [Decidable c] {a b z : β} (hc : ¬ c) (h : (if c then a else b) = z) : b = z := by rw [if_neg hc] at h; exact h
/-- a loop's walk, out of its body's -/
theorem lp_of {V W : Type} {body : StA → V → Option (StA × (V ⊕ W))} {X : StA → V → Prop} {Y : StA → W → Prop} (hb : ∀ s v s' w, body s v = some (s', w) → (∀ v', w = .inl v' → X s' v') → (∀ e, w = .inr e → Y s' e) → X s v) : ∀ (n : Nat) (s : StA) (v : V) (z : StA × W), it body n s v = some z → Y z.1 z.2 → X s v
  | 0, _, _, _, h, _ => by simp [it] at h
  | n + 1, s, v, z, h, hY => by
    unfold it at h
    rcases hr : body s v with _ | ⟨s', v' | e⟩
    · rw [hr] at h; cases h
    · rw [hr] at h
      exact hb s v s' _ hr (fun v2 e2 => by cases e2; exact lp_of hb n s' v' z h hY) (fun e e2 => by cases e2)
    · rw [hr] at h
      cases h
      exact hb s v s' _ hr (fun v2 e2 => by cases e2) (fun e2 e3 => by cases e3; exact hY)
section SX
variable {M : MW} {E : XC} {own : String} {cc : ByteArray} {nL pc : Nat} {rm : Room} {lv : List (Nat × Value)} {st : List Value} {σ : StA}
theorem s_tops (k : ∀ s' : StA, s' = σ → WS M E nL pc lv st s') : WS M E nL pc lv st σ := k σ rfl
theorem s_tabE (O : OK M E own cc nL rm) {dflt lo hi : Int} {offs : Array Int} {len : Nat} {x v : Int32} {off : Int} {tgt : Nat} (d : decode cc pc = .ok (.tableswitch dflt lo hi offs, len)) (hx : x = v) (h1 : ¬ v.toInt < lo) (h2 : ¬ hi < v.toInt) (ho : offs[(v.toInt - lo).toNat]? = some off) (ht : (pc : Int) + off = (tgt : Int)) (k : WS M E nL tgt lv st σ) : WS M E nL pc lv (.int x :: st) σ := by
  subst hx
  exact s_tabI O d h1 h2 ho ht k
theorem s_lookE (O : OK M E own cc nL rm) {dflt : Int} {ps : Array (Int × Int)} {len : Nat} {x v : Int32} {tgt : Nat} (d : decode cc pc = .ok (.lookupswitch dflt ps, len)) (hx : x = v) (hp : (ps.toList.zip (ps.toList.drop 1)).all (fun (a, next) => a.1 < next.1) = true) (ho : (pc : Int) + Op.lookupswitch.offset ps.toList dflt v.toInt = (tgt : Int)) (_ : True) (k : WS M E nL tgt lv st σ) : WS M E nL pc lv (.int x :: st) σ := by
  subst hx
  exact s_look O d hp rfl ho k
theorem s_mmax (O : OK M E own cc nL rm) {index : Nat} {x y : Int32} (L : LkS own index Lib.Math.max.name Lib.Math.max.code 2 (some .int) 2) (hR : 1 ≤ rm.frames ∧ 21 ≤ rm.locals) (hw : (st.map fun v => v.category).sum ≤ 8) (d : decode cc pc = .ok (.invokestatic index, 3)) (kk : WS M E nL (pc + 3) lv (.int (if x < y then y else x) :: st) σ) : WS M E nL pc lv (.int y :: .int x :: st) σ := by
  obtain ⟨⟨p, l, e, R, s, m, args, below, meth, c, Q⟩, ⟨D, ph, ids, A⟩⟩ := E
  intro H locs ls hP hS hl
  have hRR : R = rm := O.2.2.2.2.2.2.2.2.2
  subst hRR
  exact va_mmax O.1 O.2.1 (by rw [O.2.2.1]; exact hl.1.symm) O.2.2.2.1 (O.2.2.2.2.1 _ L.2.1) (O.2.2.2.2.1 _ L.2.2.1) (O.2.2.2.2.1 _ L.2.2.2.1) (O.2.2.2.2.1 _ L.1) hR.1 (by omega) (Nat.zero_le _) (Nat.zero_le _) d (kk H locs ls hP hS hl)
theorem s_mmin (O : OK M E own cc nL rm) {index : Nat} {x y : Int32} (L : LkS own index Lib.Math.min.name Lib.Math.min.code 2 (some .int) 2) (hR : 1 ≤ rm.frames ∧ 21 ≤ rm.locals) (hw : (st.map fun v => v.category).sum ≤ 8) (d : decode cc pc = .ok (.invokestatic index, 3)) (kk : WS M E nL (pc + 3) lv (.int (if y < x then y else x) :: st) σ) : WS M E nL pc lv (.int y :: .int x :: st) σ := by
  obtain ⟨⟨p, l, e, R, s, m, args, below, meth, c, Q⟩, ⟨D, ph, ids, A⟩⟩ := E
  intro H locs ls hP hS hl
  have hRR : R = rm := O.2.2.2.2.2.2.2.2.2
  subst hRR
  exact va_mmin O.1 O.2.1 (by rw [O.2.2.1]; exact hl.1.symm) O.2.2.2.1 (O.2.2.2.2.1 _ L.2.1) (O.2.2.2.2.1 _ L.2.2.1) (O.2.2.2.2.1 _ L.2.2.2.1) (O.2.2.2.2.1 _ L.1) hR.1 (by omega) (Nat.zero_le _) (Nat.zero_le _) d (kk H locs ls hP hS hl)
theorem s_mabs (O : OK M E own cc nL rm) {index : Nat} {x : Int32} (L : LkS own index Lib.Math.abs.name Lib.Math.abs.code 1 (some .int) 1) (hR : 1 ≤ rm.frames ∧ 21 ≤ rm.locals) (hw : (st.map fun v => v.category).sum ≤ 8) (d : decode cc pc = .ok (.invokestatic index, 3)) (kk : WS M E nL (pc + 3) lv (.int (if 0 ≤ x then x else 0 - x) :: st) σ) : WS M E nL pc lv (.int x :: st) σ := by
  obtain ⟨⟨p, l, e, R, s, m, args, below, meth, c, Q⟩, ⟨D, ph, ids, A⟩⟩ := E
  intro H locs ls hP hS hl
  have hRR : R = rm := O.2.2.2.2.2.2.2.2.2
  subst hRR
  exact va_mabs O.1 O.2.1 (by rw [O.2.2.1]; exact hl.1.symm) O.2.2.2.1 (O.2.2.2.2.1 _ L.2.1) (O.2.2.2.2.1 _ L.2.2.1) (O.2.2.2.2.1 _ L.2.2.2.1) (O.2.2.2.2.1 _ L.1) hR.1 (by omega) (Nat.zero_le _) (Nat.zero_le _) d (kk H locs ls hP hS hl)
end SX
/-! The worlds: the system's 72 cells, the reference's 12. -/
def cTab : List ShA := [.inl (5, [.inl 1, .inl 12, .inl 45, .inl 46, .inl 47, .inl 50, .inl 59, .inl 60, .inl 71, .inr false]),
  .inl (1, [.inl 2, .inl 3, .inl 4, .inl 5, .inl 6, .inl 9, .inr false, .inr false, .inr false, .inr false, .inr false, .inr false]),
  .inr (.inl (0, 6)),
  .inr (.inl (0, 6)),
  .inr (.inl (0, 6)),
  .inr (.inl (0, 5)),
  .inl (2, [.inl 7, .inl 8, .inr false]),
  .inr (.inl (0, 8)),
  .inr (.inl (0, 8)),
  .inl (2, [.inl 10, .inl 11, .inr false]),
  .inr (.inl (0, 6)),
  .inr (.inl (0, 6)),
  .inl (1, [.inl 13, .inl 14, .inl 15, .inl 16, .inl 17, .inl 20, .inr false, .inr false, .inr false, .inr false, .inr false, .inr false]),
  .inr (.inl (0, 6)),
  .inr (.inl (0, 6)),
  .inr (.inl (0, 6)),
  .inr (.inl (0, 5)),
  .inl (2, [.inl 18, .inl 19, .inr false]),
  .inr (.inl (0, 8)),
  .inr (.inl (0, 8)),
  .inl (2, [.inl 21, .inl 22, .inr false]),
  .inr (.inl (0, 6)),
  .inr (.inl (0, 6)),
  .inl (1, [.inl 24, .inl 25, .inl 26, .inl 27, .inl 28, .inl 31, .inr false, .inr false, .inr false, .inr false, .inr false, .inr false]),
  .inr (.inl (0, 6)),
  .inr (.inl (0, 6)),
  .inr (.inl (0, 6)),
  .inr (.inl (0, 5)),
  .inl (2, [.inl 29, .inl 30, .inr false]),
  .inr (.inl (0, 8)),
  .inr (.inl (0, 8)),
  .inl (2, [.inl 32, .inl 33, .inr false]),
  .inr (.inl (0, 6)),
  .inr (.inl (0, 6)),
  .inl (1, [.inl 35, .inl 36, .inl 37, .inl 38, .inl 39, .inl 42, .inr false, .inr false, .inr false, .inr false, .inr false, .inr false]),
  .inr (.inl (0, 6)),
  .inr (.inl (0, 6)),
  .inr (.inl (0, 6)),
  .inr (.inl (0, 5)),
  .inl (2, [.inl 40, .inl 41, .inr false]),
  .inr (.inl (0, 8)),
  .inr (.inl (0, 8)),
  .inl (2, [.inl 43, .inl 44, .inr false]),
  .inr (.inl (0, 6)),
  .inr (.inl (0, 6)),
  .inr (.inr (2, 2, 23, 11)),
  .inr (.inl (1, 2)),
  .inl (3, [.inl 48, .inl 49, .inr false, .inr false, .inr false, .inr false, .inr false, .inr false, .inr false, .inr false, .inr false, .inr false]),
  .inr (.inl (0, 160)),
  .inr (.inl (0, 160)),
  .inr (.inr (3, 4, 51, 2)),
  .inl (4, [.inl 52, .inr false, .inr false]),
  .inr (.inl (0, 40)),
  .inl (4, [.inl 54, .inr false, .inr false]),
  .inr (.inl (0, 40)),
  .inl (4, [.inl 56, .inr false, .inr false]),
  .inr (.inl (0, 40)),
  .inl (4, [.inl 58, .inr false, .inr false]),
  .inr (.inl (0, 40)),
  .inl (0, [.inr false, .inr false, .inr false]),
  .inr (.inr (4, 10, 61, 1)),
  .inr (.inl (0, 31)),
  .inr (.inl (0, 31)),
  .inr (.inl (0, 31)),
  .inr (.inl (0, 31)),
  .inr (.inl (0, 31)),
  .inr (.inl (0, 31)),
  .inr (.inl (0, 31)),
  .inr (.inl (0, 31)),
  .inr (.inl (0, 31)),
  .inr (.inl (0, 31)),
  .inr (.inl (0, 61))]
def cM : MW := (72, fun k => cTab.getD k (.inr (.inl (0, 0))))
def mTab : List ShA := [.inl (6, [.inl 1, .inl 2, .inl 3, .inr false, .inl 4, .inr false, .inr false, .inr false, .inr false, .inl 5, .inr false, .inr false, .inr false, .inr false, .inr false, .inr false, .inr false, .inr false, .inr false, .inr false, .inr false, .inr false, .inr false, .inr false, .inr true, .inr true, .inr true, .inl 6, .inl 7, .inl 8, .inl 9, .inl 10, .inr false, .inl 11]),
  .inr (.inl (0, 189)),
  .inr (.inl (0, 63)),
  .inr (.inl (1, 2)),
  .inr (.inl (0, 63)),
  .inr (.inl (0, 160)),
  .inr (.inl (0, 31)),
  .inr (.inl (0, 279)),
  .inr (.inl (0, 4)),
  .inr (.inl (0, 4)),
  .inr (.inl (0, 160)),
  .inr (.inl (0, 63))]
def mM : MW := (12, fun k => mTab.getD k (.inr (.inl (0, 0))))
theorem cs_0 : 0 < cM.1 ∧ cM.2 0 = .inl (5, [.inl 1, .inl 12, .inl 45, .inl 46, .inl 47, .inl 50, .inl 59, .inl 60, .inl 71, .inr false]) := ⟨by decide, rfl⟩
theorem cs_1 : 1 < cM.1 ∧ cM.2 1 = .inl (1, [.inl 2, .inl 3, .inl 4, .inl 5, .inl 6, .inl 9, .inr false, .inr false, .inr false, .inr false, .inr false, .inr false]) := ⟨by decide, rfl⟩
theorem cs_2 : 2 < cM.1 ∧ cM.2 2 = .inr (.inl (0, 6)) := ⟨by decide, rfl⟩
theorem cs_3 : 3 < cM.1 ∧ cM.2 3 = .inr (.inl (0, 6)) := ⟨by decide, rfl⟩
theorem cs_4 : 4 < cM.1 ∧ cM.2 4 = .inr (.inl (0, 6)) := ⟨by decide, rfl⟩
theorem cs_5 : 5 < cM.1 ∧ cM.2 5 = .inr (.inl (0, 5)) := ⟨by decide, rfl⟩
theorem cs_6 : 6 < cM.1 ∧ cM.2 6 = .inl (2, [.inl 7, .inl 8, .inr false]) := ⟨by decide, rfl⟩
theorem cs_7 : 7 < cM.1 ∧ cM.2 7 = .inr (.inl (0, 8)) := ⟨by decide, rfl⟩
theorem cs_8 : 8 < cM.1 ∧ cM.2 8 = .inr (.inl (0, 8)) := ⟨by decide, rfl⟩
theorem cs_9 : 9 < cM.1 ∧ cM.2 9 = .inl (2, [.inl 10, .inl 11, .inr false]) := ⟨by decide, rfl⟩
theorem cs_10 : 10 < cM.1 ∧ cM.2 10 = .inr (.inl (0, 6)) := ⟨by decide, rfl⟩
theorem cs_11 : 11 < cM.1 ∧ cM.2 11 = .inr (.inl (0, 6)) := ⟨by decide, rfl⟩
theorem cs_12 : 12 < cM.1 ∧ cM.2 12 = .inl (1, [.inl 13, .inl 14, .inl 15, .inl 16, .inl 17, .inl 20, .inr false, .inr false, .inr false, .inr false, .inr false, .inr false]) := ⟨by decide, rfl⟩
theorem cs_13 : 13 < cM.1 ∧ cM.2 13 = .inr (.inl (0, 6)) := ⟨by decide, rfl⟩
theorem cs_14 : 14 < cM.1 ∧ cM.2 14 = .inr (.inl (0, 6)) := ⟨by decide, rfl⟩
theorem cs_15 : 15 < cM.1 ∧ cM.2 15 = .inr (.inl (0, 6)) := ⟨by decide, rfl⟩
theorem cs_16 : 16 < cM.1 ∧ cM.2 16 = .inr (.inl (0, 5)) := ⟨by decide, rfl⟩
theorem cs_17 : 17 < cM.1 ∧ cM.2 17 = .inl (2, [.inl 18, .inl 19, .inr false]) := ⟨by decide, rfl⟩
theorem cs_18 : 18 < cM.1 ∧ cM.2 18 = .inr (.inl (0, 8)) := ⟨by decide, rfl⟩
theorem cs_19 : 19 < cM.1 ∧ cM.2 19 = .inr (.inl (0, 8)) := ⟨by decide, rfl⟩
theorem cs_20 : 20 < cM.1 ∧ cM.2 20 = .inl (2, [.inl 21, .inl 22, .inr false]) := ⟨by decide, rfl⟩
theorem cs_21 : 21 < cM.1 ∧ cM.2 21 = .inr (.inl (0, 6)) := ⟨by decide, rfl⟩
theorem cs_22 : 22 < cM.1 ∧ cM.2 22 = .inr (.inl (0, 6)) := ⟨by decide, rfl⟩
theorem cs_23 : 23 < cM.1 ∧ cM.2 23 = .inl (1, [.inl 24, .inl 25, .inl 26, .inl 27, .inl 28, .inl 31, .inr false, .inr false, .inr false, .inr false, .inr false, .inr false]) := ⟨by decide, rfl⟩
theorem cs_24 : 24 < cM.1 ∧ cM.2 24 = .inr (.inl (0, 6)) := ⟨by decide, rfl⟩
theorem cs_25 : 25 < cM.1 ∧ cM.2 25 = .inr (.inl (0, 6)) := ⟨by decide, rfl⟩
theorem cs_26 : 26 < cM.1 ∧ cM.2 26 = .inr (.inl (0, 6)) := ⟨by decide, rfl⟩
theorem cs_27 : 27 < cM.1 ∧ cM.2 27 = .inr (.inl (0, 5)) := ⟨by decide, rfl⟩
theorem cs_28 : 28 < cM.1 ∧ cM.2 28 = .inl (2, [.inl 29, .inl 30, .inr false]) := ⟨by decide, rfl⟩
theorem cs_29 : 29 < cM.1 ∧ cM.2 29 = .inr (.inl (0, 8)) := ⟨by decide, rfl⟩
theorem cs_30 : 30 < cM.1 ∧ cM.2 30 = .inr (.inl (0, 8)) := ⟨by decide, rfl⟩
theorem cs_31 : 31 < cM.1 ∧ cM.2 31 = .inl (2, [.inl 32, .inl 33, .inr false]) := ⟨by decide, rfl⟩
theorem cs_32 : 32 < cM.1 ∧ cM.2 32 = .inr (.inl (0, 6)) := ⟨by decide, rfl⟩
theorem cs_33 : 33 < cM.1 ∧ cM.2 33 = .inr (.inl (0, 6)) := ⟨by decide, rfl⟩
theorem cs_34 : 34 < cM.1 ∧ cM.2 34 = .inl (1, [.inl 35, .inl 36, .inl 37, .inl 38, .inl 39, .inl 42, .inr false, .inr false, .inr false, .inr false, .inr false, .inr false]) := ⟨by decide, rfl⟩
theorem cs_35 : 35 < cM.1 ∧ cM.2 35 = .inr (.inl (0, 6)) := ⟨by decide, rfl⟩
theorem cs_36 : 36 < cM.1 ∧ cM.2 36 = .inr (.inl (0, 6)) := ⟨by decide, rfl⟩
theorem cs_37 : 37 < cM.1 ∧ cM.2 37 = .inr (.inl (0, 6)) := ⟨by decide, rfl⟩
theorem cs_38 : 38 < cM.1 ∧ cM.2 38 = .inr (.inl (0, 5)) := ⟨by decide, rfl⟩
theorem cs_39 : 39 < cM.1 ∧ cM.2 39 = .inl (2, [.inl 40, .inl 41, .inr false]) := ⟨by decide, rfl⟩
theorem cs_40 : 40 < cM.1 ∧ cM.2 40 = .inr (.inl (0, 8)) := ⟨by decide, rfl⟩
theorem cs_41 : 41 < cM.1 ∧ cM.2 41 = .inr (.inl (0, 8)) := ⟨by decide, rfl⟩
theorem cs_42 : 42 < cM.1 ∧ cM.2 42 = .inl (2, [.inl 43, .inl 44, .inr false]) := ⟨by decide, rfl⟩
theorem cs_43 : 43 < cM.1 ∧ cM.2 43 = .inr (.inl (0, 6)) := ⟨by decide, rfl⟩
theorem cs_44 : 44 < cM.1 ∧ cM.2 44 = .inr (.inl (0, 6)) := ⟨by decide, rfl⟩
theorem cs_45 : 45 < cM.1 ∧ cM.2 45 = .inr (.inr (2, 2, 23, 11)) := ⟨by decide, rfl⟩
theorem cs_46 : 46 < cM.1 ∧ cM.2 46 = .inr (.inl (1, 2)) := ⟨by decide, rfl⟩
theorem cs_47 : 47 < cM.1 ∧ cM.2 47 = .inl (3, [.inl 48, .inl 49, .inr false, .inr false, .inr false, .inr false, .inr false, .inr false, .inr false, .inr false, .inr false, .inr false]) := ⟨by decide, rfl⟩
theorem cs_48 : 48 < cM.1 ∧ cM.2 48 = .inr (.inl (0, 160)) := ⟨by decide, rfl⟩
theorem cs_49 : 49 < cM.1 ∧ cM.2 49 = .inr (.inl (0, 160)) := ⟨by decide, rfl⟩
theorem cs_50 : 50 < cM.1 ∧ cM.2 50 = .inr (.inr (3, 4, 51, 2)) := ⟨by decide, rfl⟩
theorem cs_51 : 51 < cM.1 ∧ cM.2 51 = .inl (4, [.inl 52, .inr false, .inr false]) := ⟨by decide, rfl⟩
theorem cs_52 : 52 < cM.1 ∧ cM.2 52 = .inr (.inl (0, 40)) := ⟨by decide, rfl⟩
theorem cs_53 : 53 < cM.1 ∧ cM.2 53 = .inl (4, [.inl 54, .inr false, .inr false]) := ⟨by decide, rfl⟩
theorem cs_54 : 54 < cM.1 ∧ cM.2 54 = .inr (.inl (0, 40)) := ⟨by decide, rfl⟩
theorem cs_55 : 55 < cM.1 ∧ cM.2 55 = .inl (4, [.inl 56, .inr false, .inr false]) := ⟨by decide, rfl⟩
theorem cs_56 : 56 < cM.1 ∧ cM.2 56 = .inr (.inl (0, 40)) := ⟨by decide, rfl⟩
theorem cs_57 : 57 < cM.1 ∧ cM.2 57 = .inl (4, [.inl 58, .inr false, .inr false]) := ⟨by decide, rfl⟩
theorem cs_58 : 58 < cM.1 ∧ cM.2 58 = .inr (.inl (0, 40)) := ⟨by decide, rfl⟩
theorem cs_59 : 59 < cM.1 ∧ cM.2 59 = .inl (0, [.inr false, .inr false, .inr false]) := ⟨by decide, rfl⟩
theorem cs_60 : 60 < cM.1 ∧ cM.2 60 = .inr (.inr (4, 10, 61, 1)) := ⟨by decide, rfl⟩
theorem cs_61 : 61 < cM.1 ∧ cM.2 61 = .inr (.inl (0, 31)) := ⟨by decide, rfl⟩
theorem cs_62 : 62 < cM.1 ∧ cM.2 62 = .inr (.inl (0, 31)) := ⟨by decide, rfl⟩
theorem cs_63 : 63 < cM.1 ∧ cM.2 63 = .inr (.inl (0, 31)) := ⟨by decide, rfl⟩
theorem cs_64 : 64 < cM.1 ∧ cM.2 64 = .inr (.inl (0, 31)) := ⟨by decide, rfl⟩
theorem cs_65 : 65 < cM.1 ∧ cM.2 65 = .inr (.inl (0, 31)) := ⟨by decide, rfl⟩
theorem cs_66 : 66 < cM.1 ∧ cM.2 66 = .inr (.inl (0, 31)) := ⟨by decide, rfl⟩
theorem cs_67 : 67 < cM.1 ∧ cM.2 67 = .inr (.inl (0, 31)) := ⟨by decide, rfl⟩
theorem cs_68 : 68 < cM.1 ∧ cM.2 68 = .inr (.inl (0, 31)) := ⟨by decide, rfl⟩
theorem cs_69 : 69 < cM.1 ∧ cM.2 69 = .inr (.inl (0, 31)) := ⟨by decide, rfl⟩
theorem cs_70 : 70 < cM.1 ∧ cM.2 70 = .inr (.inl (0, 31)) := ⟨by decide, rfl⟩
theorem cs_71 : 71 < cM.1 ∧ cM.2 71 = .inr (.inl (0, 61)) := ⟨by decide, rfl⟩
theorem ms_0 : 0 < mM.1 ∧ mM.2 0 = .inl (6, [.inl 1, .inl 2, .inl 3, .inr false, .inl 4, .inr false, .inr false, .inr false, .inr false, .inl 5, .inr false, .inr false, .inr false, .inr false, .inr false, .inr false, .inr false, .inr false, .inr false, .inr false, .inr false, .inr false, .inr false, .inr false, .inr true, .inr true, .inr true, .inl 6, .inl 7, .inl 8, .inl 9, .inl 10, .inr false, .inl 11]) := ⟨by decide, rfl⟩
theorem ms_1 : 1 < mM.1 ∧ mM.2 1 = .inr (.inl (0, 189)) := ⟨by decide, rfl⟩
theorem ms_2 : 2 < mM.1 ∧ mM.2 2 = .inr (.inl (0, 63)) := ⟨by decide, rfl⟩
theorem ms_3 : 3 < mM.1 ∧ mM.2 3 = .inr (.inl (1, 2)) := ⟨by decide, rfl⟩
theorem ms_4 : 4 < mM.1 ∧ mM.2 4 = .inr (.inl (0, 63)) := ⟨by decide, rfl⟩
theorem ms_5 : 5 < mM.1 ∧ mM.2 5 = .inr (.inl (0, 160)) := ⟨by decide, rfl⟩
theorem ms_6 : 6 < mM.1 ∧ mM.2 6 = .inr (.inl (0, 31)) := ⟨by decide, rfl⟩
theorem ms_7 : 7 < mM.1 ∧ mM.2 7 = .inr (.inl (0, 279)) := ⟨by decide, rfl⟩
theorem ms_8 : 8 < mM.1 ∧ mM.2 8 = .inr (.inl (0, 4)) := ⟨by decide, rfl⟩
theorem ms_9 : 9 < mM.1 ∧ mM.2 9 = .inr (.inl (0, 4)) := ⟨by decide, rfl⟩
theorem ms_10 : 10 < mM.1 ∧ mM.2 10 = .inr (.inl (0, 160)) := ⟨by decide, rfl⟩
theorem ms_11 : 11 < mM.1 ∧ mM.2 11 = .inr (.inl (0, 63)) := ⟨by decide, rfl⟩
def isFl (k : Nat) : Prop := k = 1 ∨ k = 12 ∨ k = 23 ∨ k = 34
def isPr (k : Nat) : Prop := k = 6 ∨ k = 9 ∨ k = 17 ∨ k = 20 ∨ k = 28 ∨ k = 31 ∨ k = 39 ∨ k = 42
def isSh (k : Nat) : Prop := k = 51 ∨ k = 53 ∨ k = 55 ∨ k = 57
def pr_n (k : Nat) : Nat := if k = 6 ∨ k = 17 ∨ k = 28 ∨ k = 39 then 8 else 6
theorem fl_0 {k : Nat} (h : isFl k) : k < cM.1 ∧ cM.2 (k) = .inl (1, [.inl (k + 1), .inl (k + 2), .inl (k + 3), .inl (k + 4), .inl (k + 5), .inl (k + 8), .inr false, .inr false, .inr false, .inr false, .inr false, .inr false]) := by
  rcases h with rfl | rfl | rfl | rfl <;> exact ⟨by decide, rfl⟩
theorem fl_1 {k : Nat} (h : isFl k) : k + 1 < cM.1 ∧ cM.2 (k + 1) = .inr (.inl (0, 6)) := by
  rcases h with rfl | rfl | rfl | rfl <;> exact ⟨by decide, rfl⟩
theorem fl_2 {k : Nat} (h : isFl k) : k + 2 < cM.1 ∧ cM.2 (k + 2) = .inr (.inl (0, 6)) := by
  rcases h with rfl | rfl | rfl | rfl <;> exact ⟨by decide, rfl⟩
theorem fl_3 {k : Nat} (h : isFl k) : k + 3 < cM.1 ∧ cM.2 (k + 3) = .inr (.inl (0, 6)) := by
  rcases h with rfl | rfl | rfl | rfl <;> exact ⟨by decide, rfl⟩
theorem fl_4 {k : Nat} (h : isFl k) : k + 4 < cM.1 ∧ cM.2 (k + 4) = .inr (.inl (0, 5)) := by
  rcases h with rfl | rfl | rfl | rfl <;> exact ⟨by decide, rfl⟩
theorem fl_5 {k : Nat} (h : isFl k) : k + 5 < cM.1 ∧ cM.2 (k + 5) = .inl (2, [.inl (k + 6), .inl (k + 7), .inr false]) := by
  rcases h with rfl | rfl | rfl | rfl <;> exact ⟨by decide, rfl⟩
theorem fl_6 {k : Nat} (h : isFl k) : k + 6 < cM.1 ∧ cM.2 (k + 6) = .inr (.inl (0, 8)) := by
  rcases h with rfl | rfl | rfl | rfl <;> exact ⟨by decide, rfl⟩
theorem fl_7 {k : Nat} (h : isFl k) : k + 7 < cM.1 ∧ cM.2 (k + 7) = .inr (.inl (0, 8)) := by
  rcases h with rfl | rfl | rfl | rfl <;> exact ⟨by decide, rfl⟩
theorem fl_8 {k : Nat} (h : isFl k) : k + 8 < cM.1 ∧ cM.2 (k + 8) = .inl (2, [.inl (k + 9), .inl (k + 10), .inr false]) := by
  rcases h with rfl | rfl | rfl | rfl <;> exact ⟨by decide, rfl⟩
theorem fl_9 {k : Nat} (h : isFl k) : k + 9 < cM.1 ∧ cM.2 (k + 9) = .inr (.inl (0, 6)) := by
  rcases h with rfl | rfl | rfl | rfl <;> exact ⟨by decide, rfl⟩
theorem fl_10 {k : Nat} (h : isFl k) : k + 10 < cM.1 ∧ cM.2 (k + 10) = .inr (.inl (0, 6)) := by
  rcases h with rfl | rfl | rfl | rfl <;> exact ⟨by decide, rfl⟩
theorem fp_5 {k : Nat} (h : isFl k) : isPr (k + 5) := by
  rcases h with rfl | rfl | rfl | rfl <;> simp [isPr]
theorem fp_8 {k : Nat} (h : isFl k) : isPr (k + 8) := by
  rcases h with rfl | rfl | rfl | rfl <;> simp [isPr]
theorem pr_0 {k : Nat} (h : isPr k) : k < cM.1 ∧ cM.2 (k) = .inl (2, [.inl (k + 1), .inl (k + 2), .inr false]) := by
  rcases h with rfl | rfl | rfl | rfl | rfl | rfl | rfl | rfl <;> exact ⟨by decide, rfl⟩
theorem pr_1 {k : Nat} (h : isPr k) : k + 1 < cM.1 ∧ cM.2 (k + 1) = .inr (.inl (0, (pr_n k))) := by
  rcases h with rfl | rfl | rfl | rfl | rfl | rfl | rfl | rfl <;> exact ⟨by decide, rfl⟩
theorem pr_2 {k : Nat} (h : isPr k) : k + 2 < cM.1 ∧ cM.2 (k + 2) = .inr (.inl (0, (pr_n k))) := by
  rcases h with rfl | rfl | rfl | rfl | rfl | rfl | rfl | rfl <;> exact ⟨by decide, rfl⟩
theorem sk_0 {k : Nat} (h : isSh k) : k < cM.1 ∧ cM.2 (k) = .inl (4, [.inl (k + 1), .inr false, .inr false]) := by
  rcases h with rfl | rfl | rfl | rfl <;> exact ⟨by decide, rfl⟩
theorem sk_1 {k : Nat} (h : isSh k) : k + 1 < cM.1 ∧ cM.2 (k + 1) = .inr (.inl (0, 40)) := by
  rcases h with rfl | rfl | rfl | rfl <;> exact ⟨by decide, rfl⟩
theorem fl_is1 : isFl 1 := Or.inl rfl
theorem fl_is12 : isFl 12 := Or.inr (Or.inl rfl)
theorem pr_is6 : isPr 6 := by simp [isPr]
theorem pr_is9 : isPr 9 := by simp [isPr]
theorem pr_is17 : isPr 17 := by simp [isPr]
theorem pr_is20 : isPr 20 := by simp [isPr]
theorem im_lt {i : Int32} {n : Nat} (h : vp_in i n) : i.toNatClampNeg < n := Nat.not_le.mp fun q => h (Or.inr q)
theorem im_fl {i : Int32} (h : vp_in i 2) : isFl (23 + 11 * i.toNatClampNeg) := by
  have h1 := im_lt h
  generalize i.toNatClampNeg = j at h1
  unfold isFl
  omega
theorem im_sh {i : Int32} (h : vp_in i 4) : isSh (51 + 2 * i.toNatClampNeg) := by
  have h1 := im_lt h
  generalize i.toNatClampNeg = j at h1
  unfold isSh
  omega
theorem im_hb {i : Int32} (h : vp_in i 10) : 61 + 1 * i.toNatClampNeg < cM.1 ∧ cM.2 (61 + 1 * i.toNatClampNeg) = .inr (.inl (0, 31)) := by
  have h1 := im_lt h
  generalize i.toNatClampNeg = j at h1
  rcases (show j = 0 ∨ j = 1 ∨ j = 2 ∨ j = 3 ∨ j = 4 ∨ j = 5 ∨ j = 6 ∨ j = 7 ∨ j = 8 ∨ j = 9 by omega) with rfl | rfl | rfl | rfl | rfl | rfl | rfl | rfl | rfl | rfl <;> exact ⟨by decide, rfl⟩
/-- a row of ints of that length -/
def gr {β : Type} (r n : Nat) (k : Option β) : Option β := if r < cM.1 ∧ cM.2 r = .inr (.inl (0, n)) then k else none
theorem gr_e {β : Type} {r n : Nat} {k : Option β} {z : β} (h : gr r n k = some z) : (r < cM.1 ∧ cM.2 r = .inr (.inl (0, n))) ∧ k = some z := by
  unfold gr at h
  split at h
  · exact ⟨‹_›, h⟩
  · cases h
set_option maxRecDepth 20000 in
theorem tw_X0 : ∀ w ∈ u_ws RX0 TX0 3, w ∈ TBg := fun w h => tb_in ((by decide +kernel : ∀ w ∈ u_ws RX0 TX0 3, w ∈ lw_tbl) w h) ((by decide +kernel : ∀ w ∈ u_ws RX0 TX0 3, goodWord w = true) w h)
set_option maxRecDepth 20000 in
theorem tw_X1 : ∀ w ∈ u_ws RX1 TX1 12, w ∈ TBg := fun w h => tb_in ((by decide +kernel : ∀ w ∈ u_ws RX1 TX1 12, w ∈ lw_tbl) w h) ((by decide +kernel : ∀ w ∈ u_ws RX1 TX1 12, goodWord w = true) w h)
set_option maxRecDepth 20000 in
theorem tw_X2 : ∀ w ∈ u_ws RX2 TX2 3, w ∈ TBg := fun w h => tb_in ((by decide +kernel : ∀ w ∈ u_ws RX2 TX2 3, w ∈ lw_tbl) w h) ((by decide +kernel : ∀ w ∈ u_ws RX2 TX2 3, goodWord w = true) w h)
set_option maxRecDepth 20000 in
theorem tw_X3 : ∀ w ∈ u_ws RX3 TX3 12, w ∈ TBg := fun w h => tb_in ((by decide +kernel : ∀ w ∈ u_ws RX3 TX3 12, w ∈ lw_tbl) w h) ((by decide +kernel : ∀ w ∈ u_ws RX3 TX3 12, goodWord w = true) w h)
set_option maxRecDepth 20000 in
theorem tw_X4 : ∀ w ∈ u_ws RX4 TX4 3, w ∈ TBg := fun w h => tb_in ((by decide +kernel : ∀ w ∈ u_ws RX4 TX4 3, w ∈ lw_tbl) w h) ((by decide +kernel : ∀ w ∈ u_ws RX4 TX4 3, goodWord w = true) w h)
set_option maxRecDepth 20000 in
theorem tw_X5 : ∀ w ∈ u_ws RX5 TX5 10, w ∈ TBg := fun w h => tb_in ((by decide +kernel : ∀ w ∈ u_ws RX5 TX5 10, w ∈ lw_tbl) w h) ((by decide +kernel : ∀ w ∈ u_ws RX5 TX5 10, goodWord w = true) w h)
set_option maxRecDepth 20000 in
theorem tw_X6 : ∀ w ∈ u_ws RX6 TX6 34, w ∈ TBg := fun w h => tb_in ((by decide +kernel : ∀ w ∈ u_ws RX6 TX6 34, w ∈ lw_tbl) w h) ((by decide +kernel : ∀ w ∈ u_ws RX6 TX6 34, goodWord w = true) w h)
end
section
theorem ci_RX5_192 : Cond.constant RX5 192 1000000 ∈ TBg := tb_in (List.mem_of_getElem? (i := 611) (by decide +kernel)) (by decide +kernel)
theorem ci_RX5_269 : Cond.constant RX5 269 1103515245 ∈ TBg := tb_in (List.mem_of_getElem? (i := 758) (by decide +kernel)) (by decide +kernel)
theorem ci_RX1_119 : Cond.constant RX1 119 1000000 ∈ TBg := tb_in (List.mem_of_getElem? (i := 607) (by decide +kernel)) (by decide +kernel)
theorem ci_RX6_244 : Cond.constant RX6 244 1000000 ∈ TBg := tb_in (List.mem_of_getElem? (i := 1159) (by decide +kernel)) (by decide +kernel)
theorem ci_RX6_294 : Cond.constant RX6 294 1103515245 ∈ TBg := tb_in (List.mem_of_getElem? (i := 1260) (by decide +kernel)) (by decide +kernel)
theorem ci_RJ6_265 : Cond.constant RJ6 265 1431655765 ∈ TBg := tb_in (List.mem_of_getElem? (i := 746) (by decide +kernel)) (by decide +kernel)
theorem ci_RJ6_266 : Cond.constant RJ6 266 858993459 ∈ TBg := tb_in (List.mem_of_getElem? (i := 747) (by decide +kernel)) (by decide +kernel)
theorem ci_RJ6_267 : Cond.constant RJ6 267 252645135 ∈ TBg := tb_in (List.mem_of_getElem? (i := 748) (by decide +kernel)) (by decide +kernel)
theorem cl_RX5_214 : Cond.constantLong RX5 214 (-1) ∈ TBg := tb_in (List.mem_of_getElem? (i := 677) (by decide +kernel)) (by decide +kernel)
theorem cl_RX5_231 : Cond.constantLong RX5 231 10 ∈ TBg := tb_in (List.mem_of_getElem? (i := 690) (by decide +kernel)) (by decide +kernel)
theorem cl_RX6_67 : Cond.constantLong RX6 67 127 ∈ TBg := tb_in (List.mem_of_getElem? (i := 946) (by decide +kernel)) (by decide +kernel)
theorem cl_RX6_103 : Cond.constantLong RX6 103 97 ∈ TBg := tb_in (List.mem_of_getElem? (i := 966) (by decide +kernel)) (by decide +kernel)
theorem cl_RX6_105 : Cond.constantLong RX6 105 122 ∈ TBg := tb_in (List.mem_of_getElem? (i := 967) (by decide +kernel)) (by decide +kernel)
theorem cl_RX6_107 : Cond.constantLong RX6 107 48 ∈ TBg := tb_in (List.mem_of_getElem? (i := 968) (by decide +kernel)) (by decide +kernel)
theorem cl_RX6_109 : Cond.constantLong RX6 109 57 ∈ TBg := tb_in (List.mem_of_getElem? (i := 969) (by decide +kernel)) (by decide +kernel)
theorem cl_RX6_142 : Cond.constantLong RX6 142 4 ∈ TBg := tb_in (List.mem_of_getElem? (i := 1045) (by decide +kernel)) (by decide +kernel)
theorem cl_RX6_144 : Cond.constantLong RX6 144 99 ∈ TBg := tb_in (List.mem_of_getElem? (i := 1095) (by decide +kernel)) (by decide +kernel)
theorem cl_RX6_191 : Cond.constantLong RX6 191 3 ∈ TBg := tb_in (List.mem_of_getElem? (i := 1064) (by decide +kernel)) (by decide +kernel)
theorem cl_RX6_193 : Cond.constantLong RX6 193 9 ∈ TBg := tb_in (List.mem_of_getElem? (i := 1065) (by decide +kernel)) (by decide +kernel)
theorem cl_RX6_198 : Cond.constantLong RX6 198 8 ∈ TBg := tb_in (List.mem_of_getElem? (i := 1074) (by decide +kernel)) (by decide +kernel)
theorem cl_RX6_203 : Cond.constantLong RX6 203 30 ∈ TBg := tb_in (List.mem_of_getElem? (i := 1104) (by decide +kernel)) (by decide +kernel)
theorem cl_RX6_211 : Cond.constantLong RX6 211 60 ∈ TBg := tb_in (List.mem_of_getElem? (i := 1128) (by decide +kernel)) (by decide +kernel)
theorem cl_RX6_275 : Cond.constantLong RX6 275 10 ∈ TBg := tb_in (List.mem_of_getElem? (i := 1208) (by decide +kernel)) (by decide +kernel)
theorem cl_RX6_277 : Cond.constantLong RX6 277 (-1) ∈ TBg := tb_in (List.mem_of_getElem? (i := 1209) (by decide +kernel)) (by decide +kernel)
theorem cl_RX6_298 : Cond.constantLong RX6 298 2 ∈ TBg := tb_in (List.mem_of_getElem? (i := 1280) (by decide +kernel)) (by decide +kernel)
theorem cl_RX6_303 : Cond.constantLong RX6 303 20 ∈ TBg := tb_in (List.mem_of_getElem? (i := 1289) (by decide +kernel)) (by decide +kernel)
theorem fg_RX5_10 : FgX RX5 10 5 0 := ⟨RX5, TX5, 10, rfl, tw_X5, by decide, tb_in (List.mem_of_getElem? (i := 257) (by decide +kernel)) (by decide +kernel)⟩
theorem fg_RX5_16 : FgX RX5 16 5 1 := ⟨RX5, TX5, 10, rfl, tw_X5, by decide, tb_in (List.mem_of_getElem? (i := 258) (by decide +kernel)) (by decide +kernel)⟩
theorem fg_RX5_19 : FgX RX5 19 5 2 := ⟨RX5, TX5, 10, rfl, tw_X5, by decide, tb_in (List.mem_of_getElem? (i := 259) (by decide +kernel)) (by decide +kernel)⟩
theorem fg_RX5_23 : FgX RX5 23 5 3 := ⟨RX5, TX5, 10, rfl, tw_X5, by decide, tb_in (List.mem_of_getElem? (i := 260) (by decide +kernel)) (by decide +kernel)⟩
theorem fg_RX5_30 : FgX RX5 30 5 4 := ⟨RX5, TX5, 10, rfl, tw_X5, by decide, tb_in (List.mem_of_getElem? (i := 261) (by decide +kernel)) (by decide +kernel)⟩
theorem fg_RX5_36 : FgX RX5 36 5 5 := ⟨RX5, TX5, 10, rfl, tw_X5, by decide, tb_in (List.mem_of_getElem? (i := 262) (by decide +kernel)) (by decide +kernel)⟩
theorem fg_RX5_43 : FgX RX5 43 5 6 := ⟨RX5, TX5, 10, rfl, tw_X5, by decide, tb_in (List.mem_of_getElem? (i := 263) (by decide +kernel)) (by decide +kernel)⟩
theorem fg_RX5_49 : FgX RX5 49 5 7 := ⟨RX5, TX5, 10, rfl, tw_X5, by decide, tb_in (List.mem_of_getElem? (i := 264) (by decide +kernel)) (by decide +kernel)⟩
theorem fg_RX5_52 : FgX RX5 52 5 8 := ⟨RX5, TX5, 10, rfl, tw_X5, by decide, tb_in (List.mem_of_getElem? (i := 265) (by decide +kernel)) (by decide +kernel)⟩
theorem fg_RX5_79 : FgX RX5 79 3 3 := ⟨RX3, TX3, 12, rfl, tw_X3, by decide, tb_in (List.mem_of_getElem? (i := 184) (by decide +kernel)) (by decide +kernel)⟩
theorem fg_RX5_83 : FgX RX5 83 1 6 := ⟨RX1, TX1, 12, rfl, tw_X1, by decide, tb_in (List.mem_of_getElem? (i := 132) (by decide +kernel)) (by decide +kernel)⟩
theorem fg_RX5_86 : FgX RX5 86 1 11 := ⟨RX1, TX1, 12, rfl, tw_X1, by decide, tb_in (List.mem_of_getElem? (i := 146) (by decide +kernel)) (by decide +kernel)⟩
theorem fg_RX5_89 : FgX RX5 89 1 8 := ⟨RX1, TX1, 12, rfl, tw_X1, by decide, tb_in (List.mem_of_getElem? (i := 137) (by decide +kernel)) (by decide +kernel)⟩
theorem fg_RX5_92 : FgX RX5 92 1 9 := ⟨RX1, TX1, 12, rfl, tw_X1, by decide, tb_in (List.mem_of_getElem? (i := 140) (by decide +kernel)) (by decide +kernel)⟩
theorem fg_RX5_99 : FgX RX5 99 1 7 := ⟨RX1, TX1, 12, rfl, tw_X1, by decide, tb_in (List.mem_of_getElem? (i := 135) (by decide +kernel)) (by decide +kernel)⟩
theorem fg_RX5_102 : FgX RX5 102 1 10 := ⟨RX1, TX1, 12, rfl, tw_X1, by decide, tb_in (List.mem_of_getElem? (i := 143) (by decide +kernel)) (by decide +kernel)⟩
theorem fg_RX5_105 : FgX RX5 105 1 4 := ⟨RX1, TX1, 12, rfl, tw_X1, by decide, tb_in (List.mem_of_getElem? (i := 128) (by decide +kernel)) (by decide +kernel)⟩
theorem fg_RX5_109 : FgX RX5 109 2 2 := ⟨RX2, TX2, 3, rfl, tw_X2, by decide, tb_in (List.mem_of_getElem? (i := 106) (by decide +kernel)) (by decide +kernel)⟩
theorem fg_RX5_118 : FgX RX5 118 1 0 := ⟨RX1, TX1, 12, rfl, tw_X1, by decide, tb_in (List.mem_of_getElem? (i := 119) (by decide +kernel)) (by decide +kernel)⟩
theorem fg_RX5_121 : FgX RX5 121 1 1 := ⟨RX1, TX1, 12, rfl, tw_X1, by decide, tb_in (List.mem_of_getElem? (i := 121) (by decide +kernel)) (by decide +kernel)⟩
theorem fg_RX5_124 : FgX RX5 124 1 2 := ⟨RX1, TX1, 12, rfl, tw_X1, by decide, tb_in (List.mem_of_getElem? (i := 123) (by decide +kernel)) (by decide +kernel)⟩
theorem fg_RX5_136 : FgX RX5 136 1 3 := ⟨RX1, TX1, 12, rfl, tw_X1, by decide, tb_in (List.mem_of_getElem? (i := 125) (by decide +kernel)) (by decide +kernel)⟩
theorem fg_RX5_139 : FgX RX5 139 2 0 := ⟨RX2, TX2, 3, rfl, tw_X2, by decide, tb_in (List.mem_of_getElem? (i := 99) (by decide +kernel)) (by decide +kernel)⟩
theorem fg_RX5_142 : FgX RX5 142 2 1 := ⟨RX2, TX2, 3, rfl, tw_X2, by decide, tb_in (List.mem_of_getElem? (i := 102) (by decide +kernel)) (by decide +kernel)⟩
theorem fg_RX5_233 : FgX RX5 233 1 5 := ⟨RX1, TX1, 12, rfl, tw_X1, by decide, tb_in (List.mem_of_getElem? (i := 130) (by decide +kernel)) (by decide +kernel)⟩
theorem fg_RX5_279 : FgX RX5 279 4 1 := ⟨RX4, TX4, 3, rfl, tw_X4, by decide, tb_in (List.mem_of_getElem? (i := 247) (by decide +kernel)) (by decide +kernel)⟩
theorem fg_RX5_291 : FgX RX5 291 4 0 := ⟨RX4, TX4, 3, rfl, tw_X4, by decide, tb_in (List.mem_of_getElem? (i := 245) (by decide +kernel)) (by decide +kernel)⟩
theorem fg_RX5_294 : FgX RX5 294 5 9 := ⟨RX5, TX5, 10, rfl, tw_X5, by decide, tb_in (List.mem_of_getElem? (i := 266) (by decide +kernel)) (by decide +kernel)⟩
theorem fg_RX5_300 : FgX RX5 300 3 2 := ⟨RX3, TX3, 12, rfl, tw_X3, by decide, tb_in (List.mem_of_getElem? (i := 182) (by decide +kernel)) (by decide +kernel)⟩
theorem fg_RX5_306 : FgX RX5 306 4 2 := ⟨RX4, TX4, 3, rfl, tw_X4, by decide, tb_in (List.mem_of_getElem? (i := 249) (by decide +kernel)) (by decide +kernel)⟩
theorem fg_RX0_9 : FgX RX0 9 0 1 := ⟨RX0, TX0, 3, rfl, tw_X0, by decide, tb_in (List.mem_of_getElem? (i := 228) (by decide +kernel)) (by decide +kernel)⟩
theorem fg_RX0_15 : FgX RX0 15 0 2 := ⟨RX0, TX0, 3, rfl, tw_X0, by decide, tb_in (List.mem_of_getElem? (i := 229) (by decide +kernel)) (by decide +kernel)⟩
theorem fg_RX0_19 : FgX RX0 19 0 0 := ⟨RX0, TX0, 3, rfl, tw_X0, by decide, tb_in (List.mem_of_getElem? (i := 227) (by decide +kernel)) (by decide +kernel)⟩
theorem fg_RX1_9 : FgX RX1 9 1 0 := ⟨RX1, TX1, 12, rfl, tw_X1, by decide, tb_in (List.mem_of_getElem? (i := 118) (by decide +kernel)) (by decide +kernel)⟩
theorem fg_RX1_15 : FgX RX1 15 1 1 := ⟨RX1, TX1, 12, rfl, tw_X1, by decide, tb_in (List.mem_of_getElem? (i := 120) (by decide +kernel)) (by decide +kernel)⟩
theorem fg_RX1_18 : FgX RX1 18 1 2 := ⟨RX1, TX1, 12, rfl, tw_X1, by decide, tb_in (List.mem_of_getElem? (i := 122) (by decide +kernel)) (by decide +kernel)⟩
theorem fg_RX1_21 : FgX RX1 21 1 3 := ⟨RX1, TX1, 12, rfl, tw_X1, by decide, tb_in (List.mem_of_getElem? (i := 124) (by decide +kernel)) (by decide +kernel)⟩
theorem fg_RX1_29 : FgX RX1 29 1 4 := ⟨RX1, TX1, 12, rfl, tw_X1, by decide, tb_in (List.mem_of_getElem? (i := 127) (by decide +kernel)) (by decide +kernel)⟩
theorem fg_RX1_33 : FgX RX1 33 1 5 := ⟨RX1, TX1, 12, rfl, tw_X1, by decide, tb_in (List.mem_of_getElem? (i := 129) (by decide +kernel)) (by decide +kernel)⟩
theorem fg_RX1_36 : FgX RX1 36 1 10 := ⟨RX1, TX1, 12, rfl, tw_X1, by decide, tb_in (List.mem_of_getElem? (i := 142) (by decide +kernel)) (by decide +kernel)⟩
theorem fg_RX1_46 : FgX RX1 46 1 6 := ⟨RX1, TX1, 12, rfl, tw_X1, by decide, tb_in (List.mem_of_getElem? (i := 131) (by decide +kernel)) (by decide +kernel)⟩
theorem fg_RX1_49 : FgX RX1 49 1 7 := ⟨RX1, TX1, 12, rfl, tw_X1, by decide, tb_in (List.mem_of_getElem? (i := 134) (by decide +kernel)) (by decide +kernel)⟩
theorem fg_RX1_52 : FgX RX1 52 1 8 := ⟨RX1, TX1, 12, rfl, tw_X1, by decide, tb_in (List.mem_of_getElem? (i := 136) (by decide +kernel)) (by decide +kernel)⟩
theorem fg_RX1_55 : FgX RX1 55 1 9 := ⟨RX1, TX1, 12, rfl, tw_X1, by decide, tb_in (List.mem_of_getElem? (i := 139) (by decide +kernel)) (by decide +kernel)⟩
theorem fg_RX1_58 : FgX RX1 58 1 11 := ⟨RX1, TX1, 12, rfl, tw_X1, by decide, tb_in (List.mem_of_getElem? (i := 145) (by decide +kernel)) (by decide +kernel)⟩
theorem fg_RX1_61 : FgX RX1 61 2 2 := ⟨RX2, TX2, 3, rfl, tw_X2, by decide, tb_in (List.mem_of_getElem? (i := 105) (by decide +kernel)) (by decide +kernel)⟩
theorem fg_RX1_96 : FgX RX1 96 2 0 := ⟨RX2, TX2, 3, rfl, tw_X2, by decide, tb_in (List.mem_of_getElem? (i := 100) (by decide +kernel)) (by decide +kernel)⟩
theorem fg_RX1_99 : FgX RX1 99 2 1 := ⟨RX2, TX2, 3, rfl, tw_X2, by decide, tb_in (List.mem_of_getElem? (i := 103) (by decide +kernel)) (by decide +kernel)⟩
theorem fg_RX2_15 : FgX RX2 15 2 0 := ⟨RX2, TX2, 3, rfl, tw_X2, by decide, tb_in (List.mem_of_getElem? (i := 98) (by decide +kernel)) (by decide +kernel)⟩
theorem fg_RX2_21 : FgX RX2 21 2 1 := ⟨RX2, TX2, 3, rfl, tw_X2, by decide, tb_in (List.mem_of_getElem? (i := 101) (by decide +kernel)) (by decide +kernel)⟩
theorem fg_RX2_24 : FgX RX2 24 2 2 := ⟨RX2, TX2, 3, rfl, tw_X2, by decide, tb_in (List.mem_of_getElem? (i := 104) (by decide +kernel)) (by decide +kernel)⟩
theorem fg_RX3_9 : FgX RX3 9 3 0 := ⟨RX3, TX3, 12, rfl, tw_X3, by decide, tb_in (List.mem_of_getElem? (i := 179) (by decide +kernel)) (by decide +kernel)⟩
theorem fg_RX3_15 : FgX RX3 15 3 1 := ⟨RX3, TX3, 12, rfl, tw_X3, by decide, tb_in (List.mem_of_getElem? (i := 180) (by decide +kernel)) (by decide +kernel)⟩
theorem fg_RX3_18 : FgX RX3 18 3 2 := ⟨RX3, TX3, 12, rfl, tw_X3, by decide, tb_in (List.mem_of_getElem? (i := 181) (by decide +kernel)) (by decide +kernel)⟩
theorem fg_RX3_42 : FgX RX3 42 3 6 := ⟨RX3, TX3, 12, rfl, tw_X3, by decide, tb_in (List.mem_of_getElem? (i := 187) (by decide +kernel)) (by decide +kernel)⟩
theorem fg_RX3_55 : FgX RX3 55 3 5 := ⟨RX3, TX3, 12, rfl, tw_X3, by decide, tb_in (List.mem_of_getElem? (i := 186) (by decide +kernel)) (by decide +kernel)⟩
theorem fg_RX3_58 : FgX RX3 58 3 9 := ⟨RX3, TX3, 12, rfl, tw_X3, by decide, tb_in (List.mem_of_getElem? (i := 190) (by decide +kernel)) (by decide +kernel)⟩
theorem fg_RX3_61 : FgX RX3 61 3 10 := ⟨RX3, TX3, 12, rfl, tw_X3, by decide, tb_in (List.mem_of_getElem? (i := 191) (by decide +kernel)) (by decide +kernel)⟩
theorem fg_RX3_65 : FgX RX3 65 3 11 := ⟨RX3, TX3, 12, rfl, tw_X3, by decide, tb_in (List.mem_of_getElem? (i := 192) (by decide +kernel)) (by decide +kernel)⟩
theorem fg_RX3_72 : FgX RX3 72 3 7 := ⟨RX3, TX3, 12, rfl, tw_X3, by decide, tb_in (List.mem_of_getElem? (i := 188) (by decide +kernel)) (by decide +kernel)⟩
theorem fg_RX3_78 : FgX RX3 78 3 8 := ⟨RX3, TX3, 12, rfl, tw_X3, by decide, tb_in (List.mem_of_getElem? (i := 189) (by decide +kernel)) (by decide +kernel)⟩
theorem fg_RX3_132 : FgX RX3 132 1 6 := ⟨RX1, TX1, 12, rfl, tw_X1, by decide, tb_in (List.mem_of_getElem? (i := 133) (by decide +kernel)) (by decide +kernel)⟩
theorem fg_RX3_150 : FgX RX3 150 1 3 := ⟨RX1, TX1, 12, rfl, tw_X1, by decide, tb_in (List.mem_of_getElem? (i := 126) (by decide +kernel)) (by decide +kernel)⟩
theorem fg_RX4_9 : FgX RX4 9 4 0 := ⟨RX4, TX4, 3, rfl, tw_X4, by decide, tb_in (List.mem_of_getElem? (i := 244) (by decide +kernel)) (by decide +kernel)⟩
theorem fg_RX4_15 : FgX RX4 15 4 1 := ⟨RX4, TX4, 3, rfl, tw_X4, by decide, tb_in (List.mem_of_getElem? (i := 246) (by decide +kernel)) (by decide +kernel)⟩
theorem fg_RX4_19 : FgX RX4 19 4 2 := ⟨RX4, TX4, 3, rfl, tw_X4, by decide, tb_in (List.mem_of_getElem? (i := 248) (by decide +kernel)) (by decide +kernel)⟩
theorem fg_RX6_7 : FgX RX6 7 6 0 := ⟨RX6, TX6, 34, rfl, tw_X6, by decide, tb_in (List.mem_of_getElem? (i := 839) (by decide +kernel)) (by decide +kernel)⟩
theorem fg_RX6_13 : FgX RX6 13 6 1 := ⟨RX6, TX6, 34, rfl, tw_X6, by decide, tb_in (List.mem_of_getElem? (i := 840) (by decide +kernel)) (by decide +kernel)⟩
theorem fg_RX6_16 : FgX RX6 16 6 2 := ⟨RX6, TX6, 34, rfl, tw_X6, by decide, tb_in (List.mem_of_getElem? (i := 841) (by decide +kernel)) (by decide +kernel)⟩
theorem fg_RX6_20 : FgX RX6 20 6 4 := ⟨RX6, TX6, 34, rfl, tw_X6, by decide, tb_in (List.mem_of_getElem? (i := 843) (by decide +kernel)) (by decide +kernel)⟩
theorem fg_RX6_23 : FgX RX6 23 6 9 := ⟨RX6, TX6, 34, rfl, tw_X6, by decide, tb_in (List.mem_of_getElem? (i := 848) (by decide +kernel)) (by decide +kernel)⟩
theorem fg_RX6_26 : FgX RX6 26 6 27 := ⟨RX6, TX6, 34, rfl, tw_X6, by decide, tb_in (List.mem_of_getElem? (i := 866) (by decide +kernel)) (by decide +kernel)⟩
theorem fg_RX6_29 : FgX RX6 29 6 28 := ⟨RX6, TX6, 34, rfl, tw_X6, by decide, tb_in (List.mem_of_getElem? (i := 867) (by decide +kernel)) (by decide +kernel)⟩
theorem fg_RX6_32 : FgX RX6 32 6 29 := ⟨RX6, TX6, 34, rfl, tw_X6, by decide, tb_in (List.mem_of_getElem? (i := 868) (by decide +kernel)) (by decide +kernel)⟩
theorem fg_RX6_35 : FgX RX6 35 6 30 := ⟨RX6, TX6, 34, rfl, tw_X6, by decide, tb_in (List.mem_of_getElem? (i := 869) (by decide +kernel)) (by decide +kernel)⟩
theorem fg_RX6_38 : FgX RX6 38 6 31 := ⟨RX6, TX6, 34, rfl, tw_X6, by decide, tb_in (List.mem_of_getElem? (i := 870) (by decide +kernel)) (by decide +kernel)⟩
theorem fg_RX6_41 : FgX RX6 41 6 33 := ⟨RX6, TX6, 34, rfl, tw_X6, by decide, tb_in (List.mem_of_getElem? (i := 872) (by decide +kernel)) (by decide +kernel)⟩
theorem fg_RX6_50 : FgX RX6 50 6 5 := ⟨RX6, TX6, 34, rfl, tw_X6, by decide, tb_in (List.mem_of_getElem? (i := 844) (by decide +kernel)) (by decide +kernel)⟩
theorem fg_RX6_54 : FgX RX6 54 6 6 := ⟨RX6, TX6, 34, rfl, tw_X6, by decide, tb_in (List.mem_of_getElem? (i := 845) (by decide +kernel)) (by decide +kernel)⟩
theorem fg_RX6_57 : FgX RX6 57 6 7 := ⟨RX6, TX6, 34, rfl, tw_X6, by decide, tb_in (List.mem_of_getElem? (i := 846) (by decide +kernel)) (by decide +kernel)⟩
theorem fg_RX6_61 : FgX RX6 61 6 8 := ⟨RX6, TX6, 34, rfl, tw_X6, by decide, tb_in (List.mem_of_getElem? (i := 847) (by decide +kernel)) (by decide +kernel)⟩
theorem fg_RX6_64 : FgX RX6 64 6 3 := ⟨RX6, TX6, 34, rfl, tw_X6, by decide, tb_in (List.mem_of_getElem? (i := 842) (by decide +kernel)) (by decide +kernel)⟩
theorem fg_RX6_73 : FgX RX6 73 6 10 := ⟨RX6, TX6, 34, rfl, tw_X6, by decide, tb_in (List.mem_of_getElem? (i := 849) (by decide +kernel)) (by decide +kernel)⟩
theorem fg_RX6_76 : FgX RX6 76 6 15 := ⟨RX6, TX6, 34, rfl, tw_X6, by decide, tb_in (List.mem_of_getElem? (i := 854) (by decide +kernel)) (by decide +kernel)⟩
theorem fg_RX6_79 : FgX RX6 79 6 12 := ⟨RX6, TX6, 34, rfl, tw_X6, by decide, tb_in (List.mem_of_getElem? (i := 851) (by decide +kernel)) (by decide +kernel)⟩
theorem fg_RX6_82 : FgX RX6 82 6 16 := ⟨RX6, TX6, 34, rfl, tw_X6, by decide, tb_in (List.mem_of_getElem? (i := 855) (by decide +kernel)) (by decide +kernel)⟩
theorem fg_RX6_85 : FgX RX6 85 6 11 := ⟨RX6, TX6, 34, rfl, tw_X6, by decide, tb_in (List.mem_of_getElem? (i := 850) (by decide +kernel)) (by decide +kernel)⟩
theorem fg_RX6_100 : FgX RX6 100 6 13 := ⟨RX6, TX6, 34, rfl, tw_X6, by decide, tb_in (List.mem_of_getElem? (i := 852) (by decide +kernel)) (by decide +kernel)⟩
theorem fg_RX6_111 : FgX RX6 111 6 14 := ⟨RX6, TX6, 34, rfl, tw_X6, by decide, tb_in (List.mem_of_getElem? (i := 853) (by decide +kernel)) (by decide +kernel)⟩
theorem fg_RX6_146 : FgX RX6 146 6 17 := ⟨RX6, TX6, 34, rfl, tw_X6, by decide, tb_in (List.mem_of_getElem? (i := 856) (by decide +kernel)) (by decide +kernel)⟩
theorem fg_RX6_149 : FgX RX6 149 6 18 := ⟨RX6, TX6, 34, rfl, tw_X6, by decide, tb_in (List.mem_of_getElem? (i := 857) (by decide +kernel)) (by decide +kernel)⟩
theorem fg_RX6_166 : FgX RX6 166 6 19 := ⟨RX6, TX6, 34, rfl, tw_X6, by decide, tb_in (List.mem_of_getElem? (i := 858) (by decide +kernel)) (by decide +kernel)⟩
theorem fg_RX6_213 : FgX RX6 213 6 20 := ⟨RX6, TX6, 34, rfl, tw_X6, by decide, tb_in (List.mem_of_getElem? (i := 859) (by decide +kernel)) (by decide +kernel)⟩
theorem fg_RX6_216 : FgX RX6 216 6 21 := ⟨RX6, TX6, 34, rfl, tw_X6, by decide, tb_in (List.mem_of_getElem? (i := 860) (by decide +kernel)) (by decide +kernel)⟩
theorem fg_RX6_238 : FgX RX6 238 6 22 := ⟨RX6, TX6, 34, rfl, tw_X6, by decide, tb_in (List.mem_of_getElem? (i := 861) (by decide +kernel)) (by decide +kernel)⟩
theorem fg_RX6_241 : FgX RX6 241 6 23 := ⟨RX6, TX6, 34, rfl, tw_X6, by decide, tb_in (List.mem_of_getElem? (i := 862) (by decide +kernel)) (by decide +kernel)⟩
theorem fg_RX6_265 : FgX RX6 265 6 24 := ⟨RX6, TX6, 34, rfl, tw_X6, by decide, tb_in (List.mem_of_getElem? (i := 863) (by decide +kernel)) (by decide +kernel)⟩
theorem fg_RX6_269 : FgX RX6 269 6 25 := ⟨RX6, TX6, 34, rfl, tw_X6, by decide, tb_in (List.mem_of_getElem? (i := 864) (by decide +kernel)) (by decide +kernel)⟩
theorem fg_RX6_272 : FgX RX6 272 6 26 := ⟨RX6, TX6, 34, rfl, tw_X6, by decide, tb_in (List.mem_of_getElem? (i := 865) (by decide +kernel)) (by decide +kernel)⟩
theorem fg_RX6_308 : FgX RX6 308 6 32 := ⟨RX6, TX6, 34, rfl, tw_X6, by decide, tb_in (List.mem_of_getElem? (i := 871) (by decide +kernel)) (by decide +kernel)⟩
theorem fp_RX5_99 : FpX RX5 99 1 7 .int := ⟨RX1, TX1, 12, tyX1, rfl, tw_X1, by decide, tb_in (List.mem_of_getElem? (i := 135) (by decide +kernel)) (by decide +kernel), tyX1_ok, nmX1, rfl, by decide +kernel⟩
theorem fp_RX5_102 : FpX RX5 102 1 10 .int := ⟨RX1, TX1, 12, tyX1, rfl, tw_X1, by decide, tb_in (List.mem_of_getElem? (i := 143) (by decide +kernel)) (by decide +kernel), tyX1_ok, nmX1, rfl, by decide +kernel⟩
theorem fp_RX5_294 : FpX RX5 294 5 9 .int := ⟨RX5, TX5, 10, tyX5, rfl, tw_X5, by decide, tb_in (List.mem_of_getElem? (i := 266) (by decide +kernel)) (by decide +kernel), tyX5_ok, nmX5, rfl, by decide +kernel⟩
theorem fp_RX0_9 : FpX RX0 9 0 1 .int := ⟨RX0, TX0, 3, tyX0, rfl, tw_X0, by decide, tb_in (List.mem_of_getElem? (i := 228) (by decide +kernel)) (by decide +kernel), tyX0_ok, nmX0, rfl, by decide +kernel⟩
theorem fp_RX0_15 : FpX RX0 15 0 2 .boolean := ⟨RX0, TX0, 3, tyX0, rfl, tw_X0, by decide, tb_in (List.mem_of_getElem? (i := 229) (by decide +kernel)) (by decide +kernel), tyX0_ok, nmX0, rfl, by decide +kernel⟩
theorem fp_RX0_19 : FpX RX0 19 0 0 .int := ⟨RX0, TX0, 3, tyX0, rfl, tw_X0, by decide, tb_in (List.mem_of_getElem? (i := 227) (by decide +kernel)) (by decide +kernel), tyX0_ok, nmX0, rfl, by decide +kernel⟩
theorem fp_RX1_36 : FpX RX1 36 1 10 .int := ⟨RX1, TX1, 12, tyX1, rfl, tw_X1, by decide, tb_in (List.mem_of_getElem? (i := 142) (by decide +kernel)) (by decide +kernel), tyX1_ok, nmX1, rfl, by decide +kernel⟩
theorem fp_RX1_46 : FpX RX1 46 1 6 .int := ⟨RX1, TX1, 12, tyX1, rfl, tw_X1, by decide, tb_in (List.mem_of_getElem? (i := 131) (by decide +kernel)) (by decide +kernel), tyX1_ok, nmX1, rfl, by decide +kernel⟩
theorem fp_RX1_49 : FpX RX1 49 1 7 .int := ⟨RX1, TX1, 12, tyX1, rfl, tw_X1, by decide, tb_in (List.mem_of_getElem? (i := 134) (by decide +kernel)) (by decide +kernel), tyX1_ok, nmX1, rfl, by decide +kernel⟩
theorem fp_RX1_52 : FpX RX1 52 1 8 .int := ⟨RX1, TX1, 12, tyX1, rfl, tw_X1, by decide, tb_in (List.mem_of_getElem? (i := 136) (by decide +kernel)) (by decide +kernel), tyX1_ok, nmX1, rfl, by decide +kernel⟩
theorem fp_RX1_55 : FpX RX1 55 1 9 .int := ⟨RX1, TX1, 12, tyX1, rfl, tw_X1, by decide, tb_in (List.mem_of_getElem? (i := 139) (by decide +kernel)) (by decide +kernel), tyX1_ok, nmX1, rfl, by decide +kernel⟩
theorem fp_RX1_58 : FpX RX1 58 1 11 .int := ⟨RX1, TX1, 12, tyX1, rfl, tw_X1, by decide, tb_in (List.mem_of_getElem? (i := 145) (by decide +kernel)) (by decide +kernel), tyX1_ok, nmX1, rfl, by decide +kernel⟩
theorem fp_RX1_61 : FpX RX1 61 2 2 .int := ⟨RX2, TX2, 3, tyX2, rfl, tw_X2, by decide, tb_in (List.mem_of_getElem? (i := 105) (by decide +kernel)) (by decide +kernel), tyX2_ok, nmX2, rfl, by decide +kernel⟩
theorem fp_RX2_24 : FpX RX2 24 2 2 .int := ⟨RX2, TX2, 3, tyX2, rfl, tw_X2, by decide, tb_in (List.mem_of_getElem? (i := 104) (by decide +kernel)) (by decide +kernel), tyX2_ok, nmX2, rfl, by decide +kernel⟩
theorem fp_RX3_18 : FpX RX3 18 3 2 .int := ⟨RX3, TX3, 12, tyX3, rfl, tw_X3, by decide, tb_in (List.mem_of_getElem? (i := 181) (by decide +kernel)) (by decide +kernel), tyX3_ok, nmX3, rfl, by decide +kernel⟩
theorem fp_RX3_42 : FpX RX3 42 3 6 .int := ⟨RX3, TX3, 12, tyX3, rfl, tw_X3, by decide, tb_in (List.mem_of_getElem? (i := 187) (by decide +kernel)) (by decide +kernel), tyX3_ok, nmX3, rfl, by decide +kernel⟩
theorem fp_RX3_49 : FpX RX3 49 3 4 .int := ⟨RX3, TX3, 12, tyX3, rfl, tw_X3, by decide, tb_in (List.mem_of_getElem? (i := 185) (by decide +kernel)) (by decide +kernel), tyX3_ok, nmX3, rfl, by decide +kernel⟩
theorem fp_RX3_52 : FpX RX3 52 3 3 .int := ⟨RX3, TX3, 12, tyX3, rfl, tw_X3, by decide, tb_in (List.mem_of_getElem? (i := 183) (by decide +kernel)) (by decide +kernel), tyX3_ok, nmX3, rfl, by decide +kernel⟩
theorem fp_RX3_55 : FpX RX3 55 3 5 .int := ⟨RX3, TX3, 12, tyX3, rfl, tw_X3, by decide, tb_in (List.mem_of_getElem? (i := 186) (by decide +kernel)) (by decide +kernel), tyX3_ok, nmX3, rfl, by decide +kernel⟩
theorem fp_RX3_58 : FpX RX3 58 3 9 .int := ⟨RX3, TX3, 12, tyX3, rfl, tw_X3, by decide, tb_in (List.mem_of_getElem? (i := 190) (by decide +kernel)) (by decide +kernel), tyX3_ok, nmX3, rfl, by decide +kernel⟩
theorem fp_RX3_61 : FpX RX3 61 3 10 .boolean := ⟨RX3, TX3, 12, tyX3, rfl, tw_X3, by decide, tb_in (List.mem_of_getElem? (i := 191) (by decide +kernel)) (by decide +kernel), tyX3_ok, nmX3, rfl, by decide +kernel⟩
theorem fp_RX3_65 : FpX RX3 65 3 11 .boolean := ⟨RX3, TX3, 12, tyX3, rfl, tw_X3, by decide, tb_in (List.mem_of_getElem? (i := 192) (by decide +kernel)) (by decide +kernel), tyX3_ok, nmX3, rfl, by decide +kernel⟩
theorem fp_RX3_72 : FpX RX3 72 3 7 .int := ⟨RX3, TX3, 12, tyX3, rfl, tw_X3, by decide, tb_in (List.mem_of_getElem? (i := 188) (by decide +kernel)) (by decide +kernel), tyX3_ok, nmX3, rfl, by decide +kernel⟩
theorem fp_RX3_78 : FpX RX3 78 3 8 .int := ⟨RX3, TX3, 12, tyX3, rfl, tw_X3, by decide, tb_in (List.mem_of_getElem? (i := 189) (by decide +kernel)) (by decide +kernel), tyX3_ok, nmX3, rfl, by decide +kernel⟩
theorem fp_RX3_153 : FpX RX3 153 1 10 .int := ⟨RX1, TX1, 12, tyX1, rfl, tw_X1, by decide, tb_in (List.mem_of_getElem? (i := 144) (by decide +kernel)) (by decide +kernel), tyX1_ok, nmX1, rfl, by decide +kernel⟩
theorem fp_RX3_155 : FpX RX3 155 1 8 .int := ⟨RX1, TX1, 12, tyX1, rfl, tw_X1, by decide, tb_in (List.mem_of_getElem? (i := 138) (by decide +kernel)) (by decide +kernel), tyX1_ok, nmX1, rfl, by decide +kernel⟩
theorem fp_RX3_158 : FpX RX3 158 1 9 .int := ⟨RX1, TX1, 12, tyX1, rfl, tw_X1, by decide, tb_in (List.mem_of_getElem? (i := 141) (by decide +kernel)) (by decide +kernel), tyX1_ok, nmX1, rfl, by decide +kernel⟩
theorem fp_RX4_15 : FpX RX4 15 4 1 .int := ⟨RX4, TX4, 3, tyX4, rfl, tw_X4, by decide, tb_in (List.mem_of_getElem? (i := 246) (by decide +kernel)) (by decide +kernel), tyX4_ok, nmX4, rfl, by decide +kernel⟩
theorem fp_RX4_19 : FpX RX4 19 4 2 .int := ⟨RX4, TX4, 3, tyX4, rfl, tw_X4, by decide, tb_in (List.mem_of_getElem? (i := 248) (by decide +kernel)) (by decide +kernel), tyX4_ok, nmX4, rfl, by decide +kernel⟩
theorem fp_RX6_50 : FpX RX6 50 6 5 .int := ⟨RX6, TX6, 34, tyX6, rfl, tw_X6, by decide, tb_in (List.mem_of_getElem? (i := 844) (by decide +kernel)) (by decide +kernel), tyX6_ok, nmX6, rfl, by decide +kernel⟩
theorem fp_RX6_54 : FpX RX6 54 6 6 .int := ⟨RX6, TX6, 34, tyX6, rfl, tw_X6, by decide, tb_in (List.mem_of_getElem? (i := 845) (by decide +kernel)) (by decide +kernel), tyX6_ok, nmX6, rfl, by decide +kernel⟩
theorem fp_RX6_57 : FpX RX6 57 6 7 .boolean := ⟨RX6, TX6, 34, tyX6, rfl, tw_X6, by decide, tb_in (List.mem_of_getElem? (i := 846) (by decide +kernel)) (by decide +kernel), tyX6_ok, nmX6, rfl, by decide +kernel⟩
theorem fp_RX6_61 : FpX RX6 61 6 8 .boolean := ⟨RX6, TX6, 34, tyX6, rfl, tw_X6, by decide, tb_in (List.mem_of_getElem? (i := 847) (by decide +kernel)) (by decide +kernel), tyX6_ok, nmX6, rfl, by decide +kernel⟩
theorem fp_RX6_64 : FpX RX6 64 6 3 .int := ⟨RX6, TX6, 34, tyX6, rfl, tw_X6, by decide, tb_in (List.mem_of_getElem? (i := 842) (by decide +kernel)) (by decide +kernel), tyX6_ok, nmX6, rfl, by decide +kernel⟩
theorem fp_RX6_73 : FpX RX6 73 6 10 .int := ⟨RX6, TX6, 34, tyX6, rfl, tw_X6, by decide, tb_in (List.mem_of_getElem? (i := 849) (by decide +kernel)) (by decide +kernel), tyX6_ok, nmX6, rfl, by decide +kernel⟩
theorem fp_RX6_76 : FpX RX6 76 6 15 .int := ⟨RX6, TX6, 34, tyX6, rfl, tw_X6, by decide, tb_in (List.mem_of_getElem? (i := 854) (by decide +kernel)) (by decide +kernel), tyX6_ok, nmX6, rfl, by decide +kernel⟩
theorem fp_RX6_79 : FpX RX6 79 6 12 .int := ⟨RX6, TX6, 34, tyX6, rfl, tw_X6, by decide, tb_in (List.mem_of_getElem? (i := 851) (by decide +kernel)) (by decide +kernel), tyX6_ok, nmX6, rfl, by decide +kernel⟩
theorem fp_RX6_82 : FpX RX6 82 6 16 .int := ⟨RX6, TX6, 34, tyX6, rfl, tw_X6, by decide, tb_in (List.mem_of_getElem? (i := 855) (by decide +kernel)) (by decide +kernel), tyX6_ok, nmX6, rfl, by decide +kernel⟩
theorem fp_RX6_85 : FpX RX6 85 6 11 .int := ⟨RX6, TX6, 34, tyX6, rfl, tw_X6, by decide, tb_in (List.mem_of_getElem? (i := 850) (by decide +kernel)) (by decide +kernel), tyX6_ok, nmX6, rfl, by decide +kernel⟩
theorem fp_RX6_100 : FpX RX6 100 6 13 .int := ⟨RX6, TX6, 34, tyX6, rfl, tw_X6, by decide, tb_in (List.mem_of_getElem? (i := 852) (by decide +kernel)) (by decide +kernel), tyX6_ok, nmX6, rfl, by decide +kernel⟩
theorem fp_RX6_111 : FpX RX6 111 6 14 .int := ⟨RX6, TX6, 34, tyX6, rfl, tw_X6, by decide, tb_in (List.mem_of_getElem? (i := 853) (by decide +kernel)) (by decide +kernel), tyX6_ok, nmX6, rfl, by decide +kernel⟩
theorem fp_RX6_146 : FpX RX6 146 6 17 .int := ⟨RX6, TX6, 34, tyX6, rfl, tw_X6, by decide, tb_in (List.mem_of_getElem? (i := 856) (by decide +kernel)) (by decide +kernel), tyX6_ok, nmX6, rfl, by decide +kernel⟩
theorem fp_RX6_149 : FpX RX6 149 6 18 .int := ⟨RX6, TX6, 34, tyX6, rfl, tw_X6, by decide, tb_in (List.mem_of_getElem? (i := 857) (by decide +kernel)) (by decide +kernel), tyX6_ok, nmX6, rfl, by decide +kernel⟩
theorem fp_RX6_166 : FpX RX6 166 6 19 .int := ⟨RX6, TX6, 34, tyX6, rfl, tw_X6, by decide, tb_in (List.mem_of_getElem? (i := 858) (by decide +kernel)) (by decide +kernel), tyX6_ok, nmX6, rfl, by decide +kernel⟩
theorem fp_RX6_213 : FpX RX6 213 6 20 .int := ⟨RX6, TX6, 34, tyX6, rfl, tw_X6, by decide, tb_in (List.mem_of_getElem? (i := 859) (by decide +kernel)) (by decide +kernel), tyX6_ok, nmX6, rfl, by decide +kernel⟩
theorem fp_RX6_216 : FpX RX6 216 6 21 .int := ⟨RX6, TX6, 34, tyX6, rfl, tw_X6, by decide, tb_in (List.mem_of_getElem? (i := 860) (by decide +kernel)) (by decide +kernel), tyX6_ok, nmX6, rfl, by decide +kernel⟩
theorem fp_RX6_238 : FpX RX6 238 6 22 .int := ⟨RX6, TX6, 34, tyX6, rfl, tw_X6, by decide, tb_in (List.mem_of_getElem? (i := 861) (by decide +kernel)) (by decide +kernel), tyX6_ok, nmX6, rfl, by decide +kernel⟩
theorem fp_RX6_241 : FpX RX6 241 6 23 .int := ⟨RX6, TX6, 34, tyX6, rfl, tw_X6, by decide, tb_in (List.mem_of_getElem? (i := 862) (by decide +kernel)) (by decide +kernel), tyX6_ok, nmX6, rfl, by decide +kernel⟩
theorem fp_RX6_265 : FpX RX6 265 6 24 .long := ⟨RX6, TX6, 34, tyX6, rfl, tw_X6, by decide, tb_in (List.mem_of_getElem? (i := 863) (by decide +kernel)) (by decide +kernel), tyX6_ok, nmX6, rfl, by decide +kernel⟩
theorem fp_RX6_269 : FpX RX6 269 6 25 .long := ⟨RX6, TX6, 34, tyX6, rfl, tw_X6, by decide, tb_in (List.mem_of_getElem? (i := 864) (by decide +kernel)) (by decide +kernel), tyX6_ok, nmX6, rfl, by decide +kernel⟩
theorem fp_RX6_272 : FpX RX6 272 6 26 .long := ⟨RX6, TX6, 34, tyX6, rfl, tw_X6, by decide, tb_in (List.mem_of_getElem? (i := 865) (by decide +kernel)) (by decide +kernel), tyX6_ok, nmX6, rfl, by decide +kernel⟩
theorem fp_RX6_308 : FpX RX6 308 6 32 .int := ⟨RX6, TX6, 34, tyX6, rfl, tw_X6, by decide, tb_in (List.mem_of_getElem? (i := 871) (by decide +kernel)) (by decide +kernel), tyX6_ok, nmX6, rfl, by decide +kernel⟩
theorem lk_RX5_57 : LkS RX5 57 yX5_isIn cX5_isIn 3 (some .boolean) 3 := ⟨tb_in (List.mem_of_getElem? (i := 294) (by decide +kernel)) (by decide +kernel), tb_in (List.mem_of_getElem? (i := 292) (by decide +kernel)) (by decide +kernel), tb_in (List.mem_of_getElem? (i := 293) (by decide +kernel)) (by decide +kernel), tb_in (List.mem_of_getElem? (i := 61) (by decide +kernel)) (by decide +kernel), by decide +kernel, by decide +kernel, by decide +kernel⟩
theorem lk_RX5_61 : LkV RX5 61 yX3_append cX3_append 2 (some .int) 1 := ⟨tb_in (List.mem_of_getElem? (i := 298) (by decide +kernel)) (by decide +kernel), tb_in (List.mem_of_getElem? (i := 295) (by decide +kernel)) (by decide +kernel), tb_in (List.mem_of_getElem? (i := 296) (by decide +kernel)) (by decide +kernel), tb_in (List.mem_of_getElem? (i := 297) (by decide +kernel)) (by decide +kernel), tb_in (List.mem_of_getElem? (i := 66) (by decide +kernel)) (by decide +kernel), by decide +kernel, by decide +kernel, by decide +kernel⟩
theorem lk_RX5_65 : LkV RX5 65 yX3_keepFirst cX3_keepFirst 3 (some .int) 1 := ⟨tb_in (List.mem_of_getElem? (i := 310) (by decide +kernel)) (by decide +kernel), tb_in (List.mem_of_getElem? (i := 307) (by decide +kernel)) (by decide +kernel), tb_in (List.mem_of_getElem? (i := 308) (by decide +kernel)) (by decide +kernel), tb_in (List.mem_of_getElem? (i := 309) (by decide +kernel)) (by decide +kernel), tb_in (List.mem_of_getElem? (i := 66) (by decide +kernel)) (by decide +kernel), by decide +kernel, by decide +kernel, by decide +kernel⟩
theorem lk_RX5_72 : LkV RX5 72 yX1_copyFrom cX1_copyFrom 3 none 1 := ⟨tb_in (List.mem_of_getElem? (i := 450) (by decide +kernel)) (by decide +kernel), tb_in (List.mem_of_getElem? (i := 447) (by decide +kernel)) (by decide +kernel), tb_in (List.mem_of_getElem? (i := 448) (by decide +kernel)) (by decide +kernel), tb_in (List.mem_of_getElem? (i := 449) (by decide +kernel)) (by decide +kernel), tb_in (List.mem_of_getElem? (i := 62) (by decide +kernel)) (by decide +kernel), by decide +kernel, by decide +kernel, by decide +kernel⟩
theorem lk_RX5_95 : LkV RX5 95 yX1_lift cX1_lift 3 (some .int) 0 := ⟨tb_in (List.mem_of_getElem? (i := 471) (by decide +kernel)) (by decide +kernel), tb_in (List.mem_of_getElem? (i := 468) (by decide +kernel)) (by decide +kernel), tb_in (List.mem_of_getElem? (i := 469) (by decide +kernel)) (by decide +kernel), tb_in (List.mem_of_getElem? (i := 470) (by decide +kernel)) (by decide +kernel), tb_in (List.mem_of_getElem? (i := 62) (by decide +kernel)) (by decide +kernel), by decide +kernel, by decide +kernel, by decide +kernel⟩
theorem lk_RX5_114 : LkV RX5 114 yX1_hasThing cX1_hasThing 2 (some .boolean) 1 := ⟨tb_in (List.mem_of_getElem? (i := 494) (by decide +kernel)) (by decide +kernel), tb_in (List.mem_of_getElem? (i := 491) (by decide +kernel)) (by decide +kernel), tb_in (List.mem_of_getElem? (i := 492) (by decide +kernel)) (by decide +kernel), tb_in (List.mem_of_getElem? (i := 493) (by decide +kernel)) (by decide +kernel), tb_in (List.mem_of_getElem? (i := 62) (by decide +kernel)) (by decide +kernel), by decide +kernel, by decide +kernel, by decide +kernel⟩
theorem lk_RX5_127 : LkV RX5 127 yX1_isSaid cX1_isSaid 2 (some .boolean) 1 := ⟨tb_in (List.mem_of_getElem? (i := 479) (by decide +kernel)) (by decide +kernel), tb_in (List.mem_of_getElem? (i := 496) (by decide +kernel)) (by decide +kernel), tb_in (List.mem_of_getElem? (i := 477) (by decide +kernel)) (by decide +kernel), tb_in (List.mem_of_getElem? (i := 478) (by decide +kernel)) (by decide +kernel), tb_in (List.mem_of_getElem? (i := 62) (by decide +kernel)) (by decide +kernel), by decide +kernel, by decide +kernel, by decide +kernel⟩
theorem lk_RX5_130 : LkV RX5 130 yX1_liftOf cX1_liftOf 3 (some .int) 1 := ⟨tb_in (List.mem_of_getElem? (i := 475) (by decide +kernel)) (by decide +kernel), tb_in (List.mem_of_getElem? (i := 497) (by decide +kernel)) (by decide +kernel), tb_in (List.mem_of_getElem? (i := 473) (by decide +kernel)) (by decide +kernel), tb_in (List.mem_of_getElem? (i := 474) (by decide +kernel)) (by decide +kernel), tb_in (List.mem_of_getElem? (i := 62) (by decide +kernel)) (by decide +kernel), by decide +kernel, by decide +kernel, by decide +kernel⟩
theorem lk_RX5_133 : LkS RX5 133 yX5_isWind cX5_isWind 1 (some .boolean) 1 := ⟨tb_in (List.mem_of_getElem? (i := 504) (by decide +kernel)) (by decide +kernel), tb_in (List.mem_of_getElem? (i := 502) (by decide +kernel)) (by decide +kernel), tb_in (List.mem_of_getElem? (i := 503) (by decide +kernel)) (by decide +kernel), tb_in (List.mem_of_getElem? (i := 61) (by decide +kernel)) (by decide +kernel), by decide +kernel, by decide +kernel, by decide +kernel⟩
theorem lk_RX5_145 : LkS RX5 145 yX5_leastOf cX5_leastOf 1 (some .int) 1 := ⟨tb_in (List.mem_of_getElem? (i := 419) (by decide +kernel)) (by decide +kernel), tb_in (List.mem_of_getElem? (i := 513) (by decide +kernel)) (by decide +kernel), tb_in (List.mem_of_getElem? (i := 418) (by decide +kernel)) (by decide +kernel), tb_in (List.mem_of_getElem? (i := 61) (by decide +kernel)) (by decide +kernel), by decide +kernel, by decide +kernel, by decide +kernel⟩
theorem lk_RX5_148 : LkS RX5 148 yX5_greatestOf cX5_greatestOf 1 (some .int) 1 := ⟨tb_in (List.mem_of_getElem? (i := 422) (by decide +kernel)) (by decide +kernel), tb_in (List.mem_of_getElem? (i := 514) (by decide +kernel)) (by decide +kernel), tb_in (List.mem_of_getElem? (i := 421) (by decide +kernel)) (by decide +kernel), tb_in (List.mem_of_getElem? (i := 61) (by decide +kernel)) (by decide +kernel), by decide +kernel, by decide +kernel, by decide +kernel⟩
theorem lk_RX5_151 : LkV RX5 151 yX1_rowOf cX1_rowOf 2 (some (.array .int)) 1 := ⟨tb_in (List.mem_of_getElem? (i := 518) (by decide +kernel)) (by decide +kernel), tb_in (List.mem_of_getElem? (i := 515) (by decide +kernel)) (by decide +kernel), tb_in (List.mem_of_getElem? (i := 516) (by decide +kernel)) (by decide +kernel), tb_in (List.mem_of_getElem? (i := 517) (by decide +kernel)) (by decide +kernel), tb_in (List.mem_of_getElem? (i := 62) (by decide +kernel)) (by decide +kernel), by decide +kernel, by decide +kernel, by decide +kernel⟩
theorem lk_RX5_155 : LkV RX5 155 yX1_setSaid cX1_setSaid 3 none 2 := ⟨tb_in (List.mem_of_getElem? (i := 534) (by decide +kernel)) (by decide +kernel), tb_in (List.mem_of_getElem? (i := 531) (by decide +kernel)) (by decide +kernel), tb_in (List.mem_of_getElem? (i := 532) (by decide +kernel)) (by decide +kernel), tb_in (List.mem_of_getElem? (i := 533) (by decide +kernel)) (by decide +kernel), tb_in (List.mem_of_getElem? (i := 62) (by decide +kernel)) (by decide +kernel), by decide +kernel, by decide +kernel, by decide +kernel⟩
theorem lk_RX5_159 : LkV RX5 159 yX1_addSaying cX1_addSaying 3 (some .int) 2 := ⟨tb_in (List.mem_of_getElem? (i := 546) (by decide +kernel)) (by decide +kernel), tb_in (List.mem_of_getElem? (i := 543) (by decide +kernel)) (by decide +kernel), tb_in (List.mem_of_getElem? (i := 544) (by decide +kernel)) (by decide +kernel), tb_in (List.mem_of_getElem? (i := 545) (by decide +kernel)) (by decide +kernel), tb_in (List.mem_of_getElem? (i := 62) (by decide +kernel)) (by decide +kernel), by decide +kernel, by decide +kernel, by decide +kernel⟩
theorem lk_RX5_163 : LkV RX5 163 yX2_keepFirst cX2_keepFirst 3 (some .int) 1 := ⟨tb_in (List.mem_of_getElem? (i := 559) (by decide +kernel)) (by decide +kernel), tb_in (List.mem_of_getElem? (i := 556) (by decide +kernel)) (by decide +kernel), tb_in (List.mem_of_getElem? (i := 557) (by decide +kernel)) (by decide +kernel), tb_in (List.mem_of_getElem? (i := 558) (by decide +kernel)) (by decide +kernel), tb_in (List.mem_of_getElem? (i := 63) (by decide +kernel)) (by decide +kernel), by decide +kernel, by decide +kernel, by decide +kernel⟩
theorem lk_RX5_164 : LkV RX5 164 yX1_passAll cX1_passAll 3 none 1 := ⟨tb_in (List.mem_of_getElem? (i := 568) (by decide +kernel)) (by decide +kernel), tb_in (List.mem_of_getElem? (i := 565) (by decide +kernel)) (by decide +kernel), tb_in (List.mem_of_getElem? (i := 566) (by decide +kernel)) (by decide +kernel), tb_in (List.mem_of_getElem? (i := 567) (by decide +kernel)) (by decide +kernel), tb_in (List.mem_of_getElem? (i := 62) (by decide +kernel)) (by decide +kernel), by decide +kernel, by decide +kernel, by decide +kernel⟩
theorem lk_RX5_168 : LkS RX5 168 yX5_isForecast cX5_isForecast 1 (some .boolean) 1 := ⟨tb_in (List.mem_of_getElem? (i := 585) (by decide +kernel)) (by decide +kernel), tb_in (List.mem_of_getElem? (i := 583) (by decide +kernel)) (by decide +kernel), tb_in (List.mem_of_getElem? (i := 584) (by decide +kernel)) (by decide +kernel), tb_in (List.mem_of_getElem? (i := 61) (by decide +kernel)) (by decide +kernel), by decide +kernel, by decide +kernel, by decide +kernel⟩
theorem lk_RX5_171 : LkV RX5 171 yX5_restartTrial cX5_restartTrial 1 none 0 := ⟨tb_in (List.mem_of_getElem? (i := 589) (by decide +kernel)) (by decide +kernel), tb_in (List.mem_of_getElem? (i := 586) (by decide +kernel)) (by decide +kernel), tb_in (List.mem_of_getElem? (i := 588) (by decide +kernel)) (by decide +kernel), tb_in (List.mem_of_getElem? (i := 15) (by decide +kernel)) (by decide +kernel), tb_in (List.mem_of_getElem? (i := 61) (by decide +kernel)) (by decide +kernel), by decide +kernel, by decide +kernel, by decide +kernel⟩
theorem lk_RX5_174 : LkV RX5 174 yX1_greatestHeight cX1_greatestHeight 4 (some .int) 1 := ⟨tb_in (List.mem_of_getElem? (i := 593) (by decide +kernel)) (by decide +kernel), tb_in (List.mem_of_getElem? (i := 590) (by decide +kernel)) (by decide +kernel), tb_in (List.mem_of_getElem? (i := 591) (by decide +kernel)) (by decide +kernel), tb_in (List.mem_of_getElem? (i := 592) (by decide +kernel)) (by decide +kernel), tb_in (List.mem_of_getElem? (i := 62) (by decide +kernel)) (by decide +kernel), by decide +kernel, by decide +kernel, by decide +kernel⟩
theorem lk_RX5_177 : LkV RX5 177 yX1_timesDown cX1_timesDown 4 (some .int) 1 := ⟨tb_in (List.mem_of_getElem? (i := 598) (by decide +kernel)) (by decide +kernel), tb_in (List.mem_of_getElem? (i := 595) (by decide +kernel)) (by decide +kernel), tb_in (List.mem_of_getElem? (i := 596) (by decide +kernel)) (by decide +kernel), tb_in (List.mem_of_getElem? (i := 597) (by decide +kernel)) (by decide +kernel), tb_in (List.mem_of_getElem? (i := 62) (by decide +kernel)) (by decide +kernel), by decide +kernel, by decide +kernel, by decide +kernel⟩
theorem lk_RX5_180 : LkV RX5 180 yX1_firstDown cX1_firstDown 2 (some .int) 0 := ⟨tb_in (List.mem_of_getElem? (i := 606) (by decide +kernel)) (by decide +kernel), tb_in (List.mem_of_getElem? (i := 603) (by decide +kernel)) (by decide +kernel), tb_in (List.mem_of_getElem? (i := 604) (by decide +kernel)) (by decide +kernel), tb_in (List.mem_of_getElem? (i := 605) (by decide +kernel)) (by decide +kernel), tb_in (List.mem_of_getElem? (i := 62) (by decide +kernel)) (by decide +kernel), by decide +kernel, by decide +kernel, by decide +kernel⟩
theorem lk_RX5_183 : LkS RX5 183 yX5_orNone cX5_orNone 1 (some .int) 1 := ⟨tb_in (List.mem_of_getElem? (i := 610) (by decide +kernel)) (by decide +kernel), tb_in (List.mem_of_getElem? (i := 608) (by decide +kernel)) (by decide +kernel), tb_in (List.mem_of_getElem? (i := 609) (by decide +kernel)) (by decide +kernel), tb_in (List.mem_of_getElem? (i := 61) (by decide +kernel)) (by decide +kernel), by decide +kernel, by decide +kernel, by decide +kernel⟩
theorem lk_RX5_186 : LkS RX5 186 yX5_isPlace cX5_isPlace 1 (some .boolean) 1 := ⟨tb_in (List.mem_of_getElem? (i := 618) (by decide +kernel)) (by decide +kernel), tb_in (List.mem_of_getElem? (i := 616) (by decide +kernel)) (by decide +kernel), tb_in (List.mem_of_getElem? (i := 617) (by decide +kernel)) (by decide +kernel), tb_in (List.mem_of_getElem? (i := 61) (by decide +kernel)) (by decide +kernel), by decide +kernel, by decide +kernel, by decide +kernel⟩
theorem lk_RX5_189 : LkV RX5 189 yX1_firstDownAt cX1_firstDownAt 3 (some .int) 1 := ⟨tb_in (List.mem_of_getElem? (i := 622) (by decide +kernel)) (by decide +kernel), tb_in (List.mem_of_getElem? (i := 619) (by decide +kernel)) (by decide +kernel), tb_in (List.mem_of_getElem? (i := 620) (by decide +kernel)) (by decide +kernel), tb_in (List.mem_of_getElem? (i := 621) (by decide +kernel)) (by decide +kernel), tb_in (List.mem_of_getElem? (i := 62) (by decide +kernel)) (by decide +kernel), by decide +kernel, by decide +kernel, by decide +kernel⟩
theorem lk_RX5_193 : LkV RX5 193 yX0_beginBelow cX0_beginBelow 2 none 1 := ⟨tb_in (List.mem_of_getElem? (i := 630) (by decide +kernel)) (by decide +kernel), tb_in (List.mem_of_getElem? (i := 627) (by decide +kernel)) (by decide +kernel), tb_in (List.mem_of_getElem? (i := 628) (by decide +kernel)) (by decide +kernel), tb_in (List.mem_of_getElem? (i := 629) (by decide +kernel)) (by decide +kernel), tb_in (List.mem_of_getElem? (i := 67) (by decide +kernel)) (by decide +kernel), by decide +kernel, by decide +kernel, by decide +kernel⟩
theorem lk_RX5_196 : LkV RX5 196 yX0_offer cX0_offer 3 none 2 := ⟨tb_in (List.mem_of_getElem? (i := 634) (by decide +kernel)) (by decide +kernel), tb_in (List.mem_of_getElem? (i := 631) (by decide +kernel)) (by decide +kernel), tb_in (List.mem_of_getElem? (i := 632) (by decide +kernel)) (by decide +kernel), tb_in (List.mem_of_getElem? (i := 633) (by decide +kernel)) (by decide +kernel), tb_in (List.mem_of_getElem? (i := 67) (by decide +kernel)) (by decide +kernel), by decide +kernel, by decide +kernel, by decide +kernel⟩
theorem lk_RX5_200 : LkV RX5 200 yX0_answer cX0_answer 2 (some .int) 1 := ⟨tb_in (List.mem_of_getElem? (i := 638) (by decide +kernel)) (by decide +kernel), tb_in (List.mem_of_getElem? (i := 635) (by decide +kernel)) (by decide +kernel), tb_in (List.mem_of_getElem? (i := 636) (by decide +kernel)) (by decide +kernel), tb_in (List.mem_of_getElem? (i := 637) (by decide +kernel)) (by decide +kernel), tb_in (List.mem_of_getElem? (i := 67) (by decide +kernel)) (by decide +kernel), by decide +kernel, by decide +kernel, by decide +kernel⟩
theorem lk_RX5_203 : LkS RX5 203 Lib.Math.min.name Lib.Math.min.code 2 (some .int) 2 := ⟨tb_in (List.mem_of_getElem? (i := 485) (by decide +kernel)) (by decide +kernel), tb_in (List.mem_of_getElem? (i := 483) (by decide +kernel)) (by decide +kernel), tb_in (List.mem_of_getElem? (i := 484) (by decide +kernel)) (by decide +kernel), tb_in (List.mem_of_getElem? (i := 64) (by decide +kernel)) (by decide +kernel), by decide +kernel, by decide +kernel, by decide +kernel⟩
theorem lk_RX5_208 : LkV RX5 208 yX1_offFrom cX1_offFrom 2 (some .int) 1 := ⟨tb_in (List.mem_of_getElem? (i := 650) (by decide +kernel)) (by decide +kernel), tb_in (List.mem_of_getElem? (i := 647) (by decide +kernel)) (by decide +kernel), tb_in (List.mem_of_getElem? (i := 648) (by decide +kernel)) (by decide +kernel), tb_in (List.mem_of_getElem? (i := 649) (by decide +kernel)) (by decide +kernel), tb_in (List.mem_of_getElem? (i := 62) (by decide +kernel)) (by decide +kernel), by decide +kernel, by decide +kernel, by decide +kernel⟩
theorem lk_RX5_211 : LkS RX5 211 yX5_isHeight cX5_isHeight 1 (some .boolean) 1 := ⟨tb_in (List.mem_of_getElem? (i := 672) (by decide +kernel)) (by decide +kernel), tb_in (List.mem_of_getElem? (i := 670) (by decide +kernel)) (by decide +kernel), tb_in (List.mem_of_getElem? (i := 671) (by decide +kernel)) (by decide +kernel), tb_in (List.mem_of_getElem? (i := 61) (by decide +kernel)) (by decide +kernel), by decide +kernel, by decide +kernel, by decide +kernel⟩
theorem lk_RX5_216 : LkV RX5 216 yX5_oddsThatFail cX5_oddsThatFail 6 (some .long) 2 := ⟨tb_in (List.mem_of_getElem? (i := 681) (by decide +kernel)) (by decide +kernel), tb_in (List.mem_of_getElem? (i := 678) (by decide +kernel)) (by decide +kernel), tb_in (List.mem_of_getElem? (i := 680) (by decide +kernel)) (by decide +kernel), tb_in (List.mem_of_getElem? (i := 16) (by decide +kernel)) (by decide +kernel), tb_in (List.mem_of_getElem? (i := 61) (by decide +kernel)) (by decide +kernel), by decide +kernel, by decide +kernel, by decide +kernel⟩
theorem lk_RX5_220 : LkV RX5 220 yX5_tryWithout cX5_tryWithout 4 none 2 := ⟨tb_in (List.mem_of_getElem? (i := 685) (by decide +kernel)) (by decide +kernel), tb_in (List.mem_of_getElem? (i := 682) (by decide +kernel)) (by decide +kernel), tb_in (List.mem_of_getElem? (i := 684) (by decide +kernel)) (by decide +kernel), tb_in (List.mem_of_getElem? (i := 17) (by decide +kernel)) (by decide +kernel), tb_in (List.mem_of_getElem? (i := 61) (by decide +kernel)) (by decide +kernel), by decide +kernel, by decide +kernel, by decide +kernel⟩
theorem lk_RX5_223 : LkV RX5 223 yX5_allOdds cX5_allOdds 4 (some .long) 0 := ⟨tb_in (List.mem_of_getElem? (i := 689) (by decide +kernel)) (by decide +kernel), tb_in (List.mem_of_getElem? (i := 686) (by decide +kernel)) (by decide +kernel), tb_in (List.mem_of_getElem? (i := 688) (by decide +kernel)) (by decide +kernel), tb_in (List.mem_of_getElem? (i := 18) (by decide +kernel)) (by decide +kernel), tb_in (List.mem_of_getElem? (i := 61) (by decide +kernel)) (by decide +kernel), by decide +kernel, by decide +kernel, by decide +kernel⟩
theorem lk_RX5_227 : LkS RX5 227 yX5_inLowestTerms cX5_inLowestTerms 9 (some .long) 3 := ⟨tb_in (List.mem_of_getElem? (i := 693) (by decide +kernel)) (by decide +kernel), tb_in (List.mem_of_getElem? (i := 691) (by decide +kernel)) (by decide +kernel), tb_in (List.mem_of_getElem? (i := 692) (by decide +kernel)) (by decide +kernel), tb_in (List.mem_of_getElem? (i := 61) (by decide +kernel)) (by decide +kernel), by decide +kernel, by decide +kernel, by decide +kernel⟩
theorem lk_RX5_236 : LkV RX5 236 yX2_add cX2_add 3 (some .int) 2 := ⟨tb_in (List.mem_of_getElem? (i := 551) (by decide +kernel)) (by decide +kernel), tb_in (List.mem_of_getElem? (i := 705) (by decide +kernel)) (by decide +kernel), tb_in (List.mem_of_getElem? (i := 549) (by decide +kernel)) (by decide +kernel), tb_in (List.mem_of_getElem? (i := 550) (by decide +kernel)) (by decide +kernel), tb_in (List.mem_of_getElem? (i := 63) (by decide +kernel)) (by decide +kernel), by decide +kernel, by decide +kernel, by decide +kernel⟩
theorem lk_RX5_239 : LkV RX5 239 yX5_valuesAsSeen cX5_valuesAsSeen 5 (some .int) 2 := ⟨tb_in (List.mem_of_getElem? (i := 717) (by decide +kernel)) (by decide +kernel), tb_in (List.mem_of_getElem? (i := 714) (by decide +kernel)) (by decide +kernel), tb_in (List.mem_of_getElem? (i := 716) (by decide +kernel)) (by decide +kernel), tb_in (List.mem_of_getElem? (i := 19) (by decide +kernel)) (by decide +kernel), tb_in (List.mem_of_getElem? (i := 61) (by decide +kernel)) (by decide +kernel), by decide +kernel, by decide +kernel, by decide +kernel⟩
theorem lk_RX5_242 : LkV RX5 242 yX1_goesAsSeen cX1_goesAsSeen 2 (some .boolean) 0 := ⟨tb_in (List.mem_of_getElem? (i := 721) (by decide +kernel)) (by decide +kernel), tb_in (List.mem_of_getElem? (i := 718) (by decide +kernel)) (by decide +kernel), tb_in (List.mem_of_getElem? (i := 719) (by decide +kernel)) (by decide +kernel), tb_in (List.mem_of_getElem? (i := 720) (by decide +kernel)) (by decide +kernel), tb_in (List.mem_of_getElem? (i := 62) (by decide +kernel)) (by decide +kernel), by decide +kernel, by decide +kernel, by decide +kernel⟩
theorem lk_RX5_246 : LkV RX5 246 yX5_foreseeHeightsByWeight cX5_foreseeHeightsByWeight 4 none 1 := ⟨tb_in (List.mem_of_getElem? (i := 741) (by decide +kernel)) (by decide +kernel), tb_in (List.mem_of_getElem? (i := 738) (by decide +kernel)) (by decide +kernel), tb_in (List.mem_of_getElem? (i := 740) (by decide +kernel)) (by decide +kernel), tb_in (List.mem_of_getElem? (i := 20) (by decide +kernel)) (by decide +kernel), tb_in (List.mem_of_getElem? (i := 61) (by decide +kernel)) (by decide +kernel), by decide +kernel, by decide +kernel, by decide +kernel⟩
theorem lk_RX5_249 : LkS RX5 249 yJ6_bitCount_0f7a4 cJ6_bitCount_0f7a4 1 (some .int) 1 := ⟨tb_in (List.mem_of_getElem? (i := 745) (by decide +kernel)) (by decide +kernel), tb_in (List.mem_of_getElem? (i := 743) (by decide +kernel)) (by decide +kernel), tb_in (List.mem_of_getElem? (i := 744) (by decide +kernel)) (by decide +kernel), tb_in (List.mem_of_getElem? (i := 74) (by decide +kernel)) (by decide +kernel), by decide +kernel, by decide +kernel, by decide +kernel⟩
theorem lk_RX5_254 : LkV RX5 254 yX5_mostLeftByLooking cX5_mostLeftByLooking 6 (some .int) 2 := ⟨tb_in (List.mem_of_getElem? (i := 752) (by decide +kernel)) (by decide +kernel), tb_in (List.mem_of_getElem? (i := 749) (by decide +kernel)) (by decide +kernel), tb_in (List.mem_of_getElem? (i := 751) (by decide +kernel)) (by decide +kernel), tb_in (List.mem_of_getElem? (i := 21) (by decide +kernel)) (by decide +kernel), tb_in (List.mem_of_getElem? (i := 61) (by decide +kernel)) (by decide +kernel), by decide +kernel, by decide +kernel, by decide +kernel⟩
theorem lk_RX5_257 : LkV RX5 257 yX1_pass cX1_pass 2 none 0 := ⟨tb_in (List.mem_of_getElem? (i := 572) (by decide +kernel)) (by decide +kernel), tb_in (List.mem_of_getElem? (i := 742) (by decide +kernel)) (by decide +kernel), tb_in (List.mem_of_getElem? (i := 570) (by decide +kernel)) (by decide +kernel), tb_in (List.mem_of_getElem? (i := 571) (by decide +kernel)) (by decide +kernel), tb_in (List.mem_of_getElem? (i := 62) (by decide +kernel)) (by decide +kernel), by decide +kernel, by decide +kernel, by decide +kernel⟩
theorem lk_RX5_260 : LkS RX5 260 yJ7_fill_53178 cJ7_fill_53178 4 none 2 := ⟨tb_in (List.mem_of_getElem? (i := 117) (by decide +kernel)) (by decide +kernel), tb_in (List.mem_of_getElem? (i := 753) (by decide +kernel)) (by decide +kernel), tb_in (List.mem_of_getElem? (i := 116) (by decide +kernel)) (by decide +kernel), tb_in (List.mem_of_getElem? (i := 65) (by decide +kernel)) (by decide +kernel), by decide +kernel, by decide +kernel, by decide +kernel⟩
theorem lk_RX5_266 : LkS RX5 266 Lib.Math.max.name Lib.Math.max.code 2 (some .int) 2 := ⟨tb_in (List.mem_of_getElem? (i := 97) (by decide +kernel)) (by decide +kernel), tb_in (List.mem_of_getElem? (i := 486) (by decide +kernel)) (by decide +kernel), tb_in (List.mem_of_getElem? (i := 96) (by decide +kernel)) (by decide +kernel), tb_in (List.mem_of_getElem? (i := 64) (by decide +kernel)) (by decide +kernel), by decide +kernel, by decide +kernel, by decide +kernel⟩
theorem lk_RX5_270 : LkS RX5 270 yX5_isSheet cX5_isSheet 1 (some .boolean) 1 := ⟨tb_in (List.mem_of_getElem? (i := 773) (by decide +kernel)) (by decide +kernel), tb_in (List.mem_of_getElem? (i := 771) (by decide +kernel)) (by decide +kernel), tb_in (List.mem_of_getElem? (i := 772) (by decide +kernel)) (by decide +kernel), tb_in (List.mem_of_getElem? (i := 61) (by decide +kernel)) (by decide +kernel), by decide +kernel, by decide +kernel, by decide +kernel⟩
theorem lk_RX5_273 : LkS RX5 273 yX5_isLane cX5_isLane 1 (some .boolean) 1 := ⟨tb_in (List.mem_of_getElem? (i := 776) (by decide +kernel)) (by decide +kernel), tb_in (List.mem_of_getElem? (i := 774) (by decide +kernel)) (by decide +kernel), tb_in (List.mem_of_getElem? (i := 775) (by decide +kernel)) (by decide +kernel), tb_in (List.mem_of_getElem? (i := 61) (by decide +kernel)) (by decide +kernel), by decide +kernel, by decide +kernel, by decide +kernel⟩
theorem lk_RX5_276 : LkV RX5 276 yX4_renew cX4_renew 3 none 2 := ⟨tb_in (List.mem_of_getElem? (i := 780) (by decide +kernel)) (by decide +kernel), tb_in (List.mem_of_getElem? (i := 777) (by decide +kernel)) (by decide +kernel), tb_in (List.mem_of_getElem? (i := 778) (by decide +kernel)) (by decide +kernel), tb_in (List.mem_of_getElem? (i := 779) (by decide +kernel)) (by decide +kernel), tb_in (List.mem_of_getElem? (i := 68) (by decide +kernel)) (by decide +kernel), by decide +kernel, by decide +kernel, by decide +kernel⟩
theorem lk_RX5_282 : LkV RX5 282 yX4_faultAs cX4_faultAs 3 (some .int) 2 := ⟨tb_in (List.mem_of_getElem? (i := 789) (by decide +kernel)) (by decide +kernel), tb_in (List.mem_of_getElem? (i := 786) (by decide +kernel)) (by decide +kernel), tb_in (List.mem_of_getElem? (i := 787) (by decide +kernel)) (by decide +kernel), tb_in (List.mem_of_getElem? (i := 788) (by decide +kernel)) (by decide +kernel), tb_in (List.mem_of_getElem? (i := 68) (by decide +kernel)) (by decide +kernel), by decide +kernel, by decide +kernel, by decide +kernel⟩
theorem lk_RX5_285 : LkV RX5 285 yX4_put cX4_put 3 none 2 := ⟨tb_in (List.mem_of_getElem? (i := 798) (by decide +kernel)) (by decide +kernel), tb_in (List.mem_of_getElem? (i := 795) (by decide +kernel)) (by decide +kernel), tb_in (List.mem_of_getElem? (i := 796) (by decide +kernel)) (by decide +kernel), tb_in (List.mem_of_getElem? (i := 797) (by decide +kernel)) (by decide +kernel), tb_in (List.mem_of_getElem? (i := 68) (by decide +kernel)) (by decide +kernel), by decide +kernel, by decide +kernel, by decide +kernel⟩
theorem lk_RX5_288 : LkV RX5 288 yX4_faultOfPair cX4_faultOfPair 4 (some .int) 2 := ⟨tb_in (List.mem_of_getElem? (i := 806) (by decide +kernel)) (by decide +kernel), tb_in (List.mem_of_getElem? (i := 803) (by decide +kernel)) (by decide +kernel), tb_in (List.mem_of_getElem? (i := 804) (by decide +kernel)) (by decide +kernel), tb_in (List.mem_of_getElem? (i := 805) (by decide +kernel)) (by decide +kernel), tb_in (List.mem_of_getElem? (i := 68) (by decide +kernel)) (by decide +kernel), by decide +kernel, by decide +kernel, by decide +kernel⟩
theorem lk_RX5_297 : LkV RX5 297 yX5_keptImages cX5_keptImages 3 (some .int) 0 := ⟨tb_in (List.mem_of_getElem? (i := 819) (by decide +kernel)) (by decide +kernel), tb_in (List.mem_of_getElem? (i := 816) (by decide +kernel)) (by decide +kernel), tb_in (List.mem_of_getElem? (i := 818) (by decide +kernel)) (by decide +kernel), tb_in (List.mem_of_getElem? (i := 22) (by decide +kernel)) (by decide +kernel), tb_in (List.mem_of_getElem? (i := 61) (by decide +kernel)) (by decide +kernel), by decide +kernel, by decide +kernel, by decide +kernel⟩
theorem lk_RX5_303 : LkV RX5 303 yX4_isNothing cX4_isNothing 1 (some .boolean) 0 := ⟨tb_in (List.mem_of_getElem? (i := 793) (by decide +kernel)) (by decide +kernel), tb_in (List.mem_of_getElem? (i := 820) (by decide +kernel)) (by decide +kernel), tb_in (List.mem_of_getElem? (i := 791) (by decide +kernel)) (by decide +kernel), tb_in (List.mem_of_getElem? (i := 792) (by decide +kernel)) (by decide +kernel), tb_in (List.mem_of_getElem? (i := 68) (by decide +kernel)) (by decide +kernel), by decide +kernel, by decide +kernel, by decide +kernel⟩
theorem lk_RX5_307 : LkV RX5 307 yX1_unsaidWeight cX1_unsaidWeight 4 (some .int) 1 := ⟨tb_in (List.mem_of_getElem? (i := 824) (by decide +kernel)) (by decide +kernel), tb_in (List.mem_of_getElem? (i := 821) (by decide +kernel)) (by decide +kernel), tb_in (List.mem_of_getElem? (i := 822) (by decide +kernel)) (by decide +kernel), tb_in (List.mem_of_getElem? (i := 823) (by decide +kernel)) (by decide +kernel), tb_in (List.mem_of_getElem? (i := 62) (by decide +kernel)) (by decide +kernel), by decide +kernel, by decide +kernel, by decide +kernel⟩
theorem lk_RX5_310 : LkS RX5 310 yX5_commonDivisor cX5_commonDivisor 7 (some .long) 2 := ⟨tb_in (List.mem_of_getElem? (i := 696) (by decide +kernel)) (by decide +kernel), tb_in (List.mem_of_getElem? (i := 694) (by decide +kernel)) (by decide +kernel), tb_in (List.mem_of_getElem? (i := 695) (by decide +kernel)) (by decide +kernel), tb_in (List.mem_of_getElem? (i := 61) (by decide +kernel)) (by decide +kernel), by decide +kernel, by decide +kernel, by decide +kernel⟩
theorem lk_RX1_40 : LkS RX1 40 yJ7_fill_53178 cJ7_fill_53178 4 none 2 := ⟨tb_in (List.mem_of_getElem? (i := 117) (by decide +kernel)) (by decide +kernel), tb_in (List.mem_of_getElem? (i := 115) (by decide +kernel)) (by decide +kernel), tb_in (List.mem_of_getElem? (i := 116) (by decide +kernel)) (by decide +kernel), tb_in (List.mem_of_getElem? (i := 65) (by decide +kernel)) (by decide +kernel), by decide +kernel, by decide +kernel, by decide +kernel⟩
theorem lk_RX1_64 : LkV RX1 64 yX2_copyFrom cX2_copyFrom 3 none 1 := ⟨tb_in (List.mem_of_getElem? (i := 454) (by decide +kernel)) (by decide +kernel), tb_in (List.mem_of_getElem? (i := 451) (by decide +kernel)) (by decide +kernel), tb_in (List.mem_of_getElem? (i := 452) (by decide +kernel)) (by decide +kernel), tb_in (List.mem_of_getElem? (i := 453) (by decide +kernel)) (by decide +kernel), tb_in (List.mem_of_getElem? (i := 63) (by decide +kernel)) (by decide +kernel), by decide +kernel, by decide +kernel, by decide +kernel⟩
theorem lk_RX1_68 : LkN RX1 68 yX5_isIn cX5_isIn 3 (some .boolean) 3 := ⟨tb_in (List.mem_of_getElem? (i := 294) (by decide +kernel)) (by decide +kernel), (by decide +kernel), tb_in (List.mem_of_getElem? (i := 293) (by decide +kernel)) (by decide +kernel), tb_in (List.mem_of_getElem? (i := 61) (by decide +kernel)) (by decide +kernel), by decide +kernel, by decide +kernel, by decide +kernel⟩
theorem lk_RX1_72 : LkV RX1 72 yX1_hasThing cX1_hasThing 2 (some .boolean) 1 := ⟨tb_in (List.mem_of_getElem? (i := 494) (by decide +kernel)) (by decide +kernel), tb_in (List.mem_of_getElem? (i := 547) (by decide +kernel)) (by decide +kernel), tb_in (List.mem_of_getElem? (i := 492) (by decide +kernel)) (by decide +kernel), tb_in (List.mem_of_getElem? (i := 493) (by decide +kernel)) (by decide +kernel), tb_in (List.mem_of_getElem? (i := 62) (by decide +kernel)) (by decide +kernel), by decide +kernel, by decide +kernel, by decide +kernel⟩
theorem lk_RX1_76 : LkV RX1 76 yX2_add cX2_add 3 (some .int) 2 := ⟨tb_in (List.mem_of_getElem? (i := 551) (by decide +kernel)) (by decide +kernel), tb_in (List.mem_of_getElem? (i := 548) (by decide +kernel)) (by decide +kernel), tb_in (List.mem_of_getElem? (i := 549) (by decide +kernel)) (by decide +kernel), tb_in (List.mem_of_getElem? (i := 550) (by decide +kernel)) (by decide +kernel), tb_in (List.mem_of_getElem? (i := 63) (by decide +kernel)) (by decide +kernel), by decide +kernel, by decide +kernel, by decide +kernel⟩
theorem lk_RX1_80 : LkV RX1 80 yX1_isSaid cX1_isSaid 2 (some .boolean) 1 := ⟨tb_in (List.mem_of_getElem? (i := 479) (by decide +kernel)) (by decide +kernel), tb_in (List.mem_of_getElem? (i := 476) (by decide +kernel)) (by decide +kernel), tb_in (List.mem_of_getElem? (i := 477) (by decide +kernel)) (by decide +kernel), tb_in (List.mem_of_getElem? (i := 478) (by decide +kernel)) (by decide +kernel), tb_in (List.mem_of_getElem? (i := 62) (by decide +kernel)) (by decide +kernel), by decide +kernel, by decide +kernel, by decide +kernel⟩
theorem lk_RX1_83 : LkV RX1 83 yX1_liftOf cX1_liftOf 3 (some .int) 1 := ⟨tb_in (List.mem_of_getElem? (i := 475) (by decide +kernel)) (by decide +kernel), tb_in (List.mem_of_getElem? (i := 472) (by decide +kernel)) (by decide +kernel), tb_in (List.mem_of_getElem? (i := 473) (by decide +kernel)) (by decide +kernel), tb_in (List.mem_of_getElem? (i := 474) (by decide +kernel)) (by decide +kernel), tb_in (List.mem_of_getElem? (i := 62) (by decide +kernel)) (by decide +kernel), by decide +kernel, by decide +kernel, by decide +kernel⟩
theorem lk_RX1_87 : LkN RX1 87 yX5_bounded cX5_bounded 3 (some .int) 3 := ⟨tb_in (List.mem_of_getElem? (i := 482) (by decide +kernel)) (by decide +kernel), (by decide +kernel), tb_in (List.mem_of_getElem? (i := 481) (by decide +kernel)) (by decide +kernel), tb_in (List.mem_of_getElem? (i := 61) (by decide +kernel)) (by decide +kernel), by decide +kernel, by decide +kernel, by decide +kernel⟩
theorem lk_RX1_91 : LkS RX1 91 Lib.Math.abs.name Lib.Math.abs.code 1 (some .int) 1 := ⟨tb_in (List.mem_of_getElem? (i := 653) (by decide +kernel)) (by decide +kernel), tb_in (List.mem_of_getElem? (i := 651) (by decide +kernel)) (by decide +kernel), tb_in (List.mem_of_getElem? (i := 652) (by decide +kernel)) (by decide +kernel), tb_in (List.mem_of_getElem? (i := 64) (by decide +kernel)) (by decide +kernel), by decide +kernel, by decide +kernel, by decide +kernel⟩
theorem lk_RX1_102 : LkV RX1 102 yX1_setSaid cX1_setSaid 3 none 2 := ⟨tb_in (List.mem_of_getElem? (i := 534) (by decide +kernel)) (by decide +kernel), tb_in (List.mem_of_getElem? (i := 573) (by decide +kernel)) (by decide +kernel), tb_in (List.mem_of_getElem? (i := 532) (by decide +kernel)) (by decide +kernel), tb_in (List.mem_of_getElem? (i := 533) (by decide +kernel)) (by decide +kernel), tb_in (List.mem_of_getElem? (i := 62) (by decide +kernel)) (by decide +kernel), by decide +kernel, by decide +kernel, by decide +kernel⟩
theorem lk_RX1_106 : LkV RX1 106 yX1_lift cX1_lift 3 (some .int) 0 := ⟨tb_in (List.mem_of_getElem? (i := 471) (by decide +kernel)) (by decide +kernel), tb_in (List.mem_of_getElem? (i := 574) (by decide +kernel)) (by decide +kernel), tb_in (List.mem_of_getElem? (i := 469) (by decide +kernel)) (by decide +kernel), tb_in (List.mem_of_getElem? (i := 470) (by decide +kernel)) (by decide +kernel), tb_in (List.mem_of_getElem? (i := 62) (by decide +kernel)) (by decide +kernel), by decide +kernel, by decide +kernel, by decide +kernel⟩
theorem lk_RX1_110 : LkV RX1 110 yX1_windAloft cX1_windAloft 1 (some .int) 0 := ⟨tb_in (List.mem_of_getElem? (i := 578) (by decide +kernel)) (by decide +kernel), tb_in (List.mem_of_getElem? (i := 575) (by decide +kernel)) (by decide +kernel), tb_in (List.mem_of_getElem? (i := 576) (by decide +kernel)) (by decide +kernel), tb_in (List.mem_of_getElem? (i := 577) (by decide +kernel)) (by decide +kernel), tb_in (List.mem_of_getElem? (i := 62) (by decide +kernel)) (by decide +kernel), by decide +kernel, by decide +kernel, by decide +kernel⟩
theorem lk_RX1_113 : LkV RX1 113 yX1_pass cX1_pass 2 none 0 := ⟨tb_in (List.mem_of_getElem? (i := 572) (by decide +kernel)) (by decide +kernel), tb_in (List.mem_of_getElem? (i := 569) (by decide +kernel)) (by decide +kernel), tb_in (List.mem_of_getElem? (i := 570) (by decide +kernel)) (by decide +kernel), tb_in (List.mem_of_getElem? (i := 571) (by decide +kernel)) (by decide +kernel), tb_in (List.mem_of_getElem? (i := 62) (by decide +kernel)) (by decide +kernel), by decide +kernel, by decide +kernel, by decide +kernel⟩
theorem lk_RX1_116 : LkS RX1 116 Lib.Math.max.name Lib.Math.max.code 2 (some .int) 2 := ⟨tb_in (List.mem_of_getElem? (i := 97) (by decide +kernel)) (by decide +kernel), tb_in (List.mem_of_getElem? (i := 594) (by decide +kernel)) (by decide +kernel), tb_in (List.mem_of_getElem? (i := 96) (by decide +kernel)) (by decide +kernel), tb_in (List.mem_of_getElem? (i := 64) (by decide +kernel)) (by decide +kernel), by decide +kernel, by decide +kernel, by decide +kernel⟩
theorem lk_RX1_120 : LkV RX1 120 yX1_isAsSeenBehind cX1_isAsSeenBehind 3 (some .boolean) 1 := ⟨tb_in (List.mem_of_getElem? (i := 725) (by decide +kernel)) (by decide +kernel), tb_in (List.mem_of_getElem? (i := 722) (by decide +kernel)) (by decide +kernel), tb_in (List.mem_of_getElem? (i := 723) (by decide +kernel)) (by decide +kernel), tb_in (List.mem_of_getElem? (i := 724) (by decide +kernel)) (by decide +kernel), tb_in (List.mem_of_getElem? (i := 62) (by decide +kernel)) (by decide +kernel), by decide +kernel, by decide +kernel, by decide +kernel⟩
theorem lk_RX2_28 : LkN RX2 28 yX5_isIn cX5_isIn 3 (some .boolean) 3 := ⟨tb_in (List.mem_of_getElem? (i := 294) (by decide +kernel)) (by decide +kernel), (by decide +kernel), tb_in (List.mem_of_getElem? (i := 293) (by decide +kernel)) (by decide +kernel), tb_in (List.mem_of_getElem? (i := 61) (by decide +kernel)) (by decide +kernel), by decide +kernel, by decide +kernel, by decide +kernel⟩
theorem lk_RX3_22 : LkS RX3 22 yX3_sortOf cX3_sortOf 1 (some .int) 1 := ⟨tb_in (List.mem_of_getElem? (i := 301) (by decide +kernel)) (by decide +kernel), tb_in (List.mem_of_getElem? (i := 299) (by decide +kernel)) (by decide +kernel), tb_in (List.mem_of_getElem? (i := 300) (by decide +kernel)) (by decide +kernel), tb_in (List.mem_of_getElem? (i := 66) (by decide +kernel)) (by decide +kernel), by decide +kernel, by decide +kernel, by decide +kernel⟩
theorem lk_RX3_26 : LkN RX3 26 yX5_isIn cX5_isIn 3 (some .boolean) 3 := ⟨tb_in (List.mem_of_getElem? (i := 294) (by decide +kernel)) (by decide +kernel), (by decide +kernel), tb_in (List.mem_of_getElem? (i := 293) (by decide +kernel)) (by decide +kernel), tb_in (List.mem_of_getElem? (i := 61) (by decide +kernel)) (by decide +kernel), by decide +kernel, by decide +kernel, by decide +kernel⟩
theorem lk_RX3_38 : LkV RX3 38 yX3_nextToken cX3_nextToken 1 (some .boolean) 0 := ⟨tb_in (List.mem_of_getElem? (i := 330) (by decide +kernel)) (by decide +kernel), tb_in (List.mem_of_getElem? (i := 327) (by decide +kernel)) (by decide +kernel), tb_in (List.mem_of_getElem? (i := 329) (by decide +kernel)) (by decide +kernel), tb_in (List.mem_of_getElem? (i := 1) (by decide +kernel)) (by decide +kernel), tb_in (List.mem_of_getElem? (i := 66) (by decide +kernel)) (by decide +kernel), by decide +kernel, by decide +kernel, by decide +kernel⟩
theorem lk_RX3_68 : LkV RX3 68 yX3_endOfRun cX3_endOfRun 4 (some .int) 2 := ⟨tb_in (List.mem_of_getElem? (i := 334) (by decide +kernel)) (by decide +kernel), tb_in (List.mem_of_getElem? (i := 331) (by decide +kernel)) (by decide +kernel), tb_in (List.mem_of_getElem? (i := 333) (by decide +kernel)) (by decide +kernel), tb_in (List.mem_of_getElem? (i := 2) (by decide +kernel)) (by decide +kernel), tb_in (List.mem_of_getElem? (i := 66) (by decide +kernel)) (by decide +kernel), by decide +kernel, by decide +kernel, by decide +kernel⟩
theorem lk_RX3_75 : LkV RX3 75 yX3_valueOf cX3_valueOf 5 (some .int) 2 := ⟨tb_in (List.mem_of_getElem? (i := 338) (by decide +kernel)) (by decide +kernel), tb_in (List.mem_of_getElem? (i := 335) (by decide +kernel)) (by decide +kernel), tb_in (List.mem_of_getElem? (i := 337) (by decide +kernel)) (by decide +kernel), tb_in (List.mem_of_getElem? (i := 3) (by decide +kernel)) (by decide +kernel), tb_in (List.mem_of_getElem? (i := 66) (by decide +kernel)) (by decide +kernel), by decide +kernel, by decide +kernel, by decide +kernel⟩
theorem lk_RX3_81 : LkV RX3 81 yX3_failAt cX3_failAt 3 (some .boolean) 2 := ⟨tb_in (List.mem_of_getElem? (i := 342) (by decide +kernel)) (by decide +kernel), tb_in (List.mem_of_getElem? (i := 339) (by decide +kernel)) (by decide +kernel), tb_in (List.mem_of_getElem? (i := 341) (by decide +kernel)) (by decide +kernel), tb_in (List.mem_of_getElem? (i := 4) (by decide +kernel)) (by decide +kernel), tb_in (List.mem_of_getElem? (i := 66) (by decide +kernel)) (by decide +kernel), by decide +kernel, by decide +kernel, by decide +kernel⟩
theorem lk_RX3_135 : LkN RX3 135 yX5_leastOf cX5_leastOf 1 (some .int) 1 := ⟨tb_in (List.mem_of_getElem? (i := 419) (by decide +kernel)) (by decide +kernel), (by decide +kernel), tb_in (List.mem_of_getElem? (i := 418) (by decide +kernel)) (by decide +kernel), tb_in (List.mem_of_getElem? (i := 61) (by decide +kernel)) (by decide +kernel), by decide +kernel, by decide +kernel, by decide +kernel⟩
theorem lk_RX3_138 : LkN RX3 138 yX5_greatestOf cX5_greatestOf 1 (some .int) 1 := ⟨tb_in (List.mem_of_getElem? (i := 422) (by decide +kernel)) (by decide +kernel), (by decide +kernel), tb_in (List.mem_of_getElem? (i := 421) (by decide +kernel)) (by decide +kernel), tb_in (List.mem_of_getElem? (i := 61) (by decide +kernel)) (by decide +kernel), by decide +kernel, by decide +kernel, by decide +kernel⟩
theorem lk_RX3_141 : LkV RX3 141 yX3_readNumber cX3_readNumber 3 (some .boolean) 2 := ⟨tb_in (List.mem_of_getElem? (i := 426) (by decide +kernel)) (by decide +kernel), tb_in (List.mem_of_getElem? (i := 423) (by decide +kernel)) (by decide +kernel), tb_in (List.mem_of_getElem? (i := 425) (by decide +kernel)) (by decide +kernel), tb_in (List.mem_of_getElem? (i := 9) (by decide +kernel)) (by decide +kernel), tb_in (List.mem_of_getElem? (i := 66) (by decide +kernel)) (by decide +kernel), by decide +kernel, by decide +kernel, by decide +kernel⟩
theorem lk_RX3_144 : LkV RX3 144 yX1_addThing cX1_addThing 4 (some .boolean) 3 := ⟨tb_in (List.mem_of_getElem? (i := 430) (by decide +kernel)) (by decide +kernel), tb_in (List.mem_of_getElem? (i := 427) (by decide +kernel)) (by decide +kernel), tb_in (List.mem_of_getElem? (i := 428) (by decide +kernel)) (by decide +kernel), tb_in (List.mem_of_getElem? (i := 429) (by decide +kernel)) (by decide +kernel), tb_in (List.mem_of_getElem? (i := 62) (by decide +kernel)) (by decide +kernel), by decide +kernel, by decide +kernel, by decide +kernel⟩
theorem lk_RX3_147 : LkV RX3 147 yX3_readSemicolon cX3_readSemicolon 1 (some .boolean) 0 := ⟨tb_in (List.mem_of_getElem? (i := 434) (by decide +kernel)) (by decide +kernel), tb_in (List.mem_of_getElem? (i := 431) (by decide +kernel)) (by decide +kernel), tb_in (List.mem_of_getElem? (i := 433) (by decide +kernel)) (by decide +kernel), tb_in (List.mem_of_getElem? (i := 10) (by decide +kernel)) (by decide +kernel), tb_in (List.mem_of_getElem? (i := 66) (by decide +kernel)) (by decide +kernel), by decide +kernel, by decide +kernel, by decide +kernel⟩
theorem lk_RX4_22 : LkS RX4 22 yJ7_fill_53178 cJ7_fill_53178 4 none 2 := ⟨tb_in (List.mem_of_getElem? (i := 117) (by decide +kernel)) (by decide +kernel), tb_in (List.mem_of_getElem? (i := 781) (by decide +kernel)) (by decide +kernel), tb_in (List.mem_of_getElem? (i := 116) (by decide +kernel)) (by decide +kernel), tb_in (List.mem_of_getElem? (i := 65) (by decide +kernel)) (by decide +kernel), by decide +kernel, by decide +kernel, by decide +kernel⟩
theorem lk_RX4_28 : LkV RX4 28 yX4_isNothing cX4_isNothing 1 (some .boolean) 0 := ⟨tb_in (List.mem_of_getElem? (i := 793) (by decide +kernel)) (by decide +kernel), tb_in (List.mem_of_getElem? (i := 790) (by decide +kernel)) (by decide +kernel), tb_in (List.mem_of_getElem? (i := 791) (by decide +kernel)) (by decide +kernel), tb_in (List.mem_of_getElem? (i := 792) (by decide +kernel)) (by decide +kernel), tb_in (List.mem_of_getElem? (i := 68) (by decide +kernel)) (by decide +kernel), by decide +kernel, by decide +kernel, by decide +kernel⟩
theorem lk_RX4_32 : LkN RX4 32 yX5_isIn cX5_isIn 3 (some .boolean) 3 := ⟨tb_in (List.mem_of_getElem? (i := 294) (by decide +kernel)) (by decide +kernel), (by decide +kernel), tb_in (List.mem_of_getElem? (i := 293) (by decide +kernel)) (by decide +kernel), tb_in (List.mem_of_getElem? (i := 61) (by decide +kernel)) (by decide +kernel), by decide +kernel, by decide +kernel, by decide +kernel⟩
theorem lk_RX4_36 : LkV RX4 36 yX4_faultAs cX4_faultAs 3 (some .int) 2 := ⟨tb_in (List.mem_of_getElem? (i := 789) (by decide +kernel)) (by decide +kernel), tb_in (List.mem_of_getElem? (i := 807) (by decide +kernel)) (by decide +kernel), tb_in (List.mem_of_getElem? (i := 787) (by decide +kernel)) (by decide +kernel), tb_in (List.mem_of_getElem? (i := 788) (by decide +kernel)) (by decide +kernel), tb_in (List.mem_of_getElem? (i := 68) (by decide +kernel)) (by decide +kernel), by decide +kernel, by decide +kernel, by decide +kernel⟩
theorem lk_RX6_44 : LkV RX6 44 yX6_firstDraft cX6_firstDraft 2 none 0 := ⟨tb_in (List.mem_of_getElem? (i := 834) (by decide +kernel)) (by decide +kernel), tb_in (List.mem_of_getElem? (i := 831) (by decide +kernel)) (by decide +kernel), tb_in (List.mem_of_getElem? (i := 833) (by decide +kernel)) (by decide +kernel), tb_in (List.mem_of_getElem? (i := 23) (by decide +kernel)) (by decide +kernel), tb_in (List.mem_of_getElem? (i := 69) (by decide +kernel)) (by decide +kernel), by decide +kernel, by decide +kernel, by decide +kernel⟩
theorem lk_RX6_47 : LkV RX6 47 yX6_keepDraft cX6_keepDraft 2 none 0 := ⟨tb_in (List.mem_of_getElem? (i := 838) (by decide +kernel)) (by decide +kernel), tb_in (List.mem_of_getElem? (i := 835) (by decide +kernel)) (by decide +kernel), tb_in (List.mem_of_getElem? (i := 837) (by decide +kernel)) (by decide +kernel), tb_in (List.mem_of_getElem? (i := 24) (by decide +kernel)) (by decide +kernel), tb_in (List.mem_of_getElem? (i := 69) (by decide +kernel)) (by decide +kernel), by decide +kernel, by decide +kernel, by decide +kernel⟩
theorem lk_RX6_69 : LkS RX6 69 yX6_in cX6_in 6 (some .boolean) 3 := ⟨tb_in (List.mem_of_getElem? (i := 949) (by decide +kernel)) (by decide +kernel), tb_in (List.mem_of_getElem? (i := 947) (by decide +kernel)) (by decide +kernel), tb_in (List.mem_of_getElem? (i := 948) (by decide +kernel)) (by decide +kernel), tb_in (List.mem_of_getElem? (i := 69) (by decide +kernel)) (by decide +kernel), by decide +kernel, by decide +kernel, by decide +kernel⟩
theorem lk_RX6_88 : LkV RX6 88 yX6_byteAt cX6_byteAt 2 (some .int) 1 := ⟨tb_in (List.mem_of_getElem? (i := 965) (by decide +kernel)) (by decide +kernel), tb_in (List.mem_of_getElem? (i := 962) (by decide +kernel)) (by decide +kernel), tb_in (List.mem_of_getElem? (i := 964) (by decide +kernel)) (by decide +kernel), tb_in (List.mem_of_getElem? (i := 26) (by decide +kernel)) (by decide +kernel), tb_in (List.mem_of_getElem? (i := 69) (by decide +kernel)) (by decide +kernel), by decide +kernel, by decide +kernel, by decide +kernel⟩
theorem lk_RX6_92 : LkV RX6 92 yX6_is cX6_is 6 (some .boolean) 5 := ⟨tb_in (List.mem_of_getElem? (i := 985) (by decide +kernel)) (by decide +kernel), tb_in (List.mem_of_getElem? (i := 982) (by decide +kernel)) (by decide +kernel), tb_in (List.mem_of_getElem? (i := 984) (by decide +kernel)) (by decide +kernel), tb_in (List.mem_of_getElem? (i := 30) (by decide +kernel)) (by decide +kernel), tb_in (List.mem_of_getElem? (i := 69) (by decide +kernel)) (by decide +kernel), by decide +kernel, by decide +kernel, by decide +kernel⟩
theorem lk_RX6_96 : LkV RX6 96 yX6_ends cX6_ends 3 (some .boolean) 2 := ⟨tb_in (List.mem_of_getElem? (i := 989) (by decide +kernel)) (by decide +kernel), tb_in (List.mem_of_getElem? (i := 986) (by decide +kernel)) (by decide +kernel), tb_in (List.mem_of_getElem? (i := 988) (by decide +kernel)) (by decide +kernel), tb_in (List.mem_of_getElem? (i := 31) (by decide +kernel)) (by decide +kernel), tb_in (List.mem_of_getElem? (i := 69) (by decide +kernel)) (by decide +kernel), by decide +kernel, by decide +kernel, by decide +kernel⟩
theorem lk_RX6_114 : LkV RX6 114 yX6_needs cX6_needs 3 none 2 := ⟨tb_in (List.mem_of_getElem? (i := 973) (by decide +kernel)) (by decide +kernel), tb_in (List.mem_of_getElem? (i := 970) (by decide +kernel)) (by decide +kernel), tb_in (List.mem_of_getElem? (i := 972) (by decide +kernel)) (by decide +kernel), tb_in (List.mem_of_getElem? (i := 27) (by decide +kernel)) (by decide +kernel), tb_in (List.mem_of_getElem? (i := 69) (by decide +kernel)) (by decide +kernel), by decide +kernel, by decide +kernel, by decide +kernel⟩
theorem lk_RX6_118 : LkV RX6 118 yX6_looked cX6_looked 3 (some .int) 2 := ⟨tb_in (List.mem_of_getElem? (i := 1001) (by decide +kernel)) (by decide +kernel), tb_in (List.mem_of_getElem? (i := 998) (by decide +kernel)) (by decide +kernel), tb_in (List.mem_of_getElem? (i := 1000) (by decide +kernel)) (by decide +kernel), tb_in (List.mem_of_getElem? (i := 34) (by decide +kernel)) (by decide +kernel), tb_in (List.mem_of_getElem? (i := 69) (by decide +kernel)) (by decide +kernel), by decide +kernel, by decide +kernel, by decide +kernel⟩
theorem lk_RX6_122 : LkV RX6 122 yX6_takes cX6_takes 2 none 0 := ⟨tb_in (List.mem_of_getElem? (i := 961) (by decide +kernel)) (by decide +kernel), tb_in (List.mem_of_getElem? (i := 958) (by decide +kernel)) (by decide +kernel), tb_in (List.mem_of_getElem? (i := 960) (by decide +kernel)) (by decide +kernel), tb_in (List.mem_of_getElem? (i := 25) (by decide +kernel)) (by decide +kernel), tb_in (List.mem_of_getElem? (i := 69) (by decide +kernel)) (by decide +kernel), by decide +kernel, by decide +kernel, by decide +kernel⟩
theorem lk_RX6_125 : LkV RX6 125 yX6_readNumber cX6_readNumber 4 (some .int) 2 := ⟨tb_in (List.mem_of_getElem? (i := 1005) (by decide +kernel)) (by decide +kernel), tb_in (List.mem_of_getElem? (i := 1002) (by decide +kernel)) (by decide +kernel), tb_in (List.mem_of_getElem? (i := 1004) (by decide +kernel)) (by decide +kernel), tb_in (List.mem_of_getElem? (i := 35) (by decide +kernel)) (by decide +kernel), tb_in (List.mem_of_getElem? (i := 69) (by decide +kernel)) (by decide +kernel), by decide +kernel, by decide +kernel, by decide +kernel⟩
theorem lk_RX6_128 : LkV RX6 128 yX6_readWind cX6_readWind 2 none 0 := ⟨tb_in (List.mem_of_getElem? (i := 997) (by decide +kernel)) (by decide +kernel), tb_in (List.mem_of_getElem? (i := 994) (by decide +kernel)) (by decide +kernel), tb_in (List.mem_of_getElem? (i := 996) (by decide +kernel)) (by decide +kernel), tb_in (List.mem_of_getElem? (i := 33) (by decide +kernel)) (by decide +kernel), tb_in (List.mem_of_getElem? (i := 69) (by decide +kernel)) (by decide +kernel), by decide +kernel, by decide +kernel, by decide +kernel⟩
theorem lk_RX6_131 : LkV RX6 131 yX6_lineNow cX6_lineNow 1 (some .int) 0 := ⟨tb_in (List.mem_of_getElem? (i := 981) (by decide +kernel)) (by decide +kernel), tb_in (List.mem_of_getElem? (i := 978) (by decide +kernel)) (by decide +kernel), tb_in (List.mem_of_getElem? (i := 980) (by decide +kernel)) (by decide +kernel), tb_in (List.mem_of_getElem? (i := 29) (by decide +kernel)) (by decide +kernel), tb_in (List.mem_of_getElem? (i := 69) (by decide +kernel)) (by decide +kernel), by decide +kernel, by decide +kernel, by decide +kernel⟩
theorem lk_RX6_135 : LkV RX6 135 yX6_readLineOf cX6_readLineOf 2 none 1 := ⟨tb_in (List.mem_of_getElem? (i := 993) (by decide +kernel)) (by decide +kernel), tb_in (List.mem_of_getElem? (i := 990) (by decide +kernel)) (by decide +kernel), tb_in (List.mem_of_getElem? (i := 992) (by decide +kernel)) (by decide +kernel), tb_in (List.mem_of_getElem? (i := 32) (by decide +kernel)) (by decide +kernel), tb_in (List.mem_of_getElem? (i := 69) (by decide +kernel)) (by decide +kernel), by decide +kernel, by decide +kernel, by decide +kernel⟩
theorem lk_RX6_139 : LkV RX6 139 yX6_readLine cX6_readLine 2 none 0 := ⟨tb_in (List.mem_of_getElem? (i := 977) (by decide +kernel)) (by decide +kernel), tb_in (List.mem_of_getElem? (i := 974) (by decide +kernel)) (by decide +kernel), tb_in (List.mem_of_getElem? (i := 976) (by decide +kernel)) (by decide +kernel), tb_in (List.mem_of_getElem? (i := 28) (by decide +kernel)) (by decide +kernel), tb_in (List.mem_of_getElem? (i := 69) (by decide +kernel)) (by decide +kernel), by decide +kernel, by decide +kernel, by decide +kernel⟩
theorem lk_RX6_152 : LkV RX6 152 yX6_of cX6_of 3 (some .int) 2 := ⟨tb_in (List.mem_of_getElem? (i := 1029) (by decide +kernel)) (by decide +kernel), tb_in (List.mem_of_getElem? (i := 1026) (by decide +kernel)) (by decide +kernel), tb_in (List.mem_of_getElem? (i := 1028) (by decide +kernel)) (by decide +kernel), tb_in (List.mem_of_getElem? (i := 39) (by decide +kernel)) (by decide +kernel), tb_in (List.mem_of_getElem? (i := 69) (by decide +kernel)) (by decide +kernel), by decide +kernel, by decide +kernel, by decide +kernel⟩
theorem lk_RX6_155 : LkV RX6 155 yX6_liftOf cX6_liftOf 4 (some .int) 1 := ⟨tb_in (List.mem_of_getElem? (i := 1025) (by decide +kernel)) (by decide +kernel), tb_in (List.mem_of_getElem? (i := 1022) (by decide +kernel)) (by decide +kernel), tb_in (List.mem_of_getElem? (i := 1024) (by decide +kernel)) (by decide +kernel), tb_in (List.mem_of_getElem? (i := 38) (by decide +kernel)) (by decide +kernel), tb_in (List.mem_of_getElem? (i := 69) (by decide +kernel)) (by decide +kernel), by decide +kernel, by decide +kernel, by decide +kernel⟩
theorem lk_RX6_158 : LkS RX6 158 yX6_within cX6_within 3 (some .int) 3 := ⟨tb_in (List.mem_of_getElem? (i := 1032) (by decide +kernel)) (by decide +kernel), tb_in (List.mem_of_getElem? (i := 1030) (by decide +kernel)) (by decide +kernel), tb_in (List.mem_of_getElem? (i := 1031) (by decide +kernel)) (by decide +kernel), tb_in (List.mem_of_getElem? (i := 69) (by decide +kernel)) (by decide +kernel), by decide +kernel, by decide +kernel, by decide +kernel⟩
theorem lk_RX6_162 : LkV RX6 162 yX6_becomesOf cX6_becomesOf 4 none 3 := ⟨tb_in (List.mem_of_getElem? (i := 1116) (by decide +kernel)) (by decide +kernel), tb_in (List.mem_of_getElem? (i := 1113) (by decide +kernel)) (by decide +kernel), tb_in (List.mem_of_getElem? (i := 1115) (by decide +kernel)) (by decide +kernel), tb_in (List.mem_of_getElem? (i := 46) (by decide +kernel)) (by decide +kernel), tb_in (List.mem_of_getElem? (i := 69) (by decide +kernel)) (by decide +kernel), by decide +kernel, by decide +kernel, by decide +kernel⟩
theorem lk_RX6_169 : LkV RX6 169 yX6_liftNow cX6_liftNow 3 (some .int) 0 := ⟨tb_in (List.mem_of_getElem? (i := 1021) (by decide +kernel)) (by decide +kernel), tb_in (List.mem_of_getElem? (i := 1018) (by decide +kernel)) (by decide +kernel), tb_in (List.mem_of_getElem? (i := 1020) (by decide +kernel)) (by decide +kernel), tb_in (List.mem_of_getElem? (i := 37) (by decide +kernel)) (by decide +kernel), tb_in (List.mem_of_getElem? (i := 69) (by decide +kernel)) (by decide +kernel), by decide +kernel, by decide +kernel, by decide +kernel⟩
theorem lk_RX6_172 : LkV RX6 172 yX6_minuteGoes cX6_minuteGoes 3 none 0 := ⟨tb_in (List.mem_of_getElem? (i := 1112) (by decide +kernel)) (by decide +kernel), tb_in (List.mem_of_getElem? (i := 1109) (by decide +kernel)) (by decide +kernel), tb_in (List.mem_of_getElem? (i := 1111) (by decide +kernel)) (by decide +kernel), tb_in (List.mem_of_getElem? (i := 45) (by decide +kernel)) (by decide +kernel), tb_in (List.mem_of_getElem? (i := 69) (by decide +kernel)) (by decide +kernel), by decide +kernel, by decide +kernel, by decide +kernel⟩
theorem lk_RX6_175 : LkV RX6 175 yX6_starts cX6_starts 2 none 0 := ⟨tb_in (List.mem_of_getElem? (i := 1017) (by decide +kernel)) (by decide +kernel), tb_in (List.mem_of_getElem? (i := 1014) (by decide +kernel)) (by decide +kernel), tb_in (List.mem_of_getElem? (i := 1016) (by decide +kernel)) (by decide +kernel), tb_in (List.mem_of_getElem? (i := 36) (by decide +kernel)) (by decide +kernel), tb_in (List.mem_of_getElem? (i := 69) (by decide +kernel)) (by decide +kernel), by decide +kernel, by decide +kernel, by decide +kernel⟩
theorem lk_RX6_178 : LkV RX6 178 yX6_saidNow cX6_saidNow 3 (some .int) 0 := ⟨tb_in (List.mem_of_getElem? (i := 1036) (by decide +kernel)) (by decide +kernel), tb_in (List.mem_of_getElem? (i := 1033) (by decide +kernel)) (by decide +kernel), tb_in (List.mem_of_getElem? (i := 1035) (by decide +kernel)) (by decide +kernel), tb_in (List.mem_of_getElem? (i := 40) (by decide +kernel)) (by decide +kernel), tb_in (List.mem_of_getElem? (i := 69) (by decide +kernel)) (by decide +kernel), by decide +kernel, by decide +kernel, by decide +kernel⟩
theorem lk_RX6_181 : LkV RX6 181 yX6_isThing cX6_isThing 2 (some .boolean) 1 := ⟨tb_in (List.mem_of_getElem? (i := 1044) (by decide +kernel)) (by decide +kernel), tb_in (List.mem_of_getElem? (i := 1041) (by decide +kernel)) (by decide +kernel), tb_in (List.mem_of_getElem? (i := 1043) (by decide +kernel)) (by decide +kernel), tb_in (List.mem_of_getElem? (i := 41) (by decide +kernel)) (by decide +kernel), tb_in (List.mem_of_getElem? (i := 69) (by decide +kernel)) (by decide +kernel), by decide +kernel, by decide +kernel, by decide +kernel⟩
theorem lk_RX6_185 : LkS RX6 185 yX6_isWind cX6_isWind 1 (some .boolean) 1 := ⟨tb_in (List.mem_of_getElem? (i := 1052) (by decide +kernel)) (by decide +kernel), tb_in (List.mem_of_getElem? (i := 1050) (by decide +kernel)) (by decide +kernel), tb_in (List.mem_of_getElem? (i := 1051) (by decide +kernel)) (by decide +kernel), tb_in (List.mem_of_getElem? (i := 69) (by decide +kernel)) (by decide +kernel), by decide +kernel, by decide +kernel, by decide +kernel⟩
theorem lk_RX6_188 : LkS RX6 188 yX6_isPart cX6_isPart 1 (some .boolean) 1 := ⟨tb_in (List.mem_of_getElem? (i := 1059) (by decide +kernel)) (by decide +kernel), tb_in (List.mem_of_getElem? (i := 1057) (by decide +kernel)) (by decide +kernel), tb_in (List.mem_of_getElem? (i := 1058) (by decide +kernel)) (by decide +kernel), tb_in (List.mem_of_getElem? (i := 69) (by decide +kernel)) (by decide +kernel), by decide +kernel, by decide +kernel, by decide +kernel⟩
theorem lk_RX6_195 : LkV RX6 195 yX6_becomes cX6_becomes 4 (some .int) 2 := ⟨tb_in (List.mem_of_getElem? (i := 1069) (by decide +kernel)) (by decide +kernel), tb_in (List.mem_of_getElem? (i := 1066) (by decide +kernel)) (by decide +kernel), tb_in (List.mem_of_getElem? (i := 1068) (by decide +kernel)) (by decide +kernel), tb_in (List.mem_of_getElem? (i := 42) (by decide +kernel)) (by decide +kernel), tb_in (List.mem_of_getElem? (i := 69) (by decide +kernel)) (by decide +kernel), by decide +kernel, by decide +kernel, by decide +kernel⟩
theorem lk_RX6_200 : LkV RX6 200 yX6_saidBecomes cX6_saidBecomes 3 (some .int) 2 := ⟨tb_in (List.mem_of_getElem? (i := 1086) (by decide +kernel)) (by decide +kernel), tb_in (List.mem_of_getElem? (i := 1083) (by decide +kernel)) (by decide +kernel), tb_in (List.mem_of_getElem? (i := 1085) (by decide +kernel)) (by decide +kernel), tb_in (List.mem_of_getElem? (i := 43) (by decide +kernel)) (by decide +kernel), tb_in (List.mem_of_getElem? (i := 69) (by decide +kernel)) (by decide +kernel), by decide +kernel, by decide +kernel, by decide +kernel⟩
theorem lk_RX6_205 : LkV RX6 205 yX6_minutesGo cX6_minutesGo 3 none 1 := ⟨tb_in (List.mem_of_getElem? (i := 1108) (by decide +kernel)) (by decide +kernel), tb_in (List.mem_of_getElem? (i := 1105) (by decide +kernel)) (by decide +kernel), tb_in (List.mem_of_getElem? (i := 1107) (by decide +kernel)) (by decide +kernel), tb_in (List.mem_of_getElem? (i := 44) (by decide +kernel)) (by decide +kernel), tb_in (List.mem_of_getElem? (i := 69) (by decide +kernel)) (by decide +kernel), by decide +kernel, by decide +kernel, by decide +kernel⟩
theorem lk_RX6_208 : LkV RX6 208 yX6_settles cX6_settles 2 none 0 := ⟨tb_in (List.mem_of_getElem? (i := 1120) (by decide +kernel)) (by decide +kernel), tb_in (List.mem_of_getElem? (i := 1117) (by decide +kernel)) (by decide +kernel), tb_in (List.mem_of_getElem? (i := 1119) (by decide +kernel)) (by decide +kernel), tb_in (List.mem_of_getElem? (i := 47) (by decide +kernel)) (by decide +kernel), tb_in (List.mem_of_getElem? (i := 69) (by decide +kernel)) (by decide +kernel), by decide +kernel, by decide +kernel, by decide +kernel⟩
theorem lk_RX6_219 : LkS RX6 219 yX6_flag cX6_flag 1 (some .int) 1 := ⟨tb_in (List.mem_of_getElem? (i := 1135) (by decide +kernel)) (by decide +kernel), tb_in (List.mem_of_getElem? (i := 1133) (by decide +kernel)) (by decide +kernel), tb_in (List.mem_of_getElem? (i := 1134) (by decide +kernel)) (by decide +kernel), tb_in (List.mem_of_getElem? (i := 69) (by decide +kernel)) (by decide +kernel), by decide +kernel, by decide +kernel, by decide +kernel⟩
theorem lk_RX6_223 : LkS RX6 223 yX6_isFar cX6_isFar 1 (some .boolean) 1 := ⟨tb_in (List.mem_of_getElem? (i := 1127) (by decide +kernel)) (by decide +kernel), tb_in (List.mem_of_getElem? (i := 1125) (by decide +kernel)) (by decide +kernel), tb_in (List.mem_of_getElem? (i := 1126) (by decide +kernel)) (by decide +kernel), tb_in (List.mem_of_getElem? (i := 69) (by decide +kernel)) (by decide +kernel), by decide +kernel, by decide +kernel, by decide +kernel⟩
theorem lk_RX6_226 : LkV RX6 226 yX6_minutesCount cX6_minutesCount 3 none 1 := ⟨tb_in (List.mem_of_getElem? (i := 1132) (by decide +kernel)) (by decide +kernel), tb_in (List.mem_of_getElem? (i := 1129) (by decide +kernel)) (by decide +kernel), tb_in (List.mem_of_getElem? (i := 1131) (by decide +kernel)) (by decide +kernel), tb_in (List.mem_of_getElem? (i := 48) (by decide +kernel)) (by decide +kernel), tb_in (List.mem_of_getElem? (i := 69) (by decide +kernel)) (by decide +kernel), by decide +kernel, by decide +kernel, by decide +kernel⟩
theorem lk_RX6_229 : LkV RX6 229 yX6_minutesDown cX6_minutesDown 2 (some .int) 0 := ⟨tb_in (List.mem_of_getElem? (i := 1143) (by decide +kernel)) (by decide +kernel), tb_in (List.mem_of_getElem? (i := 1140) (by decide +kernel)) (by decide +kernel), tb_in (List.mem_of_getElem? (i := 1142) (by decide +kernel)) (by decide +kernel), tb_in (List.mem_of_getElem? (i := 49) (by decide +kernel)) (by decide +kernel), tb_in (List.mem_of_getElem? (i := 69) (by decide +kernel)) (by decide +kernel), by decide +kernel, by decide +kernel, by decide +kernel⟩
theorem lk_RX6_232 : LkS RX6 232 yX6_isPlace cX6_isPlace 1 (some .boolean) 1 := ⟨tb_in (List.mem_of_getElem? (i := 1150) (by decide +kernel)) (by decide +kernel), tb_in (List.mem_of_getElem? (i := 1148) (by decide +kernel)) (by decide +kernel), tb_in (List.mem_of_getElem? (i := 1149) (by decide +kernel)) (by decide +kernel), tb_in (List.mem_of_getElem? (i := 69) (by decide +kernel)) (by decide +kernel), by decide +kernel, by decide +kernel, by decide +kernel⟩
theorem lk_RX6_235 : LkV RX6 235 yX6_minutesTo cX6_minutesTo 3 (some .int) 1 := ⟨tb_in (List.mem_of_getElem? (i := 1154) (by decide +kernel)) (by decide +kernel), tb_in (List.mem_of_getElem? (i := 1151) (by decide +kernel)) (by decide +kernel), tb_in (List.mem_of_getElem? (i := 1153) (by decide +kernel)) (by decide +kernel), tb_in (List.mem_of_getElem? (i := 50) (by decide +kernel)) (by decide +kernel), tb_in (List.mem_of_getElem? (i := 69) (by decide +kernel)) (by decide +kernel), by decide +kernel, by decide +kernel, by decide +kernel⟩
theorem lk_RX6_245 : LkV RX6 245 yX6_startsJudging cX6_startsJudging 2 none 1 := ⟨tb_in (List.mem_of_getElem? (i := 1163) (by decide +kernel)) (by decide +kernel), tb_in (List.mem_of_getElem? (i := 1160) (by decide +kernel)) (by decide +kernel), tb_in (List.mem_of_getElem? (i := 1162) (by decide +kernel)) (by decide +kernel), tb_in (List.mem_of_getElem? (i := 51) (by decide +kernel)) (by decide +kernel), tb_in (List.mem_of_getElem? (i := 69) (by decide +kernel)) (by decide +kernel), by decide +kernel, by decide +kernel, by decide +kernel⟩
theorem lk_RX6_248 : LkV RX6 248 yX6_isUnsaid cX6_isUnsaid 2 (some .boolean) 1 := ⟨tb_in (List.mem_of_getElem? (i := 1167) (by decide +kernel)) (by decide +kernel), tb_in (List.mem_of_getElem? (i := 1164) (by decide +kernel)) (by decide +kernel), tb_in (List.mem_of_getElem? (i := 1166) (by decide +kernel)) (by decide +kernel), tb_in (List.mem_of_getElem? (i := 52) (by decide +kernel)) (by decide +kernel), tb_in (List.mem_of_getElem? (i := 69) (by decide +kernel)) (by decide +kernel), by decide +kernel, by decide +kernel, by decide +kernel⟩
theorem lk_RX6_251 : LkV RX6 251 yX6_judges cX6_judges 3 none 2 := ⟨tb_in (List.mem_of_getElem? (i := 1171) (by decide +kernel)) (by decide +kernel), tb_in (List.mem_of_getElem? (i := 1168) (by decide +kernel)) (by decide +kernel), tb_in (List.mem_of_getElem? (i := 1170) (by decide +kernel)) (by decide +kernel), tb_in (List.mem_of_getElem? (i := 53) (by decide +kernel)) (by decide +kernel), tb_in (List.mem_of_getElem? (i := 69) (by decide +kernel)) (by decide +kernel), by decide +kernel, by decide +kernel, by decide +kernel⟩
theorem lk_RX6_255 : LkV RX6 255 yX6_judged cX6_judged 2 (some .int) 1 := ⟨tb_in (List.mem_of_getElem? (i := 1175) (by decide +kernel)) (by decide +kernel), tb_in (List.mem_of_getElem? (i := 1172) (by decide +kernel)) (by decide +kernel), tb_in (List.mem_of_getElem? (i := 1174) (by decide +kernel)) (by decide +kernel), tb_in (List.mem_of_getElem? (i := 54) (by decide +kernel)) (by decide +kernel), tb_in (List.mem_of_getElem? (i := 69) (by decide +kernel)) (by decide +kernel), by decide +kernel, by decide +kernel, by decide +kernel⟩
theorem lk_RX6_258 : LkV RX6 258 yX6_offPlace cX6_offPlace 2 (some .int) 1 := ⟨tb_in (List.mem_of_getElem? (i := 1187) (by decide +kernel)) (by decide +kernel), tb_in (List.mem_of_getElem? (i := 1184) (by decide +kernel)) (by decide +kernel), tb_in (List.mem_of_getElem? (i := 1186) (by decide +kernel)) (by decide +kernel), tb_in (List.mem_of_getElem? (i := 55) (by decide +kernel)) (by decide +kernel), tb_in (List.mem_of_getElem? (i := 69) (by decide +kernel)) (by decide +kernel), by decide +kernel, by decide +kernel, by decide +kernel⟩
theorem lk_RX6_261 : LkS RX6 261 yX6_common cX6_common 10 (some .long) 2 := ⟨tb_in (List.mem_of_getElem? (i := 1219) (by decide +kernel)) (by decide +kernel), tb_in (List.mem_of_getElem? (i := 1217) (by decide +kernel)) (by decide +kernel), tb_in (List.mem_of_getElem? (i := 1218) (by decide +kernel)) (by decide +kernel), tb_in (List.mem_of_getElem? (i := 69) (by decide +kernel)) (by decide +kernel), by decide +kernel, by decide +kernel, by decide +kernel⟩
theorem lk_RX6_279 : LkV RX6 279 yX6_findOdds cX6_findOdds 8 none 3 := ⟨tb_in (List.mem_of_getElem? (i := 1213) (by decide +kernel)) (by decide +kernel), tb_in (List.mem_of_getElem? (i := 1210) (by decide +kernel)) (by decide +kernel), tb_in (List.mem_of_getElem? (i := 1212) (by decide +kernel)) (by decide +kernel), tb_in (List.mem_of_getElem? (i := 56) (by decide +kernel)) (by decide +kernel), tb_in (List.mem_of_getElem? (i := 69) (by decide +kernel)) (by decide +kernel), by decide +kernel, by decide +kernel, by decide +kernel⟩
theorem lk_RX6_282 : LkS RX6 282 yX6_told cX6_told 7 (some .long) 3 := ⟨tb_in (List.mem_of_getElem? (i := 1216) (by decide +kernel)) (by decide +kernel), tb_in (List.mem_of_getElem? (i := 1214) (by decide +kernel)) (by decide +kernel), tb_in (List.mem_of_getElem? (i := 1215) (by decide +kernel)) (by decide +kernel), tb_in (List.mem_of_getElem? (i := 69) (by decide +kernel)) (by decide +kernel), by decide +kernel, by decide +kernel, by decide +kernel⟩
theorem lk_RX6_286 : LkV RX6 286 yX6_isSo cX6_isSo 3 (some .boolean) 0 := ⟨tb_in (List.mem_of_getElem? (i := 1243) (by decide +kernel)) (by decide +kernel), tb_in (List.mem_of_getElem? (i := 1240) (by decide +kernel)) (by decide +kernel), tb_in (List.mem_of_getElem? (i := 1242) (by decide +kernel)) (by decide +kernel), tb_in (List.mem_of_getElem? (i := 58) (by decide +kernel)) (by decide +kernel), tb_in (List.mem_of_getElem? (i := 69) (by decide +kernel)) (by decide +kernel), by decide +kernel, by decide +kernel, by decide +kernel⟩
theorem lk_RX6_290 : LkV RX6 290 yX6_isSoWith cX6_isSoWith 4 (some .boolean) 3 := ⟨tb_in (List.mem_of_getElem? (i := 1239) (by decide +kernel)) (by decide +kernel), tb_in (List.mem_of_getElem? (i := 1236) (by decide +kernel)) (by decide +kernel), tb_in (List.mem_of_getElem? (i := 1238) (by decide +kernel)) (by decide +kernel), tb_in (List.mem_of_getElem? (i := 57) (by decide +kernel)) (by decide +kernel), tb_in (List.mem_of_getElem? (i := 69) (by decide +kernel)) (by decide +kernel), by decide +kernel, by decide +kernel, by decide +kernel⟩
theorem lk_RX6_295 : LkV RX6 295 yX6_copies cX6_copies 4 none 2 := ⟨tb_in (List.mem_of_getElem? (i := 1268) (by decide +kernel)) (by decide +kernel), tb_in (List.mem_of_getElem? (i := 1265) (by decide +kernel)) (by decide +kernel), tb_in (List.mem_of_getElem? (i := 1267) (by decide +kernel)) (by decide +kernel), tb_in (List.mem_of_getElem? (i := 59) (by decide +kernel)) (by decide +kernel), tb_in (List.mem_of_getElem? (i := 69) (by decide +kernel)) (by decide +kernel), by decide +kernel, by decide +kernel, by decide +kernel⟩
theorem lk_RX6_300 : LkS RX6 300 yX6_isSheet cX6_isSheet 2 (some .boolean) 2 := ⟨tb_in (List.mem_of_getElem? (i := 1279) (by decide +kernel)) (by decide +kernel), tb_in (List.mem_of_getElem? (i := 1277) (by decide +kernel)) (by decide +kernel), tb_in (List.mem_of_getElem? (i := 1278) (by decide +kernel)) (by decide +kernel), tb_in (List.mem_of_getElem? (i := 69) (by decide +kernel)) (by decide +kernel), by decide +kernel, by decide +kernel, by decide +kernel⟩
theorem lk_RX6_305 : LkV RX6 305 yX6_plan cX6_plan 4 (some .int) 2 := ⟨tb_in (List.mem_of_getElem? (i := 1094) (by decide +kernel)) (by decide +kernel), tb_in (List.mem_of_getElem? (i := 1290) (by decide +kernel)) (by decide +kernel), tb_in (List.mem_of_getElem? (i := 1092) (by decide +kernel)) (by decide +kernel), tb_in (List.mem_of_getElem? (i := 1093) (by decide +kernel)) (by decide +kernel), tb_in (List.mem_of_getElem? (i := 69) (by decide +kernel)) (by decide +kernel), by decide +kernel, by decide +kernel, by decide +kernel⟩
end
section
def rm_J9_max_7cf53 : Room := { frames := 0, cells := 0, slots := 0, locals := 0 }
def f_J9_max_7cf53 (a0 : Int32) (a1 : Int32) (s0 : StA) : Option (StA × Int32) :=
  (if a0 < a1 then some (s0, a1) else some (s0, a0))
set_option maxHeartbeats 4000000 in
set_option maxRecDepth 100000 in
theorem k_J9_max_7cf53 {M : MW} {a0 : Int32} {a1 : Int32} {s0 s9 : StA} {rr : Int32} (hf : f_J9_max_7cf53 a0 a1 s0 = some (s9, rr)) : CtI M yJ9_max_7cf53 cJ9_max_7cf53 2 .int rm_J9_max_7cf53 (fun ph => [.int a0, .int a1]) s0 s9 rr := by
  refine CtI.of (by decide +kernel) (fun ph => Nat.le_of_ble_eq_true rfl) (fun E O hret => ?_)
  have O : OK M E RJ9 cJ9_max_7cf53 2 rm_J9_max_7cf53 := O
  show WS M E 2 0 [(0, .int a0), (1, .int a1)] [] s0
  unfold f_J9_max_7cf53 at hf
  refine s_iload_n O 0 dJ9_max_7cf53_0 rfl rfl ?_
  refine s_iload_n O 1 dJ9_max_7cf53_1 rfl rfl ?_
  refine s_icmp_lt (tgt := 9) O dJ9_max_7cf53_2 (by decide) (fun c => ?_) (fun c => ?_)
  · replace hf := if_t c hf
    refine s_iload_n O 1 dJ9_max_7cf53_9 rfl rfl ?_
    exact s_iret hret rfl dJ9_max_7cf53_10 hf
  · replace hf := if_f c hf
    refine s_iload_n O 0 dJ9_max_7cf53_5 rfl rfl ?_
    refine s_goto (tgt := 10) O dJ9_max_7cf53_6 (by decide) ?_
    exact s_iret hret rfl dJ9_max_7cf53_10 hf
def rm_J7_fill_53178 : Room := { frames := 0, cells := 0, slots := 0, locals := 0 }
def fb_J7_fill_53178_l5 (a0 : Nat) (a0n : Nat) (a1 : Int32) (x1 : Int32) (x3 : Int32) (s0 : StA) (v2 : Int32) : Option (StA × ((Int32) ⊕ (Unit))) :=
  (if x3 ≤ v2 then some (s0, .inr ()) else gd v2 a0n (nms (si s0 a0 v2.toNatClampNeg x1) (fun s3 => some (s3, .inl (v2 + 1)))))
set_option maxHeartbeats 4000000 in
set_option maxRecDepth 100000 in
theorem wb_J7_fill_53178_l5 {M : MW} {E : XC} (O : OK M E RJ7 cJ7_fill_53178 4 rm_J7_fill_53178) {a0 : Nat} {a0n : Nat} {a1 : Int32} (ha0 : a0 < M.1 ∧ M.2 a0 = .inr (.inl (0, a0n))) {x1 : Int32} {x3 : Int32} {s0 : StA} {v2 : Int32} {s9 : StA} {rr : Unit} (hret : ReV M E cJ7_fill_53178 s9) {s8 : StA} {w8 : (Int32) ⊕ (Unit)} (Kc : ∀ v, w8 = .inl v → WS M E 4 5 [(0, rf E a0), (1, .int x1), (2, .int v), (3, .int x3)] [] s8) (Ke : ∀ e, w8 = .inr e → WS M E 4 20 [] [] s8) (hf : fb_J7_fill_53178_l5 a0 a0n a1 x1 x3 s0 v2 = some (s8, w8)) : WS M E 4 5 [(0, rf E a0), (1, .int x1), (2, .int v2), (3, .int x3)] [] s0 := by
  unfold fb_J7_fill_53178_l5 at hf
  refine s_iload_n O 2 dJ7_fill_53178_5 rfl rfl ?_
  refine s_iload_n O 3 dJ7_fill_53178_6 rfl rfl ?_
  refine s_icmp_ge (tgt := 20) O dJ7_fill_53178_7 (by decide) (fun c => ?_) (fun c => ?_)
  · replace hf := if_t c hf
    refine s_loc [] rfl ?_
    cases hf
    exact Ke _ rfl
  · replace hf := if_f c hf
    refine s_aload_n O 0 dJ7_fill_53178_10 rfl rfl ?_
    refine s_iload_n O 2 dJ7_fill_53178_11 rfl rfl ?_
    refine s_iload_n O 1 dJ7_fill_53178_12 rfl rfl ?_
    obtain ⟨h2, hf⟩ := gd_e hf
    refine s_iast O ha0 h2 dJ7_fill_53178_13 ?_
    refine s_tops (fun s3 es3 => ?_)
    replace hf := nms_e es3 hf
    refine s_iinc (v := (v2 + 1)) (lv' := [(2, .int (v2 + 1)), (0, rf E a0), (1, .int x1), (3, .int x3)]) O 2 dJ7_fill_53178_14 rfl rfl (by decide) rfl ?_
    refine s_goto (tgt := 5) O dJ7_fill_53178_17 (by decide) ?_
    refine s_loc [1, 2, 0, 3] rfl ?_
    cases hf
    exact Kc _ rfl
def fl_J7_fill_53178_l5 (a0 : Nat) (a0n : Nat) (a1 : Int32) (x1 : Int32) (x3 : Int32) (s0 : StA) (v : Int32) : Option (StA × ((Unit))) :=
  it (fun s v => fb_J7_fill_53178_l5 a0 a0n a1 x1 x3 s v) FU s0 v
def f_J7_fill_53178 (a0 : Nat) (a0n : Nat) (a1 : Int32) (s0 : StA) : Option (StA × Unit) :=
  nmi (Int32.ofNat a0n) (fun n1 => bn (fl_J7_fill_53178_l5 a0 a0n a1 a1 n1 s0 0) (fun s4 e5 => some (s4, ())))
set_option maxHeartbeats 4000000 in
set_option maxRecDepth 100000 in
theorem k_J7_fill_53178 {M : MW} {a0 : Nat} {a0n : Nat} {a1 : Int32} (ha0 : a0 < M.1 ∧ M.2 a0 = .inr (.inl (0, a0n))) {s0 s9 : StA} {rr : Unit} (hf : f_J7_fill_53178 a0 a0n a1 s0 = some (s9, rr)) : CtV M yJ7_fill_53178 cJ7_fill_53178 4 rm_J7_fill_53178 (fun ph => [.ref (ph a0), .int a1]) s0 s9 := by
  refine CtV.of (by decide +kernel) (fun ph => Nat.le_of_ble_eq_true rfl) (fun E O hret => ?_)
  have O : OK M E RJ7 cJ7_fill_53178 4 rm_J7_fill_53178 := O
  show WS M E 4 0 [(0, rf E a0), (1, .int a1)] [] s0
  unfold f_J7_fill_53178 at hf
  refine s_iconst (v := 0) O dJ7_fill_53178_0 rfl ?_
  refine s_istore_n (lv' := [(2, .int 0), (0, rf E a0), (1, .int a1)]) O dJ7_fill_53178_1 rfl (by decide) rfl ?_
  refine s_aload_n O 1 dJ7_fill_53178_2 rfl rfl ?_
  refine s_alen O ha0 rfl dJ7_fill_53178_3 ?_
  refine s_topi (fun n1 en1 => ?_)
  replace hf := nmi_e en1 hf
  refine s_istore_n (lv' := [(3, .int n1), (2, .int 0), (0, rf E a0), (1, .int a1)]) O dJ7_fill_53178_4 rfl (by decide) rfl ?_
  refine s_loc [2, 3, 1, 0] rfl ?_
  obtain ⟨s4, e5, c6, hf⟩ := bn_e hf
  refine lp_of (body := fun s v => fb_J7_fill_53178_l5 a0 a0n a1 a1 n1 s v) (X := fun s v => WS M E 4 5 [(0, rf E a0), (1, .int a1), (2, .int v), (3, .int n1)] [] s) (Y := fun s e => WS M E 4 20 [] [] s) (fun s v s' w hb Kc Ke => wb_J7_fill_53178_l5 (rr := rr) O ha0 hret Kc Ke hb) FU _ _ (s4, e5) c6 ?_
  show WS M E 4 20 [] [] s4
  exact s_vret hret dJ7_fill_53178_20 hf
def rm_X5_isIn : Room := { frames := 0, cells := 0, slots := 0, locals := 0 }
def f_X5_isIn (a0 : Int32) (a1 : Int32) (a2 : Int32) (s0 : StA) : Option (StA × Int32) :=
  (if a0 < a1 then some (s0, 0) else (if a2 < a0 then some (s0, 0) else some (s0, 1)))
set_option maxHeartbeats 4000000 in
set_option maxRecDepth 100000 in
theorem k_X5_isIn {a0 : Int32} {a1 : Int32} {a2 : Int32} {s0 s9 : StA} {rr : Int32} (hf : f_X5_isIn a0 a1 a2 s0 = some (s9, rr)) : CtI cM yX5_isIn cX5_isIn 3 .boolean rm_X5_isIn (fun ph => [.int a0, .int a1, .int a2]) s0 s9 rr := by
  refine CtI.of (by decide +kernel) (fun ph => Nat.le_of_ble_eq_true rfl) (fun E O hret => ?_)
  have O : OK cM E RX5 cX5_isIn 3 rm_X5_isIn := O
  show WS cM E 3 0 [(0, .int a0), (1, .int a1), (2, .int a2)] [] s0
  unfold f_X5_isIn at hf
  refine s_iload_n O 0 dX5_isIn_0 rfl rfl ?_
  refine s_iload_n O 1 dX5_isIn_1 rfl rfl ?_
  refine s_icmp_lt (tgt := 14) O dX5_isIn_2 (by decide) (fun c => ?_) (fun c => ?_)
  · replace hf := if_t c hf
    refine s_iconst (v := 0) O dX5_isIn_14 rfl ?_
    exact s_iret hret rfl dX5_isIn_15 hf
  · replace hf := if_f c hf
    refine s_iload_n O 0 dX5_isIn_5 rfl rfl ?_
    refine s_iload_n O 2 dX5_isIn_6 rfl rfl ?_
    refine s_icmp_gt (tgt := 14) O dX5_isIn_7 (by decide) (fun c => ?_) (fun c => ?_)
    · replace hf := if_t c hf
      refine s_iconst (v := 0) O dX5_isIn_14 rfl ?_
      exact s_iret hret rfl dX5_isIn_15 hf
    · replace hf := if_f c hf
      refine s_iconst (v := 1) O dX5_isIn_10 rfl ?_
      refine s_goto (tgt := 15) O dX5_isIn_11 (by decide) ?_
      exact s_iret hret rfl dX5_isIn_15 hf
def rm_X3_sortOf : Room := { frames := 1, cells := 0, slots := 0, locals := 22 }
def f_X3_sortOf (a0 : Int32) (s0 : StA) : Option (StA × Int32) :=
  bn (f_X5_isIn a0 97 122 s0) (fun s1 r2 => (if r2 = 0 then bn (f_X5_isIn a0 48 57 s1) (fun s4 r5 => (if r5 = 0 then (if a0 = 59 then some (s4, 3) else (if a0 = 32 then some (s4, 4) else some (s4, 5))) else some (s4, 2))) else some (s1, 1)))
set_option maxHeartbeats 4000000 in
set_option maxRecDepth 100000 in
theorem k_X3_sortOf {a0 : Int32} {s0 s9 : StA} {rr : Int32} (hf : f_X3_sortOf a0 s0 = some (s9, rr)) : CtI cM yX3_sortOf cX3_sortOf 1 .int rm_X3_sortOf (fun ph => [.int a0]) s0 s9 rr := by
  refine CtI.of (by decide +kernel) (fun ph => Nat.le_of_ble_eq_true rfl) (fun E O hret => ?_)
  have O : OK cM E RX3 cX3_sortOf 1 rm_X3_sortOf := O
  show WS cM E 1 0 [(0, .int a0)] [] s0
  unfold f_X3_sortOf at hf
  refine s_iload_n O 0 dX3_sortOf_0 rfl rfl ?_
  refine s_bipush (v := 97) O dX3_sortOf_1 rfl ?_
  refine s_bipush (v := 122) O dX3_sortOf_3 rfl ?_
  obtain ⟨s1, r2, c3, hf⟩ := bn_e hf
  refine s_NI (As := [.int a0, .int 97, .int 122]) (st := []) O lk_RX3_26 (k_X5_isIn c3) rfl rfl ⟨rfl, rfl⟩ ⟨Nat.le_of_ble_eq_true rfl, Nat.le_of_ble_eq_true rfl⟩ rfl (Nat.le_of_ble_eq_true rfl) dX3_sortOf_5 ?_
  refine s_if_eq (tgt := 13) O dX3_sortOf_8 (by decide) (fun c => ?_) (fun c => ?_)
  · replace hf := if_t c hf
    refine s_iload_n O 0 dX3_sortOf_13 rfl rfl ?_
    refine s_bipush (v := 48) O dX3_sortOf_14 rfl ?_
    refine s_bipush (v := 57) O dX3_sortOf_16 rfl ?_
    obtain ⟨s4, r5, c6, hf⟩ := bn_e hf
    refine s_NI (As := [.int a0, .int 48, .int 57]) (st := []) O lk_RX3_26 (k_X5_isIn c6) rfl rfl ⟨rfl, rfl⟩ ⟨Nat.le_of_ble_eq_true rfl, Nat.le_of_ble_eq_true rfl⟩ rfl (Nat.le_of_ble_eq_true rfl) dX3_sortOf_18 ?_
    refine s_if_eq (tgt := 26) O dX3_sortOf_21 (by decide) (fun c => ?_) (fun c => ?_)
    · replace hf := if_t c hf
      refine s_iload_n O 0 dX3_sortOf_26 rfl rfl ?_
      refine s_bipush (v := 59) O dX3_sortOf_27 rfl ?_
      refine s_icmp_ne (tgt := 36) O dX3_sortOf_29 (by decide) (fun c => ?_) (fun c => ?_)
      · replace hf := if_f c hf
        refine s_iload_n O 0 dX3_sortOf_36 rfl rfl ?_
        refine s_bipush (v := 32) O dX3_sortOf_37 rfl ?_
        refine s_icmp_ne (tgt := 46) O dX3_sortOf_39 (by decide) (fun c => ?_) (fun c => ?_)
        · replace hf := if_f c hf
          refine s_iconst (v := 5) O dX3_sortOf_46 rfl ?_
          exact s_iret hret rfl dX3_sortOf_47 hf
        · replace hf := if_t c hf
          refine s_iconst (v := 4) O dX3_sortOf_42 rfl ?_
          refine s_goto (tgt := 47) O dX3_sortOf_43 (by decide) ?_
          exact s_iret hret rfl dX3_sortOf_47 hf
      · replace hf := if_t c hf
        refine s_iconst (v := 3) O dX3_sortOf_32 rfl ?_
        refine s_goto (tgt := 47) O dX3_sortOf_33 (by decide) ?_
        exact s_iret hret rfl dX3_sortOf_47 hf
    · replace hf := if_f c hf
      refine s_iconst (v := 2) O dX3_sortOf_24 rfl ?_
      exact s_iret hret rfl dX3_sortOf_25 hf
  · replace hf := if_f c hf
    refine s_iconst (v := 1) O dX3_sortOf_11 rfl ?_
    exact s_iret hret rfl dX3_sortOf_12 hf
def rm_X3_append : Room := { frames := 2, cells := 0, slots := 0, locals := 42 }
def f_X3_append (a1 : Int32) (s0 : StA) : Option (StA × Int32) :=
  (if (gi s0 47 2) < 160 then gd (gi s0 47 2) 160 (nms (si s0 48 ((gi s0 47 2).toNatClampNeg) a1) (fun s2 => bn (f_X3_sortOf a1 s2) (fun s3 r4 => gd (gi s2 47 2) 160 (nms (si s3 49 ((gi s2 47 2).toNatClampNeg) r4) (fun s7 => nms (si s7 47 2 ((gi s7 47 2) + 1)) (fun s8 => some (s8, (gi s8 47 2)))))))) else some (s0, (-3)))
set_option maxHeartbeats 4000000 in
set_option maxRecDepth 100000 in
theorem k_X3_append {a1 : Int32} {s0 s9 : StA} {rr : Int32} (hf : f_X3_append a1 s0 = some (s9, rr)) : CtI cM yX3_append cX3_append 2 .int rm_X3_append (fun ph => [.ref (ph 47), .int a1]) s0 s9 rr := by
  refine CtI.of (by decide +kernel) (fun ph => Nat.le_of_ble_eq_true rfl) (fun E O hret => ?_)
  have O : OK cM E RX3 cX3_append 2 rm_X3_append := O
  show WS cM E 2 0 [(0, rf E 47), (1, .int a1)] [] s0
  unfold f_X3_append at hf
  refine s_aload_n O 0 dX3_append_0 rfl rfl ?_
  refine s_getI O fg_RX3_18 cs_47 rfl dX3_append_1 ?_
  refine s_sipush (v := 160) O dX3_append_4 rfl ?_
  refine s_icmp_lt (tgt := 13) O dX3_append_7 (by decide) (fun c => ?_) (fun c => ?_)
  · replace hf := if_t c hf
    refine s_aload_n O 0 dX3_append_13 rfl rfl ?_
    refine s_getR O fg_RX3_9 cs_47 rfl dX3_append_14 ?_
    refine s_aload_n O 0 dX3_append_17 rfl rfl ?_
    refine s_getI O fg_RX3_18 cs_47 rfl dX3_append_18 ?_
    refine s_iload_n O 1 dX3_append_21 rfl rfl ?_
    obtain ⟨h1, hf⟩ := gd_e hf
    refine s_iast O cs_48 h1 dX3_append_22 ?_
    refine s_tops (fun s2 es2 => ?_)
    replace hf := nms_e es2 hf
    refine s_aload_n O 0 dX3_append_23 rfl rfl ?_
    refine s_getR O fg_RX3_15 cs_47 rfl dX3_append_24 ?_
    refine s_aload_n O 0 dX3_append_27 rfl rfl ?_
    refine s_getI O fg_RX3_18 cs_47 rfl dX3_append_28 ?_
    refine s_iload_n O 1 dX3_append_31 rfl rfl ?_
    obtain ⟨s3, r4, c5, hf⟩ := bn_e hf
    refine s_SI (As := [.int a1]) (st := [.int (gi s2 47 2), rf E 49]) O lk_RX3_22 (k_X3_sortOf c5) rfl rfl ⟨rfl, rfl⟩ ⟨Nat.le_of_ble_eq_true rfl, Nat.le_of_ble_eq_true rfl⟩ rfl (Nat.le_of_ble_eq_true rfl) dX3_append_32 ?_
    obtain ⟨h6, hf⟩ := gd_e hf
    refine s_iast O cs_49 h6 dX3_append_35 ?_
    refine s_tops (fun s7 es7 => ?_)
    replace hf := nms_e es7 hf
    refine s_aload_n O 0 dX3_append_36 rfl rfl ?_
    refine s_dup O dX3_append_37 rfl ?_
    refine s_getI O fg_RX3_18 cs_47 rfl dX3_append_38 ?_
    refine s_iconst (v := 1) O dX3_append_41 rfl ?_
    refine s_iadd O dX3_append_42 ?_
    refine s_putI O fp_RX3_18 cs_47 rfl dX3_append_43 ?_
    refine s_tops (fun s8 es8 => ?_)
    replace hf := nms_e es8 hf
    refine s_aload_n O 0 dX3_append_46 rfl rfl ?_
    refine s_getI O fg_RX3_18 cs_47 rfl dX3_append_47 ?_
    exact s_iret hret rfl dX3_append_50 hf
  · replace hf := if_f c hf
    refine s_bipush (v := (-3)) O dX3_append_10 rfl ?_
    exact s_iret hret rfl dX3_append_12 hf
def rm_X5_feed : Room := { frames := 3, cells := 0, slots := 0, locals := 63 }
def f_X5_feed (a1 : Int32) (s0 : StA) : Option (StA × Int32) :=
  bn (f_X5_isIn a1 0 127 s0) (fun s1 r2 => (if r2 = 0 then some (s1, (-1)) else bn (f_X3_append a1 s1) (fun s4 r5 => some (s4, r5))))
set_option maxHeartbeats 4000000 in
set_option maxRecDepth 100000 in
theorem k_X5_feed {a1 : Int32} {s0 s9 : StA} {rr : Int32} (hf : f_X5_feed a1 s0 = some (s9, rr)) : CtI cM yX5_feed cX5_feed 2 .int rm_X5_feed (fun ph => [.ref (ph 0), .int a1]) s0 s9 rr := by
  refine CtI.of (by decide +kernel) (fun ph => Nat.le_of_ble_eq_true rfl) (fun E O hret => ?_)
  have O : OK cM E RX5 cX5_feed 2 rm_X5_feed := O
  show WS cM E 2 0 [(0, rf E 0), (1, .int a1)] [] s0
  unfold f_X5_feed at hf
  refine s_iload_n O 1 dX5_feed_0 rfl rfl ?_
  refine s_iconst (v := 0) O dX5_feed_1 rfl ?_
  refine s_bipush (v := 127) O dX5_feed_2 rfl ?_
  obtain ⟨s1, r2, c3, hf⟩ := bn_e hf
  refine s_SI (As := [.int a1, .int 0, .int 127]) (st := []) O lk_RX5_57 (k_X5_isIn c3) rfl rfl ⟨rfl, rfl⟩ ⟨Nat.le_of_ble_eq_true rfl, Nat.le_of_ble_eq_true rfl⟩ rfl (Nat.le_of_ble_eq_true rfl) dX5_feed_4 ?_
  refine s_if_ne (tgt := 12) O dX5_feed_7 (by decide) (fun c => ?_) (fun c => ?_)
  · replace hf := if_f c hf
    refine s_aload_n O 0 dX5_feed_12 rfl rfl ?_
    refine s_getR O fg_RX5_30 cs_0 rfl dX5_feed_13 ?_
    refine s_iload_n O 1 dX5_feed_16 rfl rfl ?_
    obtain ⟨s4, r5, c6, hf⟩ := bn_e hf
    refine s_VI (As := [.int a1]) (st := []) O lk_RX5_61 (k_X3_append c6) rfl cs_47 rfl rfl ⟨rfl, rfl⟩ ⟨Nat.le_of_ble_eq_true rfl, Nat.le_of_ble_eq_true rfl⟩ rfl (Nat.le_of_ble_eq_true rfl) dX5_feed_17 ?_
    exact s_iret hret rfl dX5_feed_20 hf
  · replace hf := if_t c hf
    refine s_iconst (v := (-1)) O dX5_feed_10 rfl ?_
    exact s_iret hret rfl dX5_feed_11 hf
def rm_X3_keepFirst : Room := { frames := 1, cells := 0, slots := 0, locals := 22 }
def f_X3_keepFirst (a1 : Int32) (s0 : StA) : Option (StA × Int32) :=
  bn (f_X5_isIn a1 0 (gi s0 47 2) s0) (fun s1 r2 => (if r2 = 0 then some (s1, (-1)) else nmi (gi s1 47 2) (fun n4 => nms (si s1 47 2 a1) (fun s5 => some (s5, n4)))))
set_option maxHeartbeats 4000000 in
set_option maxRecDepth 100000 in
theorem k_X3_keepFirst {a1 : Int32} {s0 s9 : StA} {rr : Int32} (hf : f_X3_keepFirst a1 s0 = some (s9, rr)) : CtI cM yX3_keepFirst cX3_keepFirst 3 .int rm_X3_keepFirst (fun ph => [.ref (ph 47), .int a1]) s0 s9 rr := by
  refine CtI.of (by decide +kernel) (fun ph => Nat.le_of_ble_eq_true rfl) (fun E O hret => ?_)
  have O : OK cM E RX3 cX3_keepFirst 3 rm_X3_keepFirst := O
  show WS cM E 3 0 [(0, rf E 47), (1, .int a1)] [] s0
  unfold f_X3_keepFirst at hf
  refine s_iload_n O 1 dX3_keepFirst_0 rfl rfl ?_
  refine s_iconst (v := 0) O dX3_keepFirst_1 rfl ?_
  refine s_aload_n O 0 dX3_keepFirst_2 rfl rfl ?_
  refine s_getI O fg_RX3_18 cs_47 rfl dX3_keepFirst_3 ?_
  obtain ⟨s1, r2, c3, hf⟩ := bn_e hf
  refine s_NI (As := [.int a1, .int 0, .int (gi s0 47 2)]) (st := []) O lk_RX3_26 (k_X5_isIn c3) rfl rfl ⟨rfl, rfl⟩ ⟨Nat.le_of_ble_eq_true rfl, Nat.le_of_ble_eq_true rfl⟩ rfl (Nat.le_of_ble_eq_true rfl) dX3_keepFirst_6 ?_
  refine s_if_ne (tgt := 14) O dX3_keepFirst_9 (by decide) (fun c => ?_) (fun c => ?_)
  · replace hf := if_f c hf
    refine s_aload_n O 0 dX3_keepFirst_14 rfl rfl ?_
    refine s_getI O fg_RX3_18 cs_47 rfl dX3_keepFirst_15 ?_
    refine s_topi (fun n4 en4 => ?_)
    replace hf := nmi_e en4 hf
    refine s_istore_n (lv' := [(2, .int n4), (0, rf E 47), (1, .int a1)]) O dX3_keepFirst_18 rfl (by decide) rfl ?_
    refine s_aload_n O 1 dX3_keepFirst_19 rfl rfl ?_
    refine s_iload_n O 2 dX3_keepFirst_20 rfl rfl ?_
    refine s_putI O fp_RX3_18 cs_47 rfl dX3_keepFirst_21 ?_
    refine s_tops (fun s5 es5 => ?_)
    replace hf := nms_e es5 hf
    refine s_iload_n O 0 dX3_keepFirst_24 rfl rfl ?_
    exact s_iret hret rfl dX3_keepFirst_25 hf
  · replace hf := if_t c hf
    refine s_iconst (v := (-1)) O dX3_keepFirst_12 rfl ?_
    exact s_iret hret rfl dX3_keepFirst_13 hf
def rm_X5_end : Room := { frames := 2, cells := 0, slots := 0, locals := 44 }
def f_X5_end (a1 : Int32) (s0 : StA) : Option (StA × Int32) :=
  bn (f_X3_keepFirst a1 s0) (fun s1 r2 => some (s1, r2))
set_option maxHeartbeats 4000000 in
set_option maxRecDepth 100000 in
theorem k_X5_end {a1 : Int32} {s0 s9 : StA} {rr : Int32} (hf : f_X5_end a1 s0 = some (s9, rr)) : CtI cM yX5_end cX5_end 2 .int rm_X5_end (fun ph => [.ref (ph 0), .int a1]) s0 s9 rr := by
  refine CtI.of (by decide +kernel) (fun ph => Nat.le_of_ble_eq_true rfl) (fun E O hret => ?_)
  have O : OK cM E RX5 cX5_end 2 rm_X5_end := O
  show WS cM E 2 0 [(0, rf E 0), (1, .int a1)] [] s0
  unfold f_X5_end at hf
  refine s_aload_n O 0 dX5_end_0 rfl rfl ?_
  refine s_getR O fg_RX5_30 cs_0 rfl dX5_end_1 ?_
  refine s_iload_n O 1 dX5_end_4 rfl rfl ?_
  obtain ⟨s1, r2, c3, hf⟩ := bn_e hf
  refine s_VI (As := [.int a1]) (st := []) O lk_RX5_65 (k_X3_keepFirst c3) rfl cs_47 rfl rfl ⟨rfl, rfl⟩ ⟨Nat.le_of_ble_eq_true rfl, Nat.le_of_ble_eq_true rfl⟩ rfl (Nat.le_of_ble_eq_true rfl) dX5_end_5 ?_
  exact s_iret hret rfl dX5_end_8 hf
def rm_X5_forgetImages : Room := { frames := 0, cells := 0, slots := 0, locals := 0 }
def fb_X5_forgetImages_l2   (s0 : StA) (v1 : Int32) : Option (StA × ((Int32) ⊕ (Unit))) :=
  (if 2 ≤ v1 then some (s0, .inr ()) else gd v1 2 (nms (si s0 46 v1.toNatClampNeg 0) (fun s2 => some (s2, .inl (v1 + 1)))))
set_option maxHeartbeats 4000000 in
set_option maxRecDepth 100000 in
theorem wb_X5_forgetImages_l2 {E : XC} (O : OK cM E RX5 cX5_forgetImages 2 rm_X5_forgetImages)   {s0 : StA} {v1 : Int32} {s9 : StA} {rr : Unit} (hret : ReV cM E cX5_forgetImages s9) {s8 : StA} {w8 : (Int32) ⊕ (Unit)} (Kc : ∀ v, w8 = .inl v → WS cM E 2 2 [(0, rf E 0), (1, .int v)] [] s8) (Ke : ∀ e, w8 = .inr e → WS cM E 2 20 [] [] s8) (hf : fb_X5_forgetImages_l2  s0 v1 = some (s8, w8)) : WS cM E 2 2 [(0, rf E 0), (1, .int v1)] [] s0 := by
  unfold fb_X5_forgetImages_l2 at hf
  refine s_iload_n O 1 dX5_forgetImages_2 rfl rfl ?_
  refine s_iconst (v := 2) O dX5_forgetImages_3 rfl ?_
  refine s_icmp_ge (tgt := 20) O dX5_forgetImages_4 (by decide) (fun c => ?_) (fun c => ?_)
  · replace hf := if_t c hf
    refine s_loc [] rfl ?_
    cases hf
    exact Ke _ rfl
  · replace hf := if_f c hf
    refine s_aload_n O 0 dX5_forgetImages_7 rfl rfl ?_
    refine s_getR O fg_RX5_23 cs_0 rfl dX5_forgetImages_8 ?_
    refine s_iload_n O 1 dX5_forgetImages_11 rfl rfl ?_
    refine s_iconst (v := 0) O dX5_forgetImages_12 rfl ?_
    obtain ⟨h1, hf⟩ := gd_e hf
    refine s_zast O (Or.inl rfl) cs_46 h1 dX5_forgetImages_13 ?_
    refine s_tops (fun s2 es2 => ?_)
    replace hf := nms_e es2 hf
    refine s_iinc (v := (v1 + 1)) (lv' := [(1, .int (v1 + 1)), (0, rf E 0)]) O 1 dX5_forgetImages_14 rfl rfl (by decide) rfl ?_
    refine s_goto (tgt := 2) O dX5_forgetImages_17 (by decide) ?_
    refine s_loc [1, 0] rfl ?_
    cases hf
    exact Kc _ rfl
def fl_X5_forgetImages_l2   (s0 : StA) (v : Int32) : Option (StA × ((Unit))) :=
  it (fun s v => fb_X5_forgetImages_l2  s v) FU s0 v
def f_X5_forgetImages  (s0 : StA) : Option (StA × Unit) :=
  bn (fl_X5_forgetImages_l2  s0 0) (fun s3 e4 => some (s3, ()))
set_option maxHeartbeats 4000000 in
set_option maxRecDepth 100000 in
theorem k_X5_forgetImages  {s0 s9 : StA} {rr : Unit} (hf : f_X5_forgetImages  s0 = some (s9, rr)) : CtV cM yX5_forgetImages cX5_forgetImages 2 rm_X5_forgetImages (fun ph => [.ref (ph 0)]) s0 s9 := by
  refine CtV.of (by decide +kernel) (fun ph => Nat.le_of_ble_eq_true rfl) (fun E O hret => ?_)
  have O : OK cM E RX5 cX5_forgetImages 2 rm_X5_forgetImages := O
  show WS cM E 2 0 [(0, rf E 0)] [] s0
  unfold f_X5_forgetImages at hf
  refine s_iconst (v := 0) O dX5_forgetImages_0 rfl ?_
  refine s_istore_n (lv' := [(1, .int 0), (0, rf E 0)]) O dX5_forgetImages_1 rfl (by decide) rfl ?_
  refine s_loc [1, 0] rfl ?_
  obtain ⟨s3, e4, c5, hf⟩ := bn_e hf
  refine lp_of (body := fun s v => fb_X5_forgetImages_l2  s v) (X := fun s v => WS cM E 2 2 [(0, rf E 0), (1, .int v)] [] s) (Y := fun s e => WS cM E 2 20 [] [] s) (fun s v s' w hb Kc Ke => wb_X5_forgetImages_l2 (rr := rr) O  hret Kc Ke hb) FU _ _ (s3, e4) c5 ?_
  show WS cM E 2 20 [] [] s3
  exact s_vret hret dX5_forgetImages_20 hf
def rm_X2_copyFrom : Room := { frames := 0, cells := 0, slots := 0, locals := 0 }
def fb_X2_copyFrom_l10 (k : Nat) (a1 : Nat)  (s0 : StA) (v2 : Int32) : Option (StA × ((Int32) ⊕ (Unit))) :=
  (if (gi s0 k 2) ≤ v2 then some (s0, .inr ()) else gd v2 (pr_n a1) (gd v2 (pr_n k) (nms (si s0 (k + 1) v2.toNatClampNeg (gi s0 (a1 + 1) v2.toNatClampNeg)) (fun s4 => gd v2 (pr_n a1) (gd v2 (pr_n k) (nms (si s4 (k + 2) v2.toNatClampNeg (gi s4 (a1 + 2) v2.toNatClampNeg)) (fun s7 => some (s7, .inl (v2 + 1)))))))))
set_option maxHeartbeats 4000000 in
set_option maxRecDepth 100000 in
theorem wb_X2_copyFrom_l10 {E : XC} (O : OK cM E RX2 cX2_copyFrom 3 rm_X2_copyFrom) {k : Nat} {a1 : Nat} (hk : isPr k) (ha1 : isPr a1)  {s0 : StA} {v2 : Int32} {s9 : StA} {rr : Unit} (hret : ReV cM E cX2_copyFrom s9) {s8 : StA} {w8 : (Int32) ⊕ (Unit)} (Kc : ∀ v, w8 = .inl v → WS cM E 3 10 [(0, rf E k), (1, rf E a1), (2, .int v)] [] s8) (Ke : ∀ e, w8 = .inr e → WS cM E 3 48 [] [] s8) (hf : fb_X2_copyFrom_l10 k a1 s0 v2 = some (s8, w8)) : WS cM E 3 10 [(0, rf E k), (1, rf E a1), (2, .int v2)] [] s0 := by
  unfold fb_X2_copyFrom_l10 at hf
  refine s_iload_n O 2 dX2_copyFrom_10 rfl rfl ?_
  refine s_aload_n O 0 dX2_copyFrom_11 rfl rfl ?_
  refine s_getI O fg_RX2_24 (pr_0 hk) rfl dX2_copyFrom_12 ?_
  refine s_icmp_ge (tgt := 48) O dX2_copyFrom_15 (by decide) (fun c => ?_) (fun c => ?_)
  · replace hf := if_t c hf
    refine s_loc [] rfl ?_
    cases hf
    exact Ke _ rfl
  · replace hf := if_f c hf
    refine s_aload_n O 0 dX2_copyFrom_18 rfl rfl ?_
    refine s_getR O fg_RX2_15 (pr_0 hk) rfl dX2_copyFrom_19 ?_
    refine s_iload_n O 2 dX2_copyFrom_22 rfl rfl ?_
    refine s_aload_n O 1 dX2_copyFrom_23 rfl rfl ?_
    refine s_getR O fg_RX2_15 (pr_0 ha1) rfl dX2_copyFrom_24 ?_
    refine s_iload_n O 2 dX2_copyFrom_27 rfl rfl ?_
    obtain ⟨h2, hf⟩ := gd_e hf
    refine s_iald O (pr_1 ha1) h2 dX2_copyFrom_28 ?_
    obtain ⟨h3, hf⟩ := gd_e hf
    refine s_iast O (pr_1 hk) h3 dX2_copyFrom_29 ?_
    refine s_tops (fun s4 es4 => ?_)
    replace hf := nms_e es4 hf
    refine s_aload_n O 0 dX2_copyFrom_30 rfl rfl ?_
    refine s_getR O fg_RX2_21 (pr_0 hk) rfl dX2_copyFrom_31 ?_
    refine s_iload_n O 2 dX2_copyFrom_34 rfl rfl ?_
    refine s_aload_n O 1 dX2_copyFrom_35 rfl rfl ?_
    refine s_getR O fg_RX2_21 (pr_0 ha1) rfl dX2_copyFrom_36 ?_
    refine s_iload_n O 2 dX2_copyFrom_39 rfl rfl ?_
    obtain ⟨h5, hf⟩ := gd_e hf
    refine s_iald O (pr_2 ha1) h5 dX2_copyFrom_40 ?_
    obtain ⟨h6, hf⟩ := gd_e hf
    refine s_iast O (pr_2 hk) h6 dX2_copyFrom_41 ?_
    refine s_tops (fun s7 es7 => ?_)
    replace hf := nms_e es7 hf
    refine s_iinc (v := (v2 + 1)) (lv' := [(2, .int (v2 + 1)), (0, rf E k), (1, rf E a1)]) O 2 dX2_copyFrom_42 rfl rfl (by decide) rfl ?_
    refine s_goto (tgt := 10) O dX2_copyFrom_45 (by decide) ?_
    refine s_loc [1, 2, 0] rfl ?_
    cases hf
    exact Kc _ rfl
def fl_X2_copyFrom_l10 (k : Nat) (a1 : Nat)  (s0 : StA) (v : Int32) : Option (StA × ((Unit))) :=
  it (fun s v => fb_X2_copyFrom_l10 k a1 s v) FU s0 v
def f_X2_copyFrom (k : Nat) (a1 : Nat) (s0 : StA) : Option (StA × Unit) :=
  nms (si s0 k 2 (gi s0 a1 2)) (fun s1 => bn (fl_X2_copyFrom_l10 k a1 s1 0) (fun s8 e9 => some (s8, ())))
set_option maxHeartbeats 4000000 in
set_option maxRecDepth 100000 in
theorem k_X2_copyFrom {k : Nat} {a1 : Nat} (hk : isPr k) (ha1 : isPr a1) {s0 s9 : StA} {rr : Unit} (hf : f_X2_copyFrom k a1 s0 = some (s9, rr)) : CtV cM yX2_copyFrom cX2_copyFrom 3 rm_X2_copyFrom (fun ph => [.ref (ph k), .ref (ph a1)]) s0 s9 := by
  refine CtV.of (by decide +kernel) (fun ph => Nat.le_of_ble_eq_true rfl) (fun E O hret => ?_)
  have O : OK cM E RX2 cX2_copyFrom 3 rm_X2_copyFrom := O
  show WS cM E 3 0 [(0, rf E k), (1, rf E a1)] [] s0
  unfold f_X2_copyFrom at hf
  refine s_aload_n O 0 dX2_copyFrom_0 rfl rfl ?_
  refine s_aload_n O 1 dX2_copyFrom_1 rfl rfl ?_
  refine s_getI O fg_RX2_24 (pr_0 ha1) rfl dX2_copyFrom_2 ?_
  refine s_putI O fp_RX2_24 (pr_0 hk) rfl dX2_copyFrom_5 ?_
  refine s_tops (fun s1 es1 => ?_)
  replace hf := nms_e es1 hf
  refine s_iconst (v := 0) O dX2_copyFrom_8 rfl ?_
  refine s_istore_n (lv' := [(2, .int 0), (0, rf E k), (1, rf E a1)]) O dX2_copyFrom_9 rfl (by decide) rfl ?_
  refine s_loc [1, 2, 0] rfl ?_
  obtain ⟨s8, e9, c10, hf⟩ := bn_e hf
  refine lp_of (body := fun s v => fb_X2_copyFrom_l10 k a1 s v) (X := fun s v => WS cM E 3 10 [(0, rf E k), (1, rf E a1), (2, .int v)] [] s) (Y := fun s e => WS cM E 3 48 [] [] s) (fun s v s' w hb Kc Ke => wb_X2_copyFrom_l10 (rr := rr) O hk ha1 hret Kc Ke hb) FU _ _ (s8, e9) c10 ?_
  show WS cM E 3 48 [] [] s8
  exact s_vret hret dX2_copyFrom_48 hf
def rm_X1_copyFrom : Room := { frames := 1, cells := 0, slots := 0, locals := 22 }
def fb_X1_copyFrom_l10 (k : Nat) (a1 : Nat)  (s0 : StA) (v2 : Int32) : Option (StA × ((Int32) ⊕ (Unit))) :=
  (if (gi s0 k 6) ≤ v2 then some (s0, .inr ()) else gd v2 6 (gd v2 6 (nms (si s0 (k + 1) v2.toNatClampNeg (gi s0 (a1 + 1) v2.toNatClampNeg)) (fun s4 => gd v2 6 (gd v2 6 (nms (si s4 (k + 2) v2.toNatClampNeg (gi s4 (a1 + 2) v2.toNatClampNeg)) (fun s7 => gd v2 6 (gd v2 6 (nms (si s7 (k + 3) v2.toNatClampNeg (gi s7 (a1 + 3) v2.toNatClampNeg)) (fun s10 => some (s10, .inl (v2 + 1))))))))))))
set_option maxHeartbeats 4000000 in
set_option maxRecDepth 100000 in
theorem wb_X1_copyFrom_l10 {E : XC} (O : OK cM E RX1 cX1_copyFrom 3 rm_X1_copyFrom) {k : Nat} {a1 : Nat} (hk : isFl k) (ha1 : isFl a1)  {s0 : StA} {v2 : Int32} {s9 : StA} {rr : Unit} (hret : ReV cM E cX1_copyFrom s9) {s8 : StA} {w8 : (Int32) ⊕ (Unit)} (Kc : ∀ v, w8 = .inl v → WS cM E 3 10 [(0, rf E k), (1, rf E a1), (2, .int v)] [] s8) (Ke : ∀ e, w8 = .inr e → WS cM E 3 60 [(0, rf E k), (1, rf E a1)] [] s8) (hf : fb_X1_copyFrom_l10 k a1 s0 v2 = some (s8, w8)) : WS cM E 3 10 [(0, rf E k), (1, rf E a1), (2, .int v2)] [] s0 := by
  unfold fb_X1_copyFrom_l10 at hf
  refine s_iload_n O 2 dX1_copyFrom_10 rfl rfl ?_
  refine s_aload_n O 0 dX1_copyFrom_11 rfl rfl ?_
  refine s_getI O fg_RX1_46 (fl_0 hk) rfl dX1_copyFrom_12 ?_
  refine s_icmp_ge (tgt := 60) O dX1_copyFrom_15 (by decide) (fun c => ?_) (fun c => ?_)
  · replace hf := if_t c hf
    refine s_loc [0, 1] rfl ?_
    cases hf
    exact Ke _ rfl
  · replace hf := if_f c hf
    refine s_aload_n O 0 dX1_copyFrom_18 rfl rfl ?_
    refine s_getR O fg_RX1_9 (fl_0 hk) rfl dX1_copyFrom_19 ?_
    refine s_iload_n O 2 dX1_copyFrom_22 rfl rfl ?_
    refine s_aload_n O 1 dX1_copyFrom_23 rfl rfl ?_
    refine s_getR O fg_RX1_9 (fl_0 ha1) rfl dX1_copyFrom_24 ?_
    refine s_iload_n O 2 dX1_copyFrom_27 rfl rfl ?_
    obtain ⟨h2, hf⟩ := gd_e hf
    refine s_iald O (fl_1 ha1) h2 dX1_copyFrom_28 ?_
    obtain ⟨h3, hf⟩ := gd_e hf
    refine s_iast O (fl_1 hk) h3 dX1_copyFrom_29 ?_
    refine s_tops (fun s4 es4 => ?_)
    replace hf := nms_e es4 hf
    refine s_aload_n O 0 dX1_copyFrom_30 rfl rfl ?_
    refine s_getR O fg_RX1_15 (fl_0 hk) rfl dX1_copyFrom_31 ?_
    refine s_iload_n O 2 dX1_copyFrom_34 rfl rfl ?_
    refine s_aload_n O 1 dX1_copyFrom_35 rfl rfl ?_
    refine s_getR O fg_RX1_15 (fl_0 ha1) rfl dX1_copyFrom_36 ?_
    refine s_iload_n O 2 dX1_copyFrom_39 rfl rfl ?_
    obtain ⟨h5, hf⟩ := gd_e hf
    refine s_iald O (fl_2 ha1) h5 dX1_copyFrom_40 ?_
    obtain ⟨h6, hf⟩ := gd_e hf
    refine s_iast O (fl_2 hk) h6 dX1_copyFrom_41 ?_
    refine s_tops (fun s7 es7 => ?_)
    replace hf := nms_e es7 hf
    refine s_aload_n O 0 dX1_copyFrom_42 rfl rfl ?_
    refine s_getR O fg_RX1_18 (fl_0 hk) rfl dX1_copyFrom_43 ?_
    refine s_iload_n O 2 dX1_copyFrom_46 rfl rfl ?_
    refine s_aload_n O 1 dX1_copyFrom_47 rfl rfl ?_
    refine s_getR O fg_RX1_18 (fl_0 ha1) rfl dX1_copyFrom_48 ?_
    refine s_iload_n O 2 dX1_copyFrom_51 rfl rfl ?_
    obtain ⟨h8, hf⟩ := gd_e hf
    refine s_iald O (fl_3 ha1) h8 dX1_copyFrom_52 ?_
    obtain ⟨h9, hf⟩ := gd_e hf
    refine s_iast O (fl_3 hk) h9 dX1_copyFrom_53 ?_
    refine s_tops (fun s10 es10 => ?_)
    replace hf := nms_e es10 hf
    refine s_iinc (v := (v2 + 1)) (lv' := [(2, .int (v2 + 1)), (0, rf E k), (1, rf E a1)]) O 2 dX1_copyFrom_54 rfl rfl (by decide) rfl ?_
    refine s_goto (tgt := 10) O dX1_copyFrom_57 (by decide) ?_
    refine s_loc [1, 2, 0] rfl ?_
    cases hf
    exact Kc _ rfl
def fl_X1_copyFrom_l10 (k : Nat) (a1 : Nat)  (s0 : StA) (v : Int32) : Option (StA × ((Unit))) :=
  it (fun s v => fb_X1_copyFrom_l10 k a1 s v) FU s0 v
def fb_X1_copyFrom_l62 (k : Nat) (a1 : Nat)  (s0 : StA) (v2 : Int32) : Option (StA × ((Int32) ⊕ (Unit))) :=
  (if 5 ≤ v2 then some (s0, .inr ()) else gd v2 5 (gd v2 5 (nms (si s0 (k + 4) v2.toNatClampNeg (gi s0 (a1 + 4) v2.toNatClampNeg)) (fun s16 => some (s16, .inl (v2 + 1))))))
set_option maxHeartbeats 4000000 in
set_option maxRecDepth 100000 in
theorem wb_X1_copyFrom_l62 {E : XC} (O : OK cM E RX1 cX1_copyFrom 3 rm_X1_copyFrom) {k : Nat} {a1 : Nat} (hk : isFl k) (ha1 : isFl a1)  {s0 : StA} {v2 : Int32} {s9 : StA} {rr : Unit} (hret : ReV cM E cX1_copyFrom s9) {s8 : StA} {w8 : (Int32) ⊕ (Unit)} (Kc : ∀ v, w8 = .inl v → WS cM E 3 62 [(0, rf E k), (1, rf E a1), (2, .int v)] [] s8) (Ke : ∀ e, w8 = .inr e → WS cM E 3 85 [(0, rf E k), (1, rf E a1)] [] s8) (hf : fb_X1_copyFrom_l62 k a1 s0 v2 = some (s8, w8)) : WS cM E 3 62 [(0, rf E k), (1, rf E a1), (2, .int v2)] [] s0 := by
  unfold fb_X1_copyFrom_l62 at hf
  refine s_iload_n O 2 dX1_copyFrom_62 rfl rfl ?_
  refine s_iconst (v := 5) O dX1_copyFrom_63 rfl ?_
  refine s_icmp_ge (tgt := 85) O dX1_copyFrom_64 (by decide) (fun c => ?_) (fun c => ?_)
  · replace hf := if_t c hf
    refine s_loc [0, 1] rfl ?_
    cases hf
    exact Ke _ rfl
  · replace hf := if_f c hf
    refine s_aload_n O 0 dX1_copyFrom_67 rfl rfl ?_
    refine s_getR O fg_RX1_21 (fl_0 hk) rfl dX1_copyFrom_68 ?_
    refine s_iload_n O 2 dX1_copyFrom_71 rfl rfl ?_
    refine s_aload_n O 1 dX1_copyFrom_72 rfl rfl ?_
    refine s_getR O fg_RX1_21 (fl_0 ha1) rfl dX1_copyFrom_73 ?_
    refine s_iload_n O 2 dX1_copyFrom_76 rfl rfl ?_
    obtain ⟨h14, hf⟩ := gd_e hf
    refine s_iald O (fl_4 ha1) h14 dX1_copyFrom_77 ?_
    obtain ⟨h15, hf⟩ := gd_e hf
    refine s_iast O (fl_4 hk) h15 dX1_copyFrom_78 ?_
    refine s_tops (fun s16 es16 => ?_)
    replace hf := nms_e es16 hf
    refine s_iinc (v := (v2 + 1)) (lv' := [(2, .int (v2 + 1)), (0, rf E k), (1, rf E a1)]) O 2 dX1_copyFrom_79 rfl rfl (by decide) rfl ?_
    refine s_goto (tgt := 62) O dX1_copyFrom_82 (by decide) ?_
    refine s_loc [1, 2, 0] rfl ?_
    cases hf
    exact Kc _ rfl
def fl_X1_copyFrom_l62 (k : Nat) (a1 : Nat)  (s0 : StA) (v : Int32) : Option (StA × ((Unit))) :=
  it (fun s v => fb_X1_copyFrom_l62 k a1 s v) FU s0 v
def f_X1_copyFrom (k : Nat) (a1 : Nat) (s0 : StA) : Option (StA × Unit) :=
  nms (si s0 k 6 (gi s0 a1 6)) (fun s1 => bn (fl_X1_copyFrom_l10 k a1 s1 0) (fun s11 e12 => bn (fl_X1_copyFrom_l62 k a1 s11 0) (fun s17 e18 => bn (f_X2_copyFrom (k + 5) (a1 + 5) s17) (fun s20 r21 => bn (f_X2_copyFrom (k + 8) (a1 + 8) s20) (fun s23 r24 => nms (si s23 k 7 (gi s23 a1 7)) (fun s26 => nms (si s26 k 8 (gi s26 a1 8)) (fun s27 => nms (si s27 k 9 (gi s27 a1 9)) (fun s28 => nms (si s28 k 10 (gi s28 a1 10)) (fun s29 => nms (si s29 k 11 (gi s29 a1 11)) (fun s30 => some (s30, ())))))))))))
set_option maxHeartbeats 4000000 in
set_option maxRecDepth 100000 in
theorem k_X1_copyFrom {k : Nat} {a1 : Nat} (hk : isFl k) (ha1 : isFl a1) {s0 s9 : StA} {rr : Unit} (hf : f_X1_copyFrom k a1 s0 = some (s9, rr)) : CtV cM yX1_copyFrom cX1_copyFrom 3 rm_X1_copyFrom (fun ph => [.ref (ph k), .ref (ph a1)]) s0 s9 := by
  refine CtV.of (by decide +kernel) (fun ph => Nat.le_of_ble_eq_true rfl) (fun E O hret => ?_)
  have O : OK cM E RX1 cX1_copyFrom 3 rm_X1_copyFrom := O
  show WS cM E 3 0 [(0, rf E k), (1, rf E a1)] [] s0
  unfold f_X1_copyFrom at hf
  refine s_aload_n O 0 dX1_copyFrom_0 rfl rfl ?_
  refine s_aload_n O 1 dX1_copyFrom_1 rfl rfl ?_
  refine s_getI O fg_RX1_46 (fl_0 ha1) rfl dX1_copyFrom_2 ?_
  refine s_putI O fp_RX1_46 (fl_0 hk) rfl dX1_copyFrom_5 ?_
  refine s_tops (fun s1 es1 => ?_)
  replace hf := nms_e es1 hf
  refine s_iconst (v := 0) O dX1_copyFrom_8 rfl ?_
  refine s_istore_n (lv' := [(2, .int 0), (0, rf E k), (1, rf E a1)]) O dX1_copyFrom_9 rfl (by decide) rfl ?_
  refine s_loc [1, 2, 0] rfl ?_
  obtain ⟨s11, e12, c13, hf⟩ := bn_e hf
  refine lp_of (body := fun s v => fb_X1_copyFrom_l10 k a1 s v) (X := fun s v => WS cM E 3 10 [(0, rf E k), (1, rf E a1), (2, .int v)] [] s) (Y := fun s e => WS cM E 3 60 [(0, rf E k), (1, rf E a1)] [] s) (fun s v s' w hb Kc Ke => wb_X1_copyFrom_l10 (rr := rr) O hk ha1 hret Kc Ke hb) FU _ _ (s11, e12) c13 ?_
  show WS cM E 3 60 [(0, rf E k), (1, rf E a1)] [] s11
  refine s_iconst (v := 0) O dX1_copyFrom_60 rfl ?_
  refine s_istore_n (lv' := [(2, .int 0), (0, rf E k), (1, rf E a1)]) O dX1_copyFrom_61 rfl (by decide) rfl ?_
  refine s_loc [1, 2, 0] rfl ?_
  obtain ⟨s17, e18, c19, hf⟩ := bn_e hf
  refine lp_of (body := fun s v => fb_X1_copyFrom_l62 k a1 s v) (X := fun s v => WS cM E 3 62 [(0, rf E k), (1, rf E a1), (2, .int v)] [] s) (Y := fun s e => WS cM E 3 85 [(0, rf E k), (1, rf E a1)] [] s) (fun s v s' w hb Kc Ke => wb_X1_copyFrom_l62 (rr := rr) O hk ha1 hret Kc Ke hb) FU _ _ (s17, e18) c19 ?_
  show WS cM E 3 85 [(0, rf E k), (1, rf E a1)] [] s17
  refine s_aload_n O 0 dX1_copyFrom_85 rfl rfl ?_
  refine s_getR O fg_RX1_29 (fl_0 hk) rfl dX1_copyFrom_86 ?_
  refine s_aload_n O 1 dX1_copyFrom_89 rfl rfl ?_
  refine s_getR O fg_RX1_29 (fl_0 ha1) rfl dX1_copyFrom_90 ?_
  obtain ⟨s20, r21, c22, hf⟩ := bn_e hf
  refine s_VV (As := [rf E (a1 + 5)]) (st := []) O lk_RX1_64 (k_X2_copyFrom (fp_5 hk) (fp_5 ha1) c22) rfl (fl_5 hk) rfl rfl ⟨rfl, rfl⟩ ⟨Nat.le_of_ble_eq_true rfl, Nat.le_of_ble_eq_true rfl⟩ rfl (Nat.le_of_ble_eq_true rfl) dX1_copyFrom_93 ?_
  refine s_aload_n O 0 dX1_copyFrom_96 rfl rfl ?_
  refine s_getR O fg_RX1_33 (fl_0 hk) rfl dX1_copyFrom_97 ?_
  refine s_aload_n O 1 dX1_copyFrom_100 rfl rfl ?_
  refine s_getR O fg_RX1_33 (fl_0 ha1) rfl dX1_copyFrom_101 ?_
  obtain ⟨s23, r24, c25, hf⟩ := bn_e hf
  refine s_VV (As := [rf E (a1 + 8)]) (st := []) O lk_RX1_64 (k_X2_copyFrom (fp_8 hk) (fp_8 ha1) c25) rfl (fl_8 hk) rfl rfl ⟨rfl, rfl⟩ ⟨Nat.le_of_ble_eq_true rfl, Nat.le_of_ble_eq_true rfl⟩ rfl (Nat.le_of_ble_eq_true rfl) dX1_copyFrom_104 ?_
  refine s_aload_n O 0 dX1_copyFrom_107 rfl rfl ?_
  refine s_aload_n O 1 dX1_copyFrom_108 rfl rfl ?_
  refine s_getI O fg_RX1_49 (fl_0 ha1) rfl dX1_copyFrom_109 ?_
  refine s_putI O fp_RX1_49 (fl_0 hk) rfl dX1_copyFrom_112 ?_
  refine s_tops (fun s26 es26 => ?_)
  replace hf := nms_e es26 hf
  refine s_aload_n O 0 dX1_copyFrom_115 rfl rfl ?_
  refine s_aload_n O 1 dX1_copyFrom_116 rfl rfl ?_
  refine s_getI O fg_RX1_52 (fl_0 ha1) rfl dX1_copyFrom_117 ?_
  refine s_putI O fp_RX1_52 (fl_0 hk) rfl dX1_copyFrom_120 ?_
  refine s_tops (fun s27 es27 => ?_)
  replace hf := nms_e es27 hf
  refine s_aload_n O 0 dX1_copyFrom_123 rfl rfl ?_
  refine s_aload_n O 1 dX1_copyFrom_124 rfl rfl ?_
  refine s_getI O fg_RX1_55 (fl_0 ha1) rfl dX1_copyFrom_125 ?_
  refine s_putI O fp_RX1_55 (fl_0 hk) rfl dX1_copyFrom_128 ?_
  refine s_tops (fun s28 es28 => ?_)
  replace hf := nms_e es28 hf
  refine s_aload_n O 0 dX1_copyFrom_131 rfl rfl ?_
  refine s_aload_n O 1 dX1_copyFrom_132 rfl rfl ?_
  refine s_getI O fg_RX1_36 (fl_0 ha1) rfl dX1_copyFrom_133 ?_
  refine s_putI O fp_RX1_36 (fl_0 hk) rfl dX1_copyFrom_136 ?_
  refine s_tops (fun s29 es29 => ?_)
  replace hf := nms_e es29 hf
  refine s_aload_n O 0 dX1_copyFrom_139 rfl rfl ?_
  refine s_aload_n O 1 dX1_copyFrom_140 rfl rfl ?_
  refine s_getI O fg_RX1_58 (fl_0 ha1) rfl dX1_copyFrom_141 ?_
  refine s_putI O fp_RX1_58 (fl_0 hk) rfl dX1_copyFrom_144 ?_
  refine s_tops (fun s30 es30 => ?_)
  replace hf := nms_e es30 hf
  exact s_vret hret dX1_copyFrom_147 hf
def rm_X1_clear : Room := { frames := 1, cells := 0, slots := 0, locals := 23 }
def f_X1_clear (k : Nat) (s0 : StA) : Option (StA × Unit) :=
  nms (si s0 k 6 0) (fun s1 => nms (si s1 k 7 0) (fun s2 => nms (si s2 k 8 0) (fun s3 => nms (si s3 k 9 0) (fun s4 => nms (si s4 k 10 1) (fun s5 => nms (si s5 k 11 0) (fun s6 => bn (f_J7_fill_53178 (k + 4) 5 4 s6) (fun s7 r8 => nms (si s7 (k + 5) 2 0) (fun s10 => nms (si s10 (k + 8) 2 0) (fun s11 => some (s11, ()))))))))))
set_option maxHeartbeats 4000000 in
set_option maxRecDepth 100000 in
theorem k_X1_clear {k : Nat} (hk : isFl k) {s0 s9 : StA} {rr : Unit} (hf : f_X1_clear k s0 = some (s9, rr)) : CtV cM yX1_clear cX1_clear 1 rm_X1_clear (fun ph => [.ref (ph k)]) s0 s9 := by
  refine CtV.of (by decide +kernel) (fun ph => Nat.le_of_ble_eq_true rfl) (fun E O hret => ?_)
  have O : OK cM E RX1 cX1_clear 1 rm_X1_clear := O
  show WS cM E 1 0 [(0, rf E k)] [] s0
  unfold f_X1_clear at hf
  refine s_aload_n O 0 dX1_clear_0 rfl rfl ?_
  refine s_iconst (v := 0) O dX1_clear_1 rfl ?_
  refine s_putI O fp_RX1_46 (fl_0 hk) rfl dX1_clear_2 ?_
  refine s_tops (fun s1 es1 => ?_)
  replace hf := nms_e es1 hf
  refine s_aload_n O 0 dX1_clear_5 rfl rfl ?_
  refine s_iconst (v := 0) O dX1_clear_6 rfl ?_
  refine s_putI O fp_RX1_49 (fl_0 hk) rfl dX1_clear_7 ?_
  refine s_tops (fun s2 es2 => ?_)
  replace hf := nms_e es2 hf
  refine s_aload_n O 0 dX1_clear_10 rfl rfl ?_
  refine s_iconst (v := 0) O dX1_clear_11 rfl ?_
  refine s_putI O fp_RX1_52 (fl_0 hk) rfl dX1_clear_12 ?_
  refine s_tops (fun s3 es3 => ?_)
  replace hf := nms_e es3 hf
  refine s_aload_n O 0 dX1_clear_15 rfl rfl ?_
  refine s_iconst (v := 0) O dX1_clear_16 rfl ?_
  refine s_putI O fp_RX1_55 (fl_0 hk) rfl dX1_clear_17 ?_
  refine s_tops (fun s4 es4 => ?_)
  replace hf := nms_e es4 hf
  refine s_aload_n O 0 dX1_clear_20 rfl rfl ?_
  refine s_iconst (v := 1) O dX1_clear_21 rfl ?_
  refine s_putI O fp_RX1_36 (fl_0 hk) rfl dX1_clear_22 ?_
  refine s_tops (fun s5 es5 => ?_)
  replace hf := nms_e es5 hf
  refine s_aload_n O 0 dX1_clear_25 rfl rfl ?_
  refine s_iconst (v := 0) O dX1_clear_26 rfl ?_
  refine s_putI O fp_RX1_58 (fl_0 hk) rfl dX1_clear_27 ?_
  refine s_tops (fun s6 es6 => ?_)
  replace hf := nms_e es6 hf
  refine s_aload_n O 0 dX1_clear_30 rfl rfl ?_
  refine s_getR O fg_RX1_21 (fl_0 hk) rfl dX1_clear_31 ?_
  refine s_iconst (v := 4) O dX1_clear_34 rfl ?_
  obtain ⟨s7, r8, c9, hf⟩ := bn_e hf
  refine s_SV (As := [rf E (k + 4), .int 4]) (st := []) O lk_RX1_40 (k_J7_fill_53178 (fl_4 hk) c9) rfl rfl ⟨rfl, rfl⟩ ⟨Nat.le_of_ble_eq_true rfl, Nat.le_of_ble_eq_true rfl⟩ rfl (Nat.le_of_ble_eq_true rfl) dX1_clear_35 ?_
  refine s_aload_n O 0 dX1_clear_38 rfl rfl ?_
  refine s_getR O fg_RX1_29 (fl_0 hk) rfl dX1_clear_39 ?_
  refine s_iconst (v := 0) O dX1_clear_42 rfl ?_
  refine s_putI O fp_RX1_61 (fl_5 hk) rfl dX1_clear_43 ?_
  refine s_tops (fun s10 es10 => ?_)
  replace hf := nms_e es10 hf
  refine s_aload_n O 0 dX1_clear_46 rfl rfl ?_
  refine s_getR O fg_RX1_33 (fl_0 hk) rfl dX1_clear_47 ?_
  refine s_iconst (v := 0) O dX1_clear_50 rfl ?_
  refine s_putI O fp_RX1_61 (fl_8 hk) rfl dX1_clear_51 ?_
  refine s_tops (fun s11 es11 => ?_)
  replace hf := nms_e es11 hf
  exact s_vret hret dX1_clear_54 hf
end
