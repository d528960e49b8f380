-- ===== PART A: goes FIRST, ahead of the names: the tables' words, and 'selects' of the private methods out of them =====
/-- a private method of a class that the tables say can be made, by its rows of tables_1 -/
def lw_okq (q : MethodName × Nat) : Prop := (q.1.cls ≠ "java/lang/invoke/MethodHandle" ∧ q.1.cls ≠ "java/lang/invoke/VarHandle") ∧ Cond.instantiable q.1.cls q.2 ∈ tables_1 ∧ Cond.privateMethod q.1 ∈ tables_1 ∧ Cond.instanceMethod q.1 ∈ tables_1
theorem lw_p0 : lw_okq (⟨"SongRefinery", "sumOfSquares", "(I)J"⟩, 12) := ⟨⟨by decide +kernel, by decide +kernel⟩, List.mem_of_getElem? (i := 28) (by decide +kernel), List.mem_of_getElem? (i := 253) (by decide +kernel), List.mem_of_getElem? (i := 254) (by decide +kernel)⟩
theorem lw_p1 : lw_okq (⟨"SongRefinery", "sendSong", "(I)I"⟩, 12) := ⟨⟨by decide +kernel, by decide +kernel⟩, List.mem_of_getElem? (i := 28) (by decide +kernel), List.mem_of_getElem? (i := 257) (by decide +kernel), List.mem_of_getElem? (i := 258) (by decide +kernel)⟩
theorem lw_p2 : lw_okq (⟨"SongRefinery$Refining", "pass", "(LSongRefinery$Chain;III)I"⟩, 3) := ⟨⟨by decide +kernel, by decide +kernel⟩, List.mem_of_getElem? (i := 149) (by decide +kernel), List.mem_of_getElem? (i := 279) (by decide +kernel), List.mem_of_getElem? (i := 280) (by decide +kernel)⟩
theorem lw_p3 : lw_okq (⟨"SongRefinery$Refining", "recall", "(II)I"⟩, 3) := ⟨⟨by decide +kernel, by decide +kernel⟩, List.mem_of_getElem? (i := 149) (by decide +kernel), List.mem_of_getElem? (i := 292) (by decide +kernel), List.mem_of_getElem? (i := 293) (by decide +kernel)⟩
theorem lw_p4 : lw_okq (⟨"SongRefinery", "bothWaysAgree", "(I)Z"⟩, 12) := ⟨⟨by decide +kernel, by decide +kernel⟩, List.mem_of_getElem? (i := 28) (by decide +kernel), List.mem_of_getElem? (i := 354) (by decide +kernel), List.mem_of_getElem? (i := 355) (by decide +kernel)⟩
theorem lw_p5 : lw_okq (⟨"SongRefinery$Refining", "passAll", "(III)V"⟩, 3) := ⟨⟨by decide +kernel, by decide +kernel⟩, List.mem_of_getElem? (i := 149) (by decide +kernel), List.mem_of_getElem? (i := 363) (by decide +kernel), List.mem_of_getElem? (i := 364) (by decide +kernel)⟩
theorem lw_p6 : lw_okq (⟨"SongRefinery$Refining", "givenAt", "(III)I"⟩, 3) := ⟨⟨by decide +kernel, by decide +kernel⟩, List.mem_of_getElem? (i := 149) (by decide +kernel), List.mem_of_getElem? (i := 367) (by decide +kernel), List.mem_of_getElem? (i := 368) (by decide +kernel)⟩
theorem lw_p7 : lw_okq (⟨"SongRefinery", "dropsOnCopy", "(I)I"⟩, 12) := ⟨⟨by decide +kernel, by decide +kernel⟩, List.mem_of_getElem? (i := 28) (by decide +kernel), List.mem_of_getElem? (i := 375) (by decide +kernel), List.mem_of_getElem? (i := 376) (by decide +kernel)⟩
theorem lw_p8 : lw_okq (⟨"SongRefinery", "pourSong", "(LSongRefinery$State;LSongRefinery$Tanks;I)I"⟩, 12) := ⟨⟨by decide +kernel, by decide +kernel⟩, List.mem_of_getElem? (i := 28) (by decide +kernel), List.mem_of_getElem? (i := 394) (by decide +kernel), List.mem_of_getElem? (i := 395) (by decide +kernel)⟩
theorem lw_p9 : lw_okq (⟨"SongRefinery$Tanks", "accepts", "(II)Z"⟩, 8) := ⟨⟨by decide +kernel, by decide +kernel⟩, List.mem_of_getElem? (i := 80) (by decide +kernel), List.mem_of_getElem? (i := 409) (by decide +kernel), List.mem_of_getElem? (i := 410) (by decide +kernel)⟩
theorem lw_p10 : lw_okq (⟨"SongRefinery$Tanks", "roomOf", "(I)I"⟩, 8) := ⟨⟨by decide +kernel, by decide +kernel⟩, List.mem_of_getElem? (i := 80) (by decide +kernel), List.mem_of_getElem? (i := 426) (by decide +kernel), List.mem_of_getElem? (i := 427) (by decide +kernel)⟩
theorem lw_p11 : lw_okq (⟨"SongRefinery$Tanks", "setFrame", "(III)V"⟩, 8) := ⟨⟨by decide +kernel, by decide +kernel⟩, List.mem_of_getElem? (i := 80) (by decide +kernel), List.mem_of_getElem? (i := 430) (by decide +kernel), List.mem_of_getElem? (i := 431) (by decide +kernel)⟩
theorem lw_p12 : lw_okq (⟨"SongRefinery", "dropsFromLevels", "(I)I"⟩, 12) := ⟨⟨by decide +kernel, by decide +kernel⟩, List.mem_of_getElem? (i := 28) (by decide +kernel), List.mem_of_getElem? (i := 435) (by decide +kernel), List.mem_of_getElem? (i := 436) (by decide +kernel)⟩
theorem lw_p13 : lw_okq (⟨"SongRefinery", "roomiestFor", "(I)I"⟩, 12) := ⟨⟨by decide +kernel, by decide +kernel⟩, List.mem_of_getElem? (i := 28) (by decide +kernel), List.mem_of_getElem? (i := 442) (by decide +kernel), List.mem_of_getElem? (i := 443) (by decide +kernel)⟩
theorem lw_p14 : lw_okq (⟨"java/lang/Throwable", "fillInStackTrace", "(I)Ljava/lang/Throwable;"⟩, 6) := ⟨⟨by decide +kernel, by decide +kernel⟩, List.mem_of_getElem? (i := 534) (by decide +kernel), List.mem_of_getElem? (i := 532) (by decide +kernel), List.mem_of_getElem? (i := 533) (by decide +kernel)⟩
theorem lw_p15 : lw_okq (⟨"SongRefinery$History", "stateAt", "(I)LSongRefinery$State;"⟩, 3) := ⟨⟨by decide +kernel, by decide +kernel⟩, List.mem_of_getElem? (i := 130) (by decide +kernel), List.mem_of_getElem? (i := 616) (by decide +kernel), List.mem_of_getElem? (i := 617) (by decide +kernel)⟩
def lw_privs_1 : List (MethodName × Nat) := [(⟨"SongRefinery", "sumOfSquares", "(I)J"⟩, 12), (⟨"SongRefinery", "sendSong", "(I)I"⟩, 12), (⟨"SongRefinery$Refining", "pass", "(LSongRefinery$Chain;III)I"⟩, 3), (⟨"SongRefinery$Refining", "recall", "(II)I"⟩, 3), (⟨"SongRefinery", "bothWaysAgree", "(I)Z"⟩, 12), (⟨"SongRefinery$Refining", "passAll", "(III)V"⟩, 3), (⟨"SongRefinery$Refining", "givenAt", "(III)I"⟩, 3), (⟨"SongRefinery", "dropsOnCopy", "(I)I"⟩, 12), (⟨"SongRefinery", "pourSong", "(LSongRefinery$State;LSongRefinery$Tanks;I)I"⟩, 12), (⟨"SongRefinery$Tanks", "accepts", "(II)Z"⟩, 8), (⟨"SongRefinery$Tanks", "roomOf", "(I)I"⟩, 8), (⟨"SongRefinery$Tanks", "setFrame", "(III)V"⟩, 8), (⟨"SongRefinery", "dropsFromLevels", "(I)I"⟩, 12), (⟨"SongRefinery", "roomiestFor", "(I)I"⟩, 12), (⟨"java/lang/Throwable", "fillInStackTrace", "(I)Ljava/lang/Throwable;"⟩, 6), (⟨"SongRefinery$History", "stateAt", "(I)LSongRefinery$State;"⟩, 3)]
theorem lw_r1 : ∀ q ∈ lw_privs_1, lw_okq q := List.forall_mem_cons.mpr ⟨lw_p0, List.forall_mem_cons.mpr ⟨lw_p1, List.forall_mem_cons.mpr ⟨lw_p2, List.forall_mem_cons.mpr ⟨lw_p3, List.forall_mem_cons.mpr ⟨lw_p4, List.forall_mem_cons.mpr ⟨lw_p5, List.forall_mem_cons.mpr ⟨lw_p6, List.forall_mem_cons.mpr ⟨lw_p7, List.forall_mem_cons.mpr ⟨lw_p8, List.forall_mem_cons.mpr ⟨lw_p9, List.forall_mem_cons.mpr ⟨lw_p10, List.forall_mem_cons.mpr ⟨lw_p11, List.forall_mem_cons.mpr ⟨lw_p12, List.forall_mem_cons.mpr ⟨lw_p13, List.forall_mem_cons.mpr ⟨lw_p14, List.forall_mem_cons.mpr ⟨lw_p15, fun _ h => absurd h List.not_mem_nil⟩⟩⟩⟩⟩⟩⟩⟩⟩⟩⟩⟩⟩⟩⟩⟩
theorem lw_p16 : lw_okq (⟨"SongRefinery$Chain", "setFilter", "(III)V"⟩, 3) := ⟨⟨by decide +kernel, by decide +kernel⟩, List.mem_of_getElem? (i := 42) (by decide +kernel), List.mem_of_getElem? (i := 629) (by decide +kernel), List.mem_of_getElem? (i := 630) (by decide +kernel)⟩
theorem lw_p17 : lw_okq (⟨"SongRefinery", "filteredOrZero", "(II)I"⟩, 12) := ⟨⟨by decide +kernel, by decide +kernel⟩, List.mem_of_getElem? (i := 28) (by decide +kernel), List.mem_of_getElem? (i := 786) (by decide +kernel), List.mem_of_getElem? (i := 787) (by decide +kernel)⟩
theorem lw_p18 : lw_okq (⟨"SongRefinery$Tanks", "tanksAheadOf", "(I)I"⟩, 8) := ⟨⟨by decide +kernel, by decide +kernel⟩, List.mem_of_getElem? (i := 80) (by decide +kernel), List.mem_of_getElem? (i := 959) (by decide +kernel), List.mem_of_getElem? (i := 960) (by decide +kernel)⟩
theorem lw_p19 : lw_okq (⟨"SongRefinery$Tanks", "isAhead", "(II)Z"⟩, 8) := ⟨⟨by decide +kernel, by decide +kernel⟩, List.mem_of_getElem? (i := 80) (by decide +kernel), List.mem_of_getElem? (i := 963) (by decide +kernel), List.mem_of_getElem? (i := 964) (by decide +kernel)⟩
theorem lw_p20 : lw_okq (⟨"SongRefinery$CommandText", "takeCommand", "()Z"⟩, 6) := ⟨⟨by decide +kernel, by decide +kernel⟩, List.mem_of_getElem? (i := 167) (by decide +kernel), List.mem_of_getElem? (i := 996) (by decide +kernel), List.mem_of_getElem? (i := 997) (by decide +kernel)⟩
theorem lw_p21 : lw_okq (⟨"SongRefinery$CommandText", "sameCharacters", "(Ljava/lang/String;)I"⟩, 6) := ⟨⟨by decide +kernel, by decide +kernel⟩, List.mem_of_getElem? (i := 167) (by decide +kernel), List.mem_of_getElem? (i := 1002) (by decide +kernel), List.mem_of_getElem? (i := 1003) (by decide +kernel)⟩
theorem lw_p22 : lw_okq (⟨"SongRefinery$CommandText", "characterAt", "(I)I"⟩, 6) := ⟨⟨by decide +kernel, by decide +kernel⟩, List.mem_of_getElem? (i := 167) (by decide +kernel), List.mem_of_getElem? (i := 1016) (by decide +kernel), List.mem_of_getElem? (i := 1017) (by decide +kernel)⟩
theorem lw_p23 : lw_okq (⟨"SongRefinery$CommandText", "takeNumbers", "(LSongRefinery$Word;)Z"⟩, 6) := ⟨⟨by decide +kernel, by decide +kernel⟩, List.mem_of_getElem? (i := 167) (by decide +kernel), List.mem_of_getElem? (i := 1059) (by decide +kernel), List.mem_of_getElem? (i := 1060) (by decide +kernel)⟩
theorem lw_p24 : lw_okq (⟨"SongRefinery$CommandText", "takeSign", "(C)Z"⟩, 6) := ⟨⟨by decide +kernel, by decide +kernel⟩, List.mem_of_getElem? (i := 167) (by decide +kernel), List.mem_of_getElem? (i := 1063) (by decide +kernel), List.mem_of_getElem? (i := 1064) (by decide +kernel)⟩
theorem lw_p25 : lw_okq (⟨"SongRefinery$CommandText", "takeNumber", "(I)I"⟩, 6) := ⟨⟨by decide +kernel, by decide +kernel⟩, List.mem_of_getElem? (i := 167) (by decide +kernel), List.mem_of_getElem? (i := 1067) (by decide +kernel), List.mem_of_getElem? (i := 1068) (by decide +kernel)⟩
theorem lw_p26 : lw_okq (⟨"SongRefinery", "faultOfCommand", "(LSongRefinery$State;I)I"⟩, 12) := ⟨⟨by decide +kernel, by decide +kernel⟩, List.mem_of_getElem? (i := 28) (by decide +kernel), List.mem_of_getElem? (i := 1081) (by decide +kernel), List.mem_of_getElem? (i := 1082) (by decide +kernel)⟩
theorem lw_p27 : lw_okq (⟨"SongRefinery", "carryOut", "(LSongRefinery$State;I)V"⟩, 12) := ⟨⟨by decide +kernel, by decide +kernel⟩, List.mem_of_getElem? (i := 28) (by decide +kernel), List.mem_of_getElem? (i := 1094) (by decide +kernel), List.mem_of_getElem? (i := 1095) (by decide +kernel)⟩
theorem lw_p28 : lw_okq (⟨"SongRefineryModel", "begins", "()V"⟩, 23) := ⟨⟨by decide +kernel, by decide +kernel⟩, List.mem_of_getElem? (i := 1194) (by decide +kernel), List.mem_of_getElem? (i := 1278) (by decide +kernel), List.mem_of_getElem? (i := 1279) (by decide +kernel)⟩
theorem lw_p29 : lw_okq (⟨"SongRefineryModel", "adds", "(II)I"⟩, 23) := ⟨⟨by decide +kernel, by decide +kernel⟩, List.mem_of_getElem? (i := 1194) (by decide +kernel), List.mem_of_getElem? (i := 1285) (by decide +kernel), List.mem_of_getElem? (i := 1286) (by decide +kernel)⟩
theorem lw_p30 : lw_okq (⟨"SongRefineryModel", "fail", "(I)I"⟩, 23) := ⟨⟨by decide +kernel, by decide +kernel⟩, List.mem_of_getElem? (i := 1194) (by decide +kernel), List.mem_of_getElem? (i := 1295) (by decide +kernel), List.mem_of_getElem? (i := 1296) (by decide +kernel)⟩
theorem lw_p31 : lw_okq (⟨"SongRefineryModel", "inserts", "(III)I"⟩, 23) := ⟨⟨by decide +kernel, by decide +kernel⟩, List.mem_of_getElem? (i := 1194) (by decide +kernel), List.mem_of_getElem? (i := 1299) (by decide +kernel), List.mem_of_getElem? (i := 1300) (by decide +kernel)⟩
def lw_privs_2 : List (MethodName × Nat) := [(⟨"SongRefinery$Chain", "setFilter", "(III)V"⟩, 3), (⟨"SongRefinery", "filteredOrZero", "(II)I"⟩, 12), (⟨"SongRefinery$Tanks", "tanksAheadOf", "(I)I"⟩, 8), (⟨"SongRefinery$Tanks", "isAhead", "(II)Z"⟩, 8), (⟨"SongRefinery$CommandText", "takeCommand", "()Z"⟩, 6), (⟨"SongRefinery$CommandText", "sameCharacters", "(Ljava/lang/String;)I"⟩, 6), (⟨"SongRefinery$CommandText", "characterAt", "(I)I"⟩, 6), (⟨"SongRefinery$CommandText", "takeNumbers", "(LSongRefinery$Word;)Z"⟩, 6), (⟨"SongRefinery$CommandText", "takeSign", "(C)Z"⟩, 6), (⟨"SongRefinery$CommandText", "takeNumber", "(I)I"⟩, 6), (⟨"SongRefinery", "faultOfCommand", "(LSongRefinery$State;I)I"⟩, 12), (⟨"SongRefinery", "carryOut", "(LSongRefinery$State;I)V"⟩, 12), (⟨"SongRefineryModel", "begins", "()V"⟩, 23), (⟨"SongRefineryModel", "adds", "(II)I"⟩, 23), (⟨"SongRefineryModel", "fail", "(I)I"⟩, 23), (⟨"SongRefineryModel", "inserts", "(III)I"⟩, 23)]
theorem lw_r2 : ∀ q ∈ lw_privs_2, lw_okq q := List.forall_mem_cons.mpr ⟨lw_p16, List.forall_mem_cons.mpr ⟨lw_p17, List.forall_mem_cons.mpr ⟨lw_p18, List.forall_mem_cons.mpr ⟨lw_p19, List.forall_mem_cons.mpr ⟨lw_p20, List.forall_mem_cons.mpr ⟨lw_p21, List.forall_mem_cons.mpr ⟨lw_p22, List.forall_mem_cons.mpr ⟨lw_p23, List.forall_mem_cons.mpr ⟨lw_p24, List.forall_mem_cons.mpr ⟨lw_p25, List.forall_mem_cons.mpr ⟨lw_p26, List.forall_mem_cons.mpr ⟨lw_p27, List.forall_mem_cons.mpr ⟨lw_p28, List.forall_mem_cons.mpr ⟨lw_p29, List.forall_mem_cons.mpr ⟨lw_p30, List.forall_mem_cons.mpr ⟨lw_p31, fun _ h => absurd h List.not_mem_nil⟩⟩⟩⟩⟩⟩⟩⟩⟩⟩⟩⟩⟩⟩⟩⟩
theorem lw_p32 : lw_okq (⟨"SongRefineryModel", "ends", "(I)I"⟩, 23) := ⟨⟨by decide +kernel, by decide +kernel⟩, List.mem_of_getElem? (i := 1194) (by decide +kernel), List.mem_of_getElem? (i := 1303) (by decide +kernel), List.mem_of_getElem? (i := 1304) (by decide +kernel)⟩
theorem lw_p33 : lw_okq (⟨"SongRefineryModel", "puts", "(III)I"⟩, 23) := ⟨⟨by decide +kernel, by decide +kernel⟩, List.mem_of_getElem? (i := 1194) (by decide +kernel), List.mem_of_getElem? (i := 1311) (by decide +kernel), List.mem_of_getElem? (i := 1312) (by decide +kernel)⟩
theorem lw_p34 : lw_okq (⟨"SongRefineryModel", "takes", "(I)I"⟩, 23) := ⟨⟨by decide +kernel, by decide +kernel⟩, List.mem_of_getElem? (i := 1194) (by decide +kernel), List.mem_of_getElem? (i := 1319) (by decide +kernel), List.mem_of_getElem? (i := 1320) (by decide +kernel)⟩
theorem lw_p35 : lw_okq (⟨"SongRefineryModel", "isFilter", "(I)Z"⟩, 23) := ⟨⟨by decide +kernel, by decide +kernel⟩, List.mem_of_getElem? (i := 1194) (by decide +kernel), List.mem_of_getElem? (i := 1323) (by decide +kernel), List.mem_of_getElem? (i := 1324) (by decide +kernel)⟩
theorem lw_p36 : lw_okq (⟨"SongRefineryModel", "swaps", "(II)I"⟩, 23) := ⟨⟨by decide +kernel, by decide +kernel⟩, List.mem_of_getElem? (i := 1194) (by decide +kernel), List.mem_of_getElem? (i := 1331) (by decide +kernel), List.mem_of_getElem? (i := 1332) (by decide +kernel)⟩
theorem lw_p37 : lw_okq (⟨"SongRefineryModel", "notes", "(IIII)I"⟩, 23) := ⟨⟨by decide +kernel, by decide +kernel⟩, List.mem_of_getElem? (i := 1194) (by decide +kernel), List.mem_of_getElem? (i := 1354) (by decide +kernel), List.mem_of_getElem? (i := 1355) (by decide +kernel)⟩
theorem lw_p38 : lw_okq (⟨"SongRefineryModel", "takesNote", "(I)I"⟩, 23) := ⟨⟨by decide +kernel, by decide +kernel⟩, List.mem_of_getElem? (i := 1194) (by decide +kernel), List.mem_of_getElem? (i := 1365) (by decide +kernel), List.mem_of_getElem? (i := 1366) (by decide +kernel)⟩
theorem lw_p39 : lw_okq (⟨"SongRefineryModel", "tells", "(II)I"⟩, 23) := ⟨⟨by decide +kernel, by decide +kernel⟩, List.mem_of_getElem? (i := 1194) (by decide +kernel), List.mem_of_getElem? (i := 1373) (by decide +kernel), List.mem_of_getElem? (i := 1374) (by decide +kernel)⟩
theorem lw_p40 : lw_okq (⟨"SongRefineryModel", "looks", "(II)I"⟩, 23) := ⟨⟨by decide +kernel, by decide +kernel⟩, List.mem_of_getElem? (i := 1194) (by decide +kernel), List.mem_of_getElem? (i := 1385) (by decide +kernel), List.mem_of_getElem? (i := 1386) (by decide +kernel)⟩
theorem lw_p41 : lw_okq (⟨"SongRefineryModel", "isSample", "(II)Z"⟩, 23) := ⟨⟨by decide +kernel, by decide +kernel⟩, List.mem_of_getElem? (i := 1194) (by decide +kernel), List.mem_of_getElem? (i := 1389) (by decide +kernel), List.mem_of_getElem? (i := 1390) (by decide +kernel)⟩
theorem lw_p42 : lw_okq (⟨"SongRefineryModel", "filters", "(I)V"⟩, 23) := ⟨⟨by decide +kernel, by decide +kernel⟩, List.mem_of_getElem? (i := 1194) (by decide +kernel), List.mem_of_getElem? (i := 1397) (by decide +kernel), List.mem_of_getElem? (i := 1398) (by decide +kernel)⟩
theorem lw_p43 : lw_okq (⟨"SongRefineryModel", "passes", "(III)I"⟩, 23) := ⟨⟨by decide +kernel, by decide +kernel⟩, List.mem_of_getElem? (i := 1194) (by decide +kernel), List.mem_of_getElem? (i := 1401) (by decide +kernel), List.mem_of_getElem? (i := 1402) (by decide +kernel)⟩
theorem lw_p44 : lw_okq (⟨"SongRefineryModel", "mean", "(II)I"⟩, 23) := ⟨⟨by decide +kernel, by decide +kernel⟩, List.mem_of_getElem? (i := 1194) (by decide +kernel), List.mem_of_getElem? (i := 1405) (by decide +kernel), List.mem_of_getElem? (i := 1406) (by decide +kernel)⟩
theorem lw_p45 : lw_okq (⟨"SongRefineryModel", "loud", "(II)I"⟩, 23) := ⟨⟨by decide +kernel, by decide +kernel⟩, List.mem_of_getElem? (i := 1194) (by decide +kernel), List.mem_of_getElem? (i := 1422) (by decide +kernel), List.mem_of_getElem? (i := 1423) (by decide +kernel)⟩
theorem lw_p46 : lw_okq (⟨"SongRefineryModel", "power", "(I)J"⟩, 23) := ⟨⟨by decide +kernel, by decide +kernel⟩, List.mem_of_getElem? (i := 1194) (by decide +kernel), List.mem_of_getElem? (i := 1430) (by decide +kernel), List.mem_of_getElem? (i := 1431) (by decide +kernel)⟩
theorem lw_p47 : lw_okq (⟨"SongRefineryModel", "addsTank", "(I)I"⟩, 23) := ⟨⟨by decide +kernel, by decide +kernel⟩, List.mem_of_getElem? (i := 1194) (by decide +kernel), List.mem_of_getElem? (i := 1446) (by decide +kernel), List.mem_of_getElem? (i := 1447) (by decide +kernel)⟩
def lw_privs_3 : List (MethodName × Nat) := [(⟨"SongRefineryModel", "ends", "(I)I"⟩, 23), (⟨"SongRefineryModel", "puts", "(III)I"⟩, 23), (⟨"SongRefineryModel", "takes", "(I)I"⟩, 23), (⟨"SongRefineryModel", "isFilter", "(I)Z"⟩, 23), (⟨"SongRefineryModel", "swaps", "(II)I"⟩, 23), (⟨"SongRefineryModel", "notes", "(IIII)I"⟩, 23), (⟨"SongRefineryModel", "takesNote", "(I)I"⟩, 23), (⟨"SongRefineryModel", "tells", "(II)I"⟩, 23), (⟨"SongRefineryModel", "looks", "(II)I"⟩, 23), (⟨"SongRefineryModel", "isSample", "(II)Z"⟩, 23), (⟨"SongRefineryModel", "filters", "(I)V"⟩, 23), (⟨"SongRefineryModel", "passes", "(III)I"⟩, 23), (⟨"SongRefineryModel", "mean", "(II)I"⟩, 23), (⟨"SongRefineryModel", "loud", "(II)I"⟩, 23), (⟨"SongRefineryModel", "power", "(I)J"⟩, 23), (⟨"SongRefineryModel", "addsTank", "(I)I"⟩, 23)]
theorem lw_r3 : ∀ q ∈ lw_privs_3, lw_okq q := List.forall_mem_cons.mpr ⟨lw_p32, List.forall_mem_cons.mpr ⟨lw_p33, List.forall_mem_cons.mpr ⟨lw_p34, List.forall_mem_cons.mpr ⟨lw_p35, List.forall_mem_cons.mpr ⟨lw_p36, List.forall_mem_cons.mpr ⟨lw_p37, List.forall_mem_cons.mpr ⟨lw_p38, List.forall_mem_cons.mpr ⟨lw_p39, List.forall_mem_cons.mpr ⟨lw_p40, List.forall_mem_cons.mpr ⟨lw_p41, List.forall_mem_cons.mpr ⟨lw_p42, List.forall_mem_cons.mpr ⟨lw_p43, List.forall_mem_cons.mpr ⟨lw_p44, List.forall_mem_cons.mpr ⟨lw_p45, List.forall_mem_cons.mpr ⟨lw_p46, List.forall_mem_cons.mpr ⟨lw_p47, fun _ h => absurd h List.not_mem_nil⟩⟩⟩⟩⟩⟩⟩⟩⟩⟩⟩⟩⟩⟩⟩⟩
theorem lw_p48 : lw_okq (⟨"SongRefineryModel", "tunes", "(II)I"⟩, 23) := ⟨⟨by decide +kernel, by decide +kernel⟩, List.mem_of_getElem? (i := 1194) (by decide +kernel), List.mem_of_getElem? (i := 1457) (by decide +kernel), List.mem_of_getElem? (i := 1458) (by decide +kernel)⟩
theorem lw_p49 : lw_okq (⟨"SongRefineryModel", "isTank", "(I)Z"⟩, 23) := ⟨⟨by decide +kernel, by decide +kernel⟩, List.mem_of_getElem? (i := 1194) (by decide +kernel), List.mem_of_getElem? (i := 1461) (by decide +kernel), List.mem_of_getElem? (i := 1462) (by decide +kernel)⟩
theorem lw_p50 : lw_okq (⟨"SongRefineryModel", "poursAll", "(I)I"⟩, 23) := ⟨⟨by decide +kernel, by decide +kernel⟩, List.mem_of_getElem? (i := 1194) (by decide +kernel), List.mem_of_getElem? (i := 1469) (by decide +kernel), List.mem_of_getElem? (i := 1470) (by decide +kernel)⟩
theorem lw_p51 : lw_okq (⟨"SongRefineryModel", "pours", "(I)I"⟩, 23) := ⟨⟨by decide +kernel, by decide +kernel⟩, List.mem_of_getElem? (i := 1194) (by decide +kernel), List.mem_of_getElem? (i := 1473) (by decide +kernel), List.mem_of_getElem? (i := 1474) (by decide +kernel)⟩
theorem lw_p52 : lw_okq (⟨"SongRefineryModel", "tankFor", "(I)I"⟩, 23) := ⟨⟨by decide +kernel, by decide +kernel⟩, List.mem_of_getElem? (i := 1194) (by decide +kernel), List.mem_of_getElem? (i := 1477) (by decide +kernel), List.mem_of_getElem? (i := 1478) (by decide +kernel)⟩
theorem lw_p53 : lw_okq (⟨"SongRefineryModel", "room", "(I)I"⟩, 23) := ⟨⟨by decide +kernel, by decide +kernel⟩, List.mem_of_getElem? (i := 1194) (by decide +kernel), List.mem_of_getElem? (i := 1481) (by decide +kernel), List.mem_of_getElem? (i := 1482) (by decide +kernel)⟩
theorem lw_p54 : lw_okq (⟨"SongRefineryModel", "drains", "(II)I"⟩, 23) := ⟨⟨by decide +kernel, by decide +kernel⟩, List.mem_of_getElem? (i := 1194) (by decide +kernel), List.mem_of_getElem? (i := 1489) (by decide +kernel), List.mem_of_getElem? (i := 1490) (by decide +kernel)⟩
theorem lw_p55 : lw_okq (⟨"SongRefineryModel", "tellsTank", "(II)I"⟩, 23) := ⟨⟨by decide +kernel, by decide +kernel⟩, List.mem_of_getElem? (i := 1194) (by decide +kernel), List.mem_of_getElem? (i := 1501) (by decide +kernel), List.mem_of_getElem? (i := 1502) (by decide +kernel)⟩
theorem lw_p56 : lw_okq (⟨"SongRefineryModel", "commands", "()I"⟩, 23) := ⟨⟨by decide +kernel, by decide +kernel⟩, List.mem_of_getElem? (i := 1194) (by decide +kernel), List.mem_of_getElem? (i := 1554) (by decide +kernel), List.mem_of_getElem? (i := 1555) (by decide +kernel)⟩
theorem lw_p57 : lw_okq (⟨"SongRefineryModel", "command", "()V"⟩, 23) := ⟨⟨by decide +kernel, by decide +kernel⟩, List.mem_of_getElem? (i := 1194) (by decide +kernel), List.mem_of_getElem? (i := 1558) (by decide +kernel), List.mem_of_getElem? (i := 1559) (by decide +kernel)⟩
theorem lw_p58 : lw_okq (⟨"SongRefineryModel", "word", "()I"⟩, 23) := ⟨⟨by decide +kernel, by decide +kernel⟩, List.mem_of_getElem? (i := 1194) (by decide +kernel), List.mem_of_getElem? (i := 1562) (by decide +kernel), List.mem_of_getElem? (i := 1563) (by decide +kernel)⟩
theorem lw_p59 : lw_okq (⟨"SongRefineryModel", "sign", "()I"⟩, 23) := ⟨⟨by decide +kernel, by decide +kernel⟩, List.mem_of_getElem? (i := 1194) (by decide +kernel), List.mem_of_getElem? (i := 1566) (by decide +kernel), List.mem_of_getElem? (i := 1567) (by decide +kernel)⟩
theorem lw_p60 : lw_okq (⟨"SongRefineryModel", "digits", "(I)I"⟩, 23) := ⟨⟨by decide +kernel, by decide +kernel⟩, List.mem_of_getElem? (i := 1194) (by decide +kernel), List.mem_of_getElem? (i := 1570) (by decide +kernel), List.mem_of_getElem? (i := 1571) (by decide +kernel)⟩
theorem lw_p61 : lw_okq (⟨"SongRefineryModel", "behind", "(I)I"⟩, 23) := ⟨⟨by decide +kernel, by decide +kernel⟩, List.mem_of_getElem? (i := 1194) (by decide +kernel), List.mem_of_getElem? (i := 1574) (by decide +kernel), List.mem_of_getElem? (i := 1575) (by decide +kernel)⟩
theorem lw_p62 : lw_okq (⟨"SongRefineryModel", "mark", "(I)V"⟩, 23) := ⟨⟨by decide +kernel, by decide +kernel⟩, List.mem_of_getElem? (i := 1194) (by decide +kernel), List.mem_of_getElem? (i := 1578) (by decide +kernel), List.mem_of_getElem? (i := 1579) (by decide +kernel)⟩
theorem lw_p63 : lw_okq (⟨"SongRefineryModel", "does", "(IIIII)I"⟩, 23) := ⟨⟨by decide +kernel, by decide +kernel⟩, List.mem_of_getElem? (i := 1194) (by decide +kernel), List.mem_of_getElem? (i := 1582) (by decide +kernel), List.mem_of_getElem? (i := 1583) (by decide +kernel)⟩
def lw_privs_4 : List (MethodName × Nat) := [(⟨"SongRefineryModel", "tunes", "(II)I"⟩, 23), (⟨"SongRefineryModel", "isTank", "(I)Z"⟩, 23), (⟨"SongRefineryModel", "poursAll", "(I)I"⟩, 23), (⟨"SongRefineryModel", "pours", "(I)I"⟩, 23), (⟨"SongRefineryModel", "tankFor", "(I)I"⟩, 23), (⟨"SongRefineryModel", "room", "(I)I"⟩, 23), (⟨"SongRefineryModel", "drains", "(II)I"⟩, 23), (⟨"SongRefineryModel", "tellsTank", "(II)I"⟩, 23), (⟨"SongRefineryModel", "commands", "()I"⟩, 23), (⟨"SongRefineryModel", "command", "()V"⟩, 23), (⟨"SongRefineryModel", "word", "()I"⟩, 23), (⟨"SongRefineryModel", "sign", "()I"⟩, 23), (⟨"SongRefineryModel", "digits", "(I)I"⟩, 23), (⟨"SongRefineryModel", "behind", "(I)I"⟩, 23), (⟨"SongRefineryModel", "mark", "(I)V"⟩, 23), (⟨"SongRefineryModel", "does", "(IIIII)I"⟩, 23)]
theorem lw_r4 : ∀ q ∈ lw_privs_4, lw_okq q := List.forall_mem_cons.mpr ⟨lw_p48, List.forall_mem_cons.mpr ⟨lw_p49, List.forall_mem_cons.mpr ⟨lw_p50, List.forall_mem_cons.mpr ⟨lw_p51, List.forall_mem_cons.mpr ⟨lw_p52, List.forall_mem_cons.mpr ⟨lw_p53, List.forall_mem_cons.mpr ⟨lw_p54, List.forall_mem_cons.mpr ⟨lw_p55, List.forall_mem_cons.mpr ⟨lw_p56, List.forall_mem_cons.mpr ⟨lw_p57, List.forall_mem_cons.mpr ⟨lw_p58, List.forall_mem_cons.mpr ⟨lw_p59, List.forall_mem_cons.mpr ⟨lw_p60, List.forall_mem_cons.mpr ⟨lw_p61, List.forall_mem_cons.mpr ⟨lw_p62, List.forall_mem_cons.mpr ⟨lw_p63, fun _ h => absurd h List.not_mem_nil⟩⟩⟩⟩⟩⟩⟩⟩⟩⟩⟩⟩⟩⟩⟩⟩
theorem lw_p64 : lw_okq (⟨"SongRefineryModel", "writes", "(I)V"⟩, 23) := ⟨⟨by decide +kernel, by decide +kernel⟩, List.mem_of_getElem? (i := 1194) (by decide +kernel), List.mem_of_getElem? (i := 1598) (by decide +kernel), List.mem_of_getElem? (i := 1599) (by decide +kernel)⟩
theorem lw_p65 : lw_okq (⟨"SongRefineryModel", "writesNumber", "(I)V"⟩, 23) := ⟨⟨by decide +kernel, by decide +kernel⟩, List.mem_of_getElem? (i := 1194) (by decide +kernel), List.mem_of_getElem? (i := 1602) (by decide +kernel), List.mem_of_getElem? (i := 1603) (by decide +kernel)⟩
def lw_privs_5 : List (MethodName × Nat) := [(⟨"SongRefineryModel", "writes", "(I)V"⟩, 23), (⟨"SongRefineryModel", "writesNumber", "(I)V"⟩, 23)]
theorem lw_r5 : ∀ q ∈ lw_privs_5, lw_okq q := List.forall_mem_cons.mpr ⟨lw_p64, List.forall_mem_cons.mpr ⟨lw_p65, fun _ h => absurd h List.not_mem_nil⟩⟩
def lw_privs : List (MethodName × Nat) := lw_privs_1 ++ (lw_privs_2 ++ (lw_privs_3 ++ (lw_privs_4 ++ (lw_privs_5))))
def lw_tbl : List Cond := k2_sels lw_privs ++ tables_1
theorem lw_privs_ok : ∀ q ∈ lw_privs, lw_okq q := by
  show ∀ q ∈ lw_privs_1 ++ (lw_privs_2 ++ (lw_privs_3 ++ (lw_privs_4 ++ (lw_privs_5)))), lw_okq q
  exact List.forall_mem_append.mpr ⟨lw_r1, List.forall_mem_append.mpr ⟨lw_r2, List.forall_mem_append.mpr ⟨lw_r3, List.forall_mem_append.mpr ⟨lw_r4, lw_r5⟩⟩⟩⟩
/-- the streams that the claim lets the run draw from -/
abbrev lw_cs : List Choice := [Jvm.Choice.named "NaN.bits"]
theorem lw_bits : nanBits ∈ lw_cs := by first | decide | exact List.mem_cons_self | simp [lw_cs, nanBits]

def RX0 : String := "SongRefinery$Chain"
def TX0 : u_T := fun k => match k with
  | 0 => ("SongRefinery$Chain", "kinds", "[I", true)
  | 1 => ("SongRefinery$Chain", "parameters", "[I", true)
  | _ => ("SongRefinery$Chain", "count", "I", false)
def tyX0 : Nat → FieldType := fun k => match k with
  | 0 => .array .int
  | 1 => .array .int
  | _ => .int
abbrev wsX00 : List Cond := u_ws RX0 TX0 3
theorem nmX0 : ∀ a, a < 3 → ∀ b, b < 3 → a ≠ b → (TX0 a).2.1 ≠ (TX0 b).2.1 := by decide +kernel
theorem tyX0_ok : ∀ k, k < 3 → parseFieldDescriptor (TX0 k).2.2.1 = some (tyX0 k) := by decide +kernel
abbrev cX0_init : ByteArray := prog_2_method_1_code
def yX0_init : MethodName := ⟨RX0, "<init>", "()V"⟩
abbrev cX0_copyFrom : ByteArray := prog_2_method_2_code
def yX0_copyFrom : MethodName := ⟨RX0, "copyFrom", "(LSongRefinery$Chain;)V"⟩
abbrev cX0_kindAt : ByteArray := prog_2_method_3_code
def yX0_kindAt : MethodName := ⟨RX0, "kindAt", "(I)I"⟩
abbrev cX0_parameterAt : ByteArray := prog_2_method_4_code
def yX0_parameterAt : MethodName := ⟨RX0, "parameterAt", "(I)I"⟩
abbrev cX0_faultOfPosition : ByteArray := prog_2_method_5_code
def yX0_faultOfPosition : MethodName := ⟨RX0, "faultOfPosition", "(I)I"⟩
abbrev cX0_faultOfNewPosition : ByteArray := prog_2_method_6_code
def yX0_faultOfNewPosition : MethodName := ⟨RX0, "faultOfNewPosition", "(I)I"⟩
abbrev cX0_faultOfNewFilter : ByteArray := prog_2_method_7_code
def yX0_faultOfNewFilter : MethodName := ⟨RX0, "faultOfNewFilter", "(II)I"⟩
abbrev cX0_isKindWith : ByteArray := prog_2_method_8_code
def yX0_isKindWith : MethodName := ⟨RX0, "isKindWith", "(II)Z"⟩
abbrev cX0_setFilter : ByteArray := prog_2_method_9_code
def yX0_setFilter : MethodName := ⟨RX0, "setFilter", "(III)V"⟩
abbrev cX0_putFilter : ByteArray := prog_2_method_10_code
def yX0_putFilter : MethodName := ⟨RX0, "putFilter", "(III)I"⟩
abbrev cX0_takeFilter : ByteArray := prog_2_method_11_code
def yX0_takeFilter : MethodName := ⟨RX0, "takeFilter", "(I)I"⟩
abbrev cX0_exchange : ByteArray := prog_2_method_12_code
def yX0_exchange : MethodName := ⟨RX0, "exchange", "(II)V"⟩
def RX1 : String := "SongRefinery$CommandText"
def TX1 : u_T := fun k => match k with
  | 0 => ("SongRefinery$CommandText", "characters", "[I", true)
  | 1 => ("SongRefinery$CommandText", "length", "I", false)
  | 2 => ("SongRefinery$CommandText", "signs", "[I", true)
  | 3 => ("SongRefinery$CommandText", "numbers", "[I", true)
  | 4 => ("SongRefinery$CommandText", "commands", "I", false)
  | _ => ("SongRefinery$CommandText", "place", "I", false)
def tyX1 : Nat → FieldType := fun k => match k with
  | 0 => .array .int
  | 1 => .int
  | 2 => .array .int
  | 3 => .array .int
  | 4 => .int
  | _ => .int
abbrev wsX10 : List Cond := u_ws RX1 TX1 6
theorem nmX1 : ∀ a, a < 6 → ∀ b, b < 6 → a ≠ b → (TX1 a).2.1 ≠ (TX1 b).2.1 := by decide +kernel
theorem tyX1_ok : ∀ k, k < 6 → parseFieldDescriptor (TX1 k).2.2.1 = some (tyX1 k) := by decide +kernel
abbrev cX1_init : ByteArray := prog_3_method_1_code
def yX1_init : MethodName := ⟨RX1, "<init>", "()V"⟩
abbrev cX1_faultOfCharacter : ByteArray := prog_3_method_2_code
def yX1_faultOfCharacter : MethodName := ⟨RX1, "faultOfCharacter", "(C)I"⟩
abbrev cX1_putCharacter : ByteArray := prog_3_method_3_code
def yX1_putCharacter : MethodName := ⟨RX1, "putCharacter", "(C)I"⟩
abbrev cX1_clear : ByteArray := prog_3_method_4_code
def yX1_clear : MethodName := ⟨RX1, "clear", "()V"⟩
abbrev cX1_signAt : ByteArray := prog_3_method_5_code
def yX1_signAt : MethodName := ⟨RX1, "signAt", "(I)I"⟩
abbrev cX1_numberAt : ByteArray := prog_3_method_6_code
def yX1_numberAt : MethodName := ⟨RX1, "numberAt", "(II)I"⟩
abbrev cX1_parse : ByteArray := prog_3_method_7_code
def yX1_parse : MethodName := ⟨RX1, "parse", "()Z"⟩
abbrev cX1_characterAt : ByteArray := prog_3_method_8_code
def yX1_characterAt : MethodName := ⟨RX1, "characterAt", "(I)I"⟩
abbrev cX1_takeSign : ByteArray := prog_3_method_9_code
def yX1_takeSign : MethodName := ⟨RX1, "takeSign", "(C)Z"⟩
abbrev cX1_takeCommand : ByteArray := prog_3_method_10_code
def yX1_takeCommand : MethodName := ⟨RX1, "takeCommand", "()Z"⟩
abbrev cX1_sameCharacters : ByteArray := prog_3_method_11_code
def yX1_sameCharacters : MethodName := ⟨RX1, "sameCharacters", "(Ljava/lang/String;)I"⟩
abbrev cX1_takeNumbers : ByteArray := prog_3_method_12_code
def yX1_takeNumbers : MethodName := ⟨RX1, "takeNumbers", "(LSongRefinery$Word;)Z"⟩
abbrev cX1_takeNumber : ByteArray := prog_3_method_13_code
def yX1_takeNumber : MethodName := ⟨RX1, "takeNumber", "(I)I"⟩
def RX2 : String := "SongRefinery$History"
def TX2 : u_T := fun k => match k with
  | 0 => ("SongRefinery$History", "ring", "[LSongRefinery$State;", true)
  | 1 => ("SongRefinery$History", "next", "I", false)
  | _ => ("SongRefinery$History", "count", "I", false)
def tyX2 : Nat → FieldType := fun k => match k with
  | 0 => .array (.object "SongRefinery$State")
  | 1 => .int
  | _ => .int
abbrev wsX20 : List Cond := u_ws RX2 TX2 3
theorem nmX2 : ∀ a, a < 3 → ∀ b, b < 3 → a ≠ b → (TX2 a).2.1 ≠ (TX2 b).2.1 := by decide +kernel
theorem tyX2_ok : ∀ k, k < 3 → parseFieldDescriptor (TX2 k).2.2.1 = some (tyX2 k) := by decide +kernel
abbrev cX2_init : ByteArray := prog_4_method_1_code
def yX2_init : MethodName := ⟨RX2, "<init>", "()V"⟩
abbrev cX2_stateAt : ByteArray := prog_4_method_2_code
def yX2_stateAt : MethodName := ⟨RX2, "stateAt", "(I)LSongRefinery$State;"⟩
abbrev cX2_push : ByteArray := prog_4_method_3_code
def yX2_push : MethodName := ⟨RX2, "push", "(LSongRefinery$State;)V"⟩
abbrev cX2_popInto : ByteArray := prog_4_method_4_code
def yX2_popInto : MethodName := ⟨RX2, "popInto", "(LSongRefinery$State;)V"⟩
abbrev cX2_clear : ByteArray := prog_4_method_5_code
def yX2_clear : MethodName := ⟨RX2, "clear", "()V"⟩
def RX3 : String := "SongRefinery$Line"
def TX3 : u_T := fun k => match k with
  | 0 => ("SongRefinery$Line", "signs", "[I", true)
  | _ => ("SongRefinery$Line", "length", "I", false)
def tyX3 : Nat → FieldType := fun k => match k with
  | 0 => .array .int
  | _ => .int
abbrev wsX30 : List Cond := u_ws RX3 TX3 2
theorem nmX3 : ∀ a, a < 2 → ∀ b, b < 2 → a ≠ b → (TX3 a).2.1 ≠ (TX3 b).2.1 := by decide +kernel
theorem tyX3_ok : ∀ k, k < 2 → parseFieldDescriptor (TX3 k).2.2.1 = some (tyX3 k) := by decide +kernel
abbrev cX3_init : ByteArray := prog_5_method_1_code
def yX3_init : MethodName := ⟨RX3, "<init>", "()V"⟩
abbrev cX3_clear : ByteArray := prog_5_method_2_code
def yX3_clear : MethodName := ⟨RX3, "clear", "()V"⟩
abbrev cX3_signAt : ByteArray := prog_5_method_3_code
def yX3_signAt : MethodName := ⟨RX3, "signAt", "(I)I"⟩
abbrev cX3_putSign : ByteArray := prog_5_method_4_code
def yX3_putSign : MethodName := ⟨RX3, "putSign", "(I)V"⟩
abbrev cX3_putNumber : ByteArray := prog_5_method_5_code
def yX3_putNumber : MethodName := ⟨RX3, "putNumber", "(I)V"⟩
def RX4 : String := "SongRefinery$Refining"
def TX4 : u_T := fun k => match k with
  | 0 => ("SongRefinery$Refining", "memory", "[I", true)
  | 1 => ("SongRefinery$Refining", "row", "[I", true)
  | _ => ("SongRefinery$Refining", "rowByFilter", "[I", true)
def tyX4 : Nat → FieldType := fun k => match k with
  | 0 => .array .int
  | 1 => .array .int
  | _ => .array .int
abbrev wsX40 : List Cond := u_ws RX4 TX4 3
theorem nmX4 : ∀ a, a < 3 → ∀ b, b < 3 → a ≠ b → (TX4 a).2.1 ≠ (TX4 b).2.1 := by decide +kernel
theorem tyX4_ok : ∀ k, k < 3 → parseFieldDescriptor (TX4 k).2.2.1 = some (tyX4 k) := by decide +kernel
abbrev cX4_init : ByteArray := prog_6_method_1_code
def yX4_init : MethodName := ⟨RX4, "<init>", "()V"⟩
abbrev cX4_given : ByteArray := prog_6_method_2_code
def yX4_given : MethodName := ⟨RX4, "given", "(I)I"⟩
abbrev cX4_givenByFilter : ByteArray := prog_6_method_3_code
def yX4_givenByFilter : MethodName := ⟨RX4, "givenByFilter", "(I)I"⟩
abbrev cX4_send : ByteArray := prog_6_method_4_code
def yX4_send : MethodName := ⟨RX4, "send", "(LSongRefinery$State;II)V"⟩
abbrev cX4_pass : ByteArray := prog_6_method_5_code
def yX4_pass : MethodName := ⟨RX4, "pass", "(LSongRefinery$Chain;III)I"⟩
abbrev cX4_recall : ByteArray := prog_6_method_6_code
def yX4_recall : MethodName := ⟨RX4, "recall", "(II)I"⟩
abbrev cX4_changed : ByteArray := prog_6_method_7_code
def yX4_changed : MethodName := ⟨RX4, "changed", "(III)I"⟩
abbrev cX4_sendByFilter : ByteArray := prog_6_method_8_code
def yX4_sendByFilter : MethodName := ⟨RX4, "sendByFilter", "(LSongRefinery$State;I)V"⟩
abbrev cX4_passAll : ByteArray := prog_6_method_9_code
def yX4_passAll : MethodName := ⟨RX4, "passAll", "(III)V"⟩
abbrev cX4_givenAt : ByteArray := prog_6_method_10_code
def yX4_givenAt : MethodName := ⟨RX4, "givenAt", "(III)I"⟩
abbrev cX4_loudnessOf : ByteArray := prog_6_method_11_code
def yX4_loudnessOf : MethodName := ⟨RX4, "loudnessOf", "(II)I"⟩
def RX5 : String := "SongRefinery$Songs"
def TX5 : u_T := fun k => match k with
  | 0 => ("SongRefinery$Songs", "samples", "[I", true)
  | 1 => ("SongRefinery$Songs", "noteLengths", "[I", true)
  | 2 => ("SongRefinery$Songs", "sampleCounts", "[I", true)
  | _ => ("SongRefinery$Songs", "noteCounts", "[I", true)
def tyX5 : Nat → FieldType := fun k => match k with
  | 0 => .array .int
  | 1 => .array .int
  | 2 => .array .int
  | _ => .array .int
abbrev wsX50 : List Cond := u_ws RX5 TX5 4
theorem nmX5 : ∀ a, a < 4 → ∀ b, b < 4 → a ≠ b → (TX5 a).2.1 ≠ (TX5 b).2.1 := by decide +kernel
theorem tyX5_ok : ∀ k, k < 4 → parseFieldDescriptor (TX5 k).2.2.1 = some (tyX5 k) := by decide +kernel
abbrev cX5_init : ByteArray := prog_7_method_1_code
def yX5_init : MethodName := ⟨RX5, "<init>", "()V"⟩
abbrev cX5_copyFrom : ByteArray := prog_7_method_2_code
def yX5_copyFrom : MethodName := ⟨RX5, "copyFrom", "(LSongRefinery$Songs;)V"⟩
abbrev cX5_samplesOf : ByteArray := prog_7_method_3_code
def yX5_samplesOf : MethodName := ⟨RX5, "samplesOf", "(I)I"⟩
abbrev cX5_notesOf : ByteArray := prog_7_method_4_code
def yX5_notesOf : MethodName := ⟨RX5, "notesOf", "(I)I"⟩
abbrev cX5_framesOf : ByteArray := prog_7_method_5_code
def yX5_framesOf : MethodName := ⟨RX5, "framesOf", "(I)I"⟩
abbrev cX5_hasSample : ByteArray := prog_7_method_6_code
def yX5_hasSample : MethodName := ⟨RX5, "hasSample", "(II)Z"⟩
abbrev cX5_rawAt : ByteArray := prog_7_method_7_code
def yX5_rawAt : MethodName := ⟨RX5, "rawAt", "(II)I"⟩
abbrev cX5_faultOfSong : ByteArray := prog_7_method_8_code
def yX5_faultOfSong : MethodName := ⟨RX5, "faultOfSong", "(I)I"⟩
abbrev cX5_faultOfPlaying : ByteArray := prog_7_method_9_code
def yX5_faultOfPlaying : MethodName := ⟨RX5, "faultOfPlaying", "(I)I"⟩
abbrev cX5_faultOfSample : ByteArray := prog_7_method_10_code
def yX5_faultOfSample : MethodName := ⟨RX5, "faultOfSample", "(II)I"⟩
abbrev cX5_faultOfNewNote : ByteArray := prog_7_method_11_code
def yX5_faultOfNewNote : MethodName := ⟨RX5, "faultOfNewNote", "(IIII)I"⟩
abbrev cX5_putNote : ByteArray := prog_7_method_12_code
def yX5_putNote : MethodName := ⟨RX5, "putNote", "(IIII)I"⟩
abbrev cX5_takeNote : ByteArray := prog_7_method_13_code
def yX5_takeNote : MethodName := ⟨RX5, "takeNote", "(I)I"⟩
def RX6 : String := "SongRefinery$State"
def TX6 : u_T := fun k => match k with
  | 0 => ("SongRefinery$State", "chain", "LSongRefinery$Chain;", true)
  | 1 => ("SongRefinery$State", "songs", "LSongRefinery$Songs;", true)
  | _ => ("SongRefinery$State", "tanks", "LSongRefinery$Tanks;", true)
def tyX6 : Nat → FieldType := fun k => match k with
  | 0 => .object "SongRefinery$Chain"
  | 1 => .object "SongRefinery$Songs"
  | _ => .object "SongRefinery$Tanks"
abbrev wsX60 : List Cond := u_ws RX6 TX6 3
theorem nmX6 : ∀ a, a < 3 → ∀ b, b < 3 → a ≠ b → (TX6 a).2.1 ≠ (TX6 b).2.1 := by decide +kernel
theorem tyX6_ok : ∀ k, k < 3 → parseFieldDescriptor (TX6 k).2.2.1 = some (tyX6 k) := by decide +kernel
abbrev cX6_init : ByteArray := prog_8_method_1_code
def yX6_init : MethodName := ⟨RX6, "<init>", "()V"⟩
abbrev cX6_copyFrom : ByteArray := prog_8_method_2_code
def yX6_copyFrom : MethodName := ⟨RX6, "copyFrom", "(LSongRefinery$State;)V"⟩
def RX7 : String := "SongRefinery$Tanks"
def TX7 : u_T := fun k => match k with
  | 0 => ("SongRefinery$Tanks", "capacities", "[I", true)
  | 1 => ("SongRefinery$Tanks", "tunings", "[I", true)
  | 2 => ("SongRefinery$Tanks", "levels", "[I", true)
  | 3 => ("SongRefinery$Tanks", "frames", "[I", true)
  | 4 => ("SongRefinery$Tanks", "count", "I", false)
  | 5 => ("SongRefinery$Tanks", "stored", "I", false)
  | 6 => ("SongRefinery$Tanks", "dropped", "I", false)
  | _ => ("SongRefinery$Tanks", "drained", "I", false)
def tyX7 : Nat → FieldType := fun k => match k with
  | 0 => .array .int
  | 1 => .array .int
  | 2 => .array .int
  | 3 => .array .int
  | 4 => .int
  | 5 => .int
  | 6 => .int
  | _ => .int
abbrev wsX70 : List Cond := u_ws RX7 TX7 8
theorem nmX7 : ∀ a, a < 8 → ∀ b, b < 8 → a ≠ b → (TX7 a).2.1 ≠ (TX7 b).2.1 := by decide +kernel
theorem tyX7_ok : ∀ k, k < 8 → parseFieldDescriptor (TX7 k).2.2.1 = some (tyX7 k) := by decide +kernel
abbrev cX7_init : ByteArray := prog_9_method_1_code
def yX7_init : MethodName := ⟨RX7, "<init>", "()V"⟩
abbrev cX7_copyFrom : ByteArray := prog_9_method_2_code
def yX7_copyFrom : MethodName := ⟨RX7, "copyFrom", "(LSongRefinery$Tanks;)V"⟩
abbrev cX7_capacityOf : ByteArray := prog_9_method_3_code
def yX7_capacityOf : MethodName := ⟨RX7, "capacityOf", "(I)I"⟩
abbrev cX7_tuningOf : ByteArray := prog_9_method_4_code
def yX7_tuningOf : MethodName := ⟨RX7, "tuningOf", "(I)I"⟩
abbrev cX7_levelOf : ByteArray := prog_9_method_5_code
def yX7_levelOf : MethodName := ⟨RX7, "levelOf", "(I)I"⟩
abbrev cX7_frameAt : ByteArray := prog_9_method_6_code
def yX7_frameAt : MethodName := ⟨RX7, "frameAt", "(II)I"⟩
abbrev cX7_setFrame : ByteArray := prog_9_method_7_code
def yX7_setFrame : MethodName := ⟨RX7, "setFrame", "(III)V"⟩
abbrev cX7_faultOfTank : ByteArray := prog_9_method_8_code
def yX7_faultOfTank : MethodName := ⟨RX7, "faultOfTank", "(I)I"⟩
abbrev cX7_faultOfNewTank : ByteArray := prog_9_method_9_code
def yX7_faultOfNewTank : MethodName := ⟨RX7, "faultOfNewTank", "(I)I"⟩
abbrev cX7_faultOfNewTuning : ByteArray := prog_9_method_10_code
def yX7_faultOfNewTuning : MethodName := ⟨RX7, "faultOfNewTuning", "(II)I"⟩
abbrev cX7_faultOfDraining : ByteArray := prog_9_method_11_code
def yX7_faultOfDraining : MethodName := ⟨RX7, "faultOfDraining", "(II)I"⟩
abbrev cX7_faultOfFrame : ByteArray := prog_9_method_12_code
def yX7_faultOfFrame : MethodName := ⟨RX7, "faultOfFrame", "(II)I"⟩
abbrev cX7_putTank : ByteArray := prog_9_method_13_code
def yX7_putTank : MethodName := ⟨RX7, "putTank", "(I)I"⟩
abbrev cX7_tune : ByteArray := prog_9_method_14_code
def yX7_tune : MethodName := ⟨RX7, "tune", "(II)I"⟩
abbrev cX7_store : ByteArray := prog_9_method_15_code
def yX7_store : MethodName := ⟨RX7, "store", "(I)Z"⟩
abbrev cX7_accepts : ByteArray := prog_9_method_16_code
def yX7_accepts : MethodName := ⟨RX7, "accepts", "(II)Z"⟩
abbrev cX7_roomOf : ByteArray := prog_9_method_17_code
def yX7_roomOf : MethodName := ⟨RX7, "roomOf", "(I)I"⟩
abbrev cX7_takeFrames : ByteArray := prog_9_method_18_code
def yX7_takeFrames : MethodName := ⟨RX7, "takeFrames", "(II)I"⟩
abbrev cX7_tankBehind : ByteArray := prog_9_method_19_code
def yX7_tankBehind : MethodName := ⟨RX7, "tankBehind", "(I)I"⟩
abbrev cX7_tanksAheadOf : ByteArray := prog_9_method_20_code
def yX7_tanksAheadOf : MethodName := ⟨RX7, "tanksAheadOf", "(I)I"⟩
abbrev cX7_isAhead : ByteArray := prog_9_method_21_code
def yX7_isAhead : MethodName := ⟨RX7, "isAhead", "(II)Z"⟩
abbrev cX7_sumOfLevels : ByteArray := prog_9_method_22_code
def yX7_sumOfLevels : MethodName := ⟨RX7, "sumOfLevels", "()I"⟩
abbrev cX7_sumOfCapacities : ByteArray := prog_9_method_23_code
def yX7_sumOfCapacities : MethodName := ⟨RX7, "sumOfCapacities", "()I"⟩
def RX8 : String := "SongRefinery$Word"
def TX8 : u_T := fun k => match k with
  | _ => ("", "", "", false)
def tyX8 : Nat → FieldType := fun k => match k with
  | _ => .int
abbrev wsX80 : List Cond := u_ws RX8 TX8 0
theorem nmX8 : ∀ a, a < 0 → ∀ b, b < 0 → a ≠ b → (TX8 a).2.1 ≠ (TX8 b).2.1 := by decide +kernel
theorem tyX8_ok : ∀ k, k < 0 → parseFieldDescriptor (TX8 k).2.2.1 = some (tyX8 k) := by decide +kernel
def RX9 : String := "SongRefinery"
def TX9 : u_T := fun k => match k with
  | 0 => ("SongRefinery", "now", "LSongRefinery$State;", true)
  | 1 => ("SongRefinery", "trial", "LSongRefinery$State;", true)
  | 2 => ("SongRefinery", "snapshot", "LSongRefinery$State;", true)
  | 3 => ("SongRefinery", "history", "LSongRefinery$History;", true)
  | 4 => ("SongRefinery", "refining", "LSongRefinery$Refining;", true)
  | 5 => ("SongRefinery", "tanksCopy", "LSongRefinery$Tanks;", true)
  | 6 => ("SongRefinery", "rooms", "[I", true)
  | 7 => ("SongRefinery", "text", "LSongRefinery$CommandText;", true)
  | 8 => ("SongRefinery", "line", "LSongRefinery$Line;", true)
  | 9 => ("SongRefinery", "hasSnapshot", "Z", false)
  | 10 => ("SongRefinery", "lastErrorPosition", "I", false)
  | _ => ("SongRefinery", "lastFailedCommand", "I", false)
def tyX9 : Nat → FieldType := fun k => match k with
  | 0 => .object "SongRefinery$State"
  | 1 => .object "SongRefinery$State"
  | 2 => .object "SongRefinery$State"
  | 3 => .object "SongRefinery$History"
  | 4 => .object "SongRefinery$Refining"
  | 5 => .object "SongRefinery$Tanks"
  | 6 => .array .int
  | 7 => .object "SongRefinery$CommandText"
  | 8 => .object "SongRefinery$Line"
  | 9 => .boolean
  | 10 => .int
  | _ => .int
abbrev wsX90 : List Cond := u_ws RX9 TX9 12
theorem nmX9 : ∀ a, a < 12 → ∀ b, b < 12 → a ≠ b → (TX9 a).2.1 ≠ (TX9 b).2.1 := by decide +kernel
theorem tyX9_ok : ∀ k, k < 12 → parseFieldDescriptor (TX9 k).2.2.1 = some (tyX9 k) := by decide +kernel
abbrev cX9_init : ByteArray := prog_1_method_1_code
def yX9_init : MethodName := ⟨RX9, "<init>", "()V"⟩
abbrev cX9_addFilter : ByteArray := prog_1_method_2_code
def yX9_addFilter : MethodName := ⟨RX9, "addFilter", "(CI)I"⟩
abbrev cX9_insertFilter : ByteArray := prog_1_method_3_code
def yX9_insertFilter : MethodName := ⟨RX9, "insertFilter", "(ICI)I"⟩
abbrev cX9_removeFilter : ByteArray := prog_1_method_4_code
def yX9_removeFilter : MethodName := ⟨RX9, "removeFilter", "(I)I"⟩
abbrev cX9_swapFilters : ByteArray := prog_1_method_5_code
def yX9_swapFilters : MethodName := ⟨RX9, "swapFilters", "(II)I"⟩
abbrev cX9_filterCount : ByteArray := prog_1_method_6_code
def yX9_filterCount : MethodName := ⟨RX9, "filterCount", "()I"⟩
abbrev cX9_filterKind : ByteArray := prog_1_method_7_code
def yX9_filterKind : MethodName := ⟨RX9, "filterKind", "(I)C"⟩
abbrev cX9_filterParameter : ByteArray := prog_1_method_8_code
def yX9_filterParameter : MethodName := ⟨RX9, "filterParameter", "(I)I"⟩
abbrev cX9_addNote : ByteArray := prog_1_method_9_code
def yX9_addNote : MethodName := ⟨RX9, "addNote", "(IIII)I"⟩
abbrev cX9_removeNote : ByteArray := prog_1_method_10_code
def yX9_removeNote : MethodName := ⟨RX9, "removeNote", "(I)I"⟩
abbrev cX9_noteCount : ByteArray := prog_1_method_11_code
def yX9_noteCount : MethodName := ⟨RX9, "noteCount", "(I)I"⟩
abbrev cX9_songLength : ByteArray := prog_1_method_12_code
def yX9_songLength : MethodName := ⟨RX9, "songLength", "(I)I"⟩
abbrev cX9_rawSample : ByteArray := prog_1_method_13_code
def yX9_rawSample : MethodName := ⟨RX9, "rawSample", "(II)I"⟩
abbrev cX9_sample : ByteArray := prog_1_method_14_code
def yX9_sample : MethodName := ⟨RX9, "sample", "(II)I"⟩
abbrev cX9_sampleByFilter : ByteArray := prog_1_method_15_code
def yX9_sampleByFilter : MethodName := ⟨RX9, "sampleByFilter", "(II)I"⟩
abbrev cX9_mixedSample : ByteArray := prog_1_method_16_code
def yX9_mixedSample : MethodName := ⟨RX9, "mixedSample", "(III)I"⟩
abbrev cX9_peak : ByteArray := prog_1_method_17_code
def yX9_peak : MethodName := ⟨RX9, "peak", "(I)I"⟩
abbrev cX9_energy : ByteArray := prog_1_method_18_code
def yX9_energy : MethodName := ⟨RX9, "energy", "(I)J"⟩
abbrev cX9_signChanges : ByteArray := prog_1_method_19_code
def yX9_signChanges : MethodName := ⟨RX9, "signChanges", "(I)I"⟩
abbrev cX9_strongestSong : ByteArray := prog_1_method_20_code
def yX9_strongestSong : MethodName := ⟨RX9, "strongestSong", "()I"⟩
abbrev cX9_addTank : ByteArray := prog_1_method_21_code
def yX9_addTank : MethodName := ⟨RX9, "addTank", "(I)I"⟩
abbrev cX9_setTuning : ByteArray := prog_1_method_22_code
def yX9_setTuning : MethodName := ⟨RX9, "setTuning", "(II)I"⟩
abbrev cX9_pour : ByteArray := prog_1_method_23_code
def yX9_pour : MethodName := ⟨RX9, "pour", "(I)I"⟩
abbrev cX9_drain : ByteArray := prog_1_method_24_code
def yX9_drain : MethodName := ⟨RX9, "drain", "(II)I"⟩
abbrev cX9_tankCount : ByteArray := prog_1_method_25_code
def yX9_tankCount : MethodName := ⟨RX9, "tankCount", "()I"⟩
abbrev cX9_capacity : ByteArray := prog_1_method_26_code
def yX9_capacity : MethodName := ⟨RX9, "capacity", "(I)I"⟩
abbrev cX9_tuning : ByteArray := prog_1_method_27_code
def yX9_tuning : MethodName := ⟨RX9, "tuning", "(I)I"⟩
abbrev cX9_level : ByteArray := prog_1_method_28_code
def yX9_level : MethodName := ⟨RX9, "level", "(I)I"⟩
abbrev cX9_frameLoudness : ByteArray := prog_1_method_29_code
def yX9_frameLoudness : MethodName := ⟨RX9, "frameLoudness", "(II)I"⟩
abbrev cX9_frameCount : ByteArray := prog_1_method_30_code
def yX9_frameCount : MethodName := ⟨RX9, "frameCount", "(I)I"⟩
abbrev cX9_dropsFor : ByteArray := prog_1_method_31_code
def yX9_dropsFor : MethodName := ⟨RX9, "dropsFor", "(I)I"⟩
abbrev cX9_dropsByLevels : ByteArray := prog_1_method_32_code
def yX9_dropsByLevels : MethodName := ⟨RX9, "dropsByLevels", "(I)I"⟩
abbrev cX9_tankAtRank : ByteArray := prog_1_method_33_code
def yX9_tankAtRank : MethodName := ⟨RX9, "tankAtRank", "(I)I"⟩
abbrev cX9_storedTotal : ByteArray := prog_1_method_34_code
def yX9_storedTotal : MethodName := ⟨RX9, "storedTotal", "()I"⟩
abbrev cX9_droppedTotal : ByteArray := prog_1_method_35_code
def yX9_droppedTotal : MethodName := ⟨RX9, "droppedTotal", "()I"⟩
abbrev cX9_drainedTotal : ByteArray := prog_1_method_36_code
def yX9_drainedTotal : MethodName := ⟨RX9, "drainedTotal", "()I"⟩
abbrev cX9_append : ByteArray := prog_1_method_37_code
def yX9_append : MethodName := ⟨RX9, "append", "(C)I"⟩
abbrev cX9_run : ByteArray := prog_1_method_38_code
def yX9_run : MethodName := ⟨RX9, "run", "()I"⟩
abbrev cX9_errorPosition : ByteArray := prog_1_method_39_code
def yX9_errorPosition : MethodName := ⟨RX9, "errorPosition", "()I"⟩
abbrev cX9_failedCommand : ByteArray := prog_1_method_40_code
def yX9_failedCommand : MethodName := ⟨RX9, "failedCommand", "()I"⟩
abbrev cX9_describeChain : ByteArray := prog_1_method_41_code
def yX9_describeChain : MethodName := ⟨RX9, "describeChain", "()I"⟩
abbrev cX9_describeTank : ByteArray := prog_1_method_42_code
def yX9_describeTank : MethodName := ⟨RX9, "describeTank", "(I)I"⟩
abbrev cX9_lineAt : ByteArray := prog_1_method_43_code
def yX9_lineAt : MethodName := ⟨RX9, "lineAt", "(I)C"⟩
abbrev cX9_meanLevel : ByteArray := prog_1_method_44_code
def yX9_meanLevel : MethodName := ⟨RX9, "meanLevel", "(I)D"⟩
abbrev cX9_filledShare : ByteArray := prog_1_method_45_code
def yX9_filledShare : MethodName := ⟨RX9, "filledShare", "()F"⟩
abbrev cX9_isConsistent : ByteArray := prog_1_method_46_code
def yX9_isConsistent : MethodName := ⟨RX9, "isConsistent", "()Z"⟩
abbrev cX9_undo : ByteArray := prog_1_method_47_code
def yX9_undo : MethodName := ⟨RX9, "undo", "()I"⟩
abbrev cX9_save : ByteArray := prog_1_method_48_code
def yX9_save : MethodName := ⟨RX9, "save", "()I"⟩
abbrev cX9_restore : ByteArray := prog_1_method_49_code
def yX9_restore : MethodName := ⟨RX9, "restore", "()I"⟩
abbrev cX9_throwFault : ByteArray := prog_1_method_50_code
def yX9_throwFault : MethodName := ⟨RX9, "throwFault", "(I)V"⟩
abbrev cX9_read : ByteArray := prog_1_method_51_code
def yX9_read : MethodName := ⟨RX9, "read", "([II)I"⟩
abbrev cX9_write : ByteArray := prog_1_method_52_code
def yX9_write : MethodName := ⟨RX9, "write", "([III)V"⟩
abbrev cX9_copyRow : ByteArray := prog_1_method_53_code
def yX9_copyRow : MethodName := ⟨RX9, "copyRow", "([I[I)V"⟩
abbrev cX9_isWithin : ByteArray := prog_1_method_54_code
def yX9_isWithin : MethodName := ⟨RX9, "isWithin", "(III)Z"⟩
abbrev cX9_sendSong : ByteArray := prog_1_method_55_code
def yX9_sendSong : MethodName := ⟨RX9, "sendSong", "(I)I"⟩
abbrev cX9_filteredOrZero : ByteArray := prog_1_method_56_code
def yX9_filteredOrZero : MethodName := ⟨RX9, "filteredOrZero", "(II)I"⟩
abbrev cX9_signOf : ByteArray := prog_1_method_57_code
def yX9_signOf : MethodName := ⟨RX9, "signOf", "(I)I"⟩
abbrev cX9_sumOfSquares : ByteArray := prog_1_method_58_code
def yX9_sumOfSquares : MethodName := ⟨RX9, "sumOfSquares", "(I)J"⟩
abbrev cX9_bothWaysAgree : ByteArray := prog_1_method_59_code
def yX9_bothWaysAgree : MethodName := ⟨RX9, "bothWaysAgree", "(I)Z"⟩
abbrev cX9_pourSong : ByteArray := prog_1_method_60_code
def yX9_pourSong : MethodName := ⟨RX9, "pourSong", "(LSongRefinery$State;LSongRefinery$Tanks;I)I"⟩
abbrev cX9_dropsOnCopy : ByteArray := prog_1_method_61_code
def yX9_dropsOnCopy : MethodName := ⟨RX9, "dropsOnCopy", "(I)I"⟩
abbrev cX9_dropsFromLevels : ByteArray := prog_1_method_62_code
def yX9_dropsFromLevels : MethodName := ⟨RX9, "dropsFromLevels", "(I)I"⟩
abbrev cX9_roomiestFor : ByteArray := prog_1_method_63_code
def yX9_roomiestFor : MethodName := ⟨RX9, "roomiestFor", "(I)I"⟩
abbrev cX9_faultOfCommand : ByteArray := prog_1_method_64_code
def yX9_faultOfCommand : MethodName := ⟨RX9, "faultOfCommand", "(LSongRefinery$State;I)I"⟩
abbrev cX9_carryOut : ByteArray := prog_1_method_65_code
def yX9_carryOut : MethodName := ⟨RX9, "carryOut", "(LSongRefinery$State;I)V"⟩
def RX10 : String := "SongRefineryModel"
def TX10 : u_T := fun k => match k with
  | 0 => ("SongRefineryModel", "thrown", "I", false)
  | 1 => ("SongRefineryModel", "changes", "I", false)
  | 2 => ("SongRefineryModel", "errorAt", "I", false)
  | 3 => ("SongRefineryModel", "failedAt", "I", false)
  | 4 => ("SongRefineryModel", "isSaved", "Z", false)
  | 5 => ("SongRefineryModel", "v", "[I", true)
  | 6 => ("SongRefineryModel", "before", "[I", true)
  | 7 => ("SongRefineryModel", "saved", "[I", true)
  | 8 => ("SongRefineryModel", "kept", "[I", true)
  | 9 => ("SongRefineryModel", "past", "[I", true)
  | 10 => ("SongRefineryModel", "out", "[I", true)
  | 11 => ("SongRefineryModel", "got", "[I", true)
  | 12 => ("SongRefineryModel", "text", "[I", true)
  | 13 => ("SongRefineryModel", "line", "[I", true)
  | 14 => ("SongRefineryModel", "isLeft", "[I", true)
  | 15 => ("SongRefineryModel", "words", "[I", true)
  | 16 => ("SongRefineryModel", "wordAt", "[I", true)
  | 17 => ("SongRefineryModel", "textN", "I", false)
  | 18 => ("SongRefineryModel", "here", "I", false)
  | 19 => ("SongRefineryModel", "end", "I", false)
  | 20 => ("SongRefineryModel", "lineN", "I", false)
  | 21 => ("SongRefineryModel", "isWrong", "Z", false)
  | _ => ("SongRefineryModel", "isDoing", "Z", false)
def tyX10 : Nat → FieldType := fun k => match k with
  | 0 => .int
  | 1 => .int
  | 2 => .int
  | 3 => .int
  | 4 => .boolean
  | 5 => .array .int
  | 6 => .array .int
  | 7 => .array .int
  | 8 => .array .int
  | 9 => .array .int
  | 10 => .array .int
  | 11 => .array .int
  | 12 => .array .int
  | 13 => .array .int
  | 14 => .array .int
  | 15 => .array .int
  | 16 => .array .int
  | 17 => .int
  | 18 => .int
  | 19 => .int
  | 20 => .int
  | 21 => .boolean
  | _ => .boolean
abbrev wsX100 : List Cond := u_ws RX10 TX10 23
theorem nmX10 : ∀ a, a < 23 → ∀ b, b < 23 → a ≠ b → (TX10 a).2.1 ≠ (TX10 b).2.1 := by decide +kernel
theorem tyX10_ok : ∀ k, k < 23 → parseFieldDescriptor (TX10 k).2.2.1 = some (tyX10 k) := by decide +kernel
abbrev cX10_init : ByteArray := prog_12_method_1_code
def yX10_init : MethodName := ⟨RX10, "<init>", "()V"⟩
abbrev cX10_thrown : ByteArray := prog_12_method_2_code
def yX10_thrown : MethodName := ⟨RX10, "thrown", "()I"⟩
abbrev cX10_fail : ByteArray := prog_12_method_3_code
def yX10_fail : MethodName := ⟨RX10, "fail", "(I)I"⟩
abbrev cX10_isIn : ByteArray := prog_12_method_4_code
def yX10_isIn : MethodName := ⟨RX10, "isIn", "(III)Z"⟩
abbrev cX10_lays : ByteArray := prog_12_method_5_code
def yX10_lays : MethodName := ⟨RX10, "lays", "([I[I)V"⟩
abbrev cX10_begins : ByteArray := prog_12_method_6_code
def yX10_begins : MethodName := ⟨RX10, "begins", "()V"⟩
abbrev cX10_ends : ByteArray := prog_12_method_7_code
def yX10_ends : MethodName := ⟨RX10, "ends", "(I)I"⟩
abbrev cX10_isSong : ByteArray := prog_12_method_8_code
def yX10_isSong : MethodName := ⟨RX10, "isSong", "(I)Z"⟩
abbrev cX10_isFilter : ByteArray := prog_12_method_9_code
def yX10_isFilter : MethodName := ⟨RX10, "isFilter", "(I)Z"⟩
abbrev cX10_isTank : ByteArray := prog_12_method_10_code
def yX10_isTank : MethodName := ⟨RX10, "isTank", "(I)Z"⟩
abbrev cX10_of : ByteArray := prog_12_method_11_code
def yX10_of : MethodName := ⟨RX10, "of", "(II)I"⟩
abbrev cX10_size : ByteArray := prog_12_method_12_code
def yX10_size : MethodName := ⟨RX10, "size", "(I)I"⟩
abbrev cX10_isAllowed : ByteArray := prog_12_method_13_code
def yX10_isAllowed : MethodName := ⟨RX10, "isAllowed", "(II)Z"⟩
abbrev cX10_inserts : ByteArray := prog_12_method_14_code
def yX10_inserts : MethodName := ⟨RX10, "inserts", "(III)I"⟩
abbrev cX10_adds : ByteArray := prog_12_method_15_code
def yX10_adds : MethodName := ⟨RX10, "adds", "(II)I"⟩
abbrev cX10_addFilter : ByteArray := prog_12_method_16_code
def yX10_addFilter : MethodName := ⟨RX10, "addFilter", "(CI)I"⟩
abbrev cX10_puts : ByteArray := prog_12_method_17_code
def yX10_puts : MethodName := ⟨RX10, "puts", "(III)I"⟩
abbrev cX10_insertFilter : ByteArray := prog_12_method_18_code
def yX10_insertFilter : MethodName := ⟨RX10, "insertFilter", "(ICI)I"⟩
abbrev cX10_takes : ByteArray := prog_12_method_19_code
def yX10_takes : MethodName := ⟨RX10, "takes", "(I)I"⟩
abbrev cX10_removeFilter : ByteArray := prog_12_method_20_code
def yX10_removeFilter : MethodName := ⟨RX10, "removeFilter", "(I)I"⟩
abbrev cX10_swaps : ByteArray := prog_12_method_21_code
def yX10_swaps : MethodName := ⟨RX10, "swaps", "(II)I"⟩
abbrev cX10_swapFilters : ByteArray := prog_12_method_22_code
def yX10_swapFilters : MethodName := ⟨RX10, "swapFilters", "(II)I"⟩
abbrev cX10_filterCount : ByteArray := prog_12_method_23_code
def yX10_filterCount : MethodName := ⟨RX10, "filterCount", "()I"⟩
abbrev cX10_filterKind : ByteArray := prog_12_method_24_code
def yX10_filterKind : MethodName := ⟨RX10, "filterKind", "(I)C"⟩
abbrev cX10_filterParameter : ByteArray := prog_12_method_25_code
def yX10_filterParameter : MethodName := ⟨RX10, "filterParameter", "(I)I"⟩
abbrev cX10_notes : ByteArray := prog_12_method_26_code
def yX10_notes : MethodName := ⟨RX10, "notes", "(IIII)I"⟩
abbrev cX10_addNote : ByteArray := prog_12_method_27_code
def yX10_addNote : MethodName := ⟨RX10, "addNote", "(IIII)I"⟩
abbrev cX10_takesNote : ByteArray := prog_12_method_28_code
def yX10_takesNote : MethodName := ⟨RX10, "takesNote", "(I)I"⟩
abbrev cX10_removeNote : ByteArray := prog_12_method_29_code
def yX10_removeNote : MethodName := ⟨RX10, "removeNote", "(I)I"⟩
abbrev cX10_tells : ByteArray := prog_12_method_30_code
def yX10_tells : MethodName := ⟨RX10, "tells", "(II)I"⟩
abbrev cX10_noteCount : ByteArray := prog_12_method_31_code
def yX10_noteCount : MethodName := ⟨RX10, "noteCount", "(I)I"⟩
abbrev cX10_songLength : ByteArray := prog_12_method_32_code
def yX10_songLength : MethodName := ⟨RX10, "songLength", "(I)I"⟩
abbrev cX10_isSample : ByteArray := prog_12_method_33_code
def yX10_isSample : MethodName := ⟨RX10, "isSample", "(II)Z"⟩
abbrev cX10_looks : ByteArray := prog_12_method_34_code
def yX10_looks : MethodName := ⟨RX10, "looks", "(II)I"⟩
abbrev cX10_rawSample : ByteArray := prog_12_method_35_code
def yX10_rawSample : MethodName := ⟨RX10, "rawSample", "(II)I"⟩
abbrev cX10_mean : ByteArray := prog_12_method_36_code
def yX10_mean : MethodName := ⟨RX10, "mean", "(II)I"⟩
abbrev cX10_passes : ByteArray := prog_12_method_37_code
def yX10_passes : MethodName := ⟨RX10, "passes", "(III)I"⟩
abbrev cX10_filters : ByteArray := prog_12_method_38_code
def yX10_filters : MethodName := ⟨RX10, "filters", "(I)V"⟩
abbrev cX10_sample : ByteArray := prog_12_method_39_code
def yX10_sample : MethodName := ⟨RX10, "sample", "(II)I"⟩
abbrev cX10_sampleByFilter : ByteArray := prog_12_method_40_code
def yX10_sampleByFilter : MethodName := ⟨RX10, "sampleByFilter", "(II)I"⟩
abbrev cX10_mixedSample : ByteArray := prog_12_method_41_code
def yX10_mixedSample : MethodName := ⟨RX10, "mixedSample", "(III)I"⟩
abbrev cX10_loud : ByteArray := prog_12_method_42_code
def yX10_loud : MethodName := ⟨RX10, "loud", "(II)I"⟩
abbrev cX10_peak : ByteArray := prog_12_method_43_code
def yX10_peak : MethodName := ⟨RX10, "peak", "(I)I"⟩
abbrev cX10_power : ByteArray := prog_12_method_44_code
def yX10_power : MethodName := ⟨RX10, "power", "(I)J"⟩
abbrev cX10_energy : ByteArray := prog_12_method_45_code
def yX10_energy : MethodName := ⟨RX10, "energy", "(I)J"⟩
abbrev cX10_signChanges : ByteArray := prog_12_method_46_code
def yX10_signChanges : MethodName := ⟨RX10, "signChanges", "(I)I"⟩
abbrev cX10_strongestSong : ByteArray := prog_12_method_47_code
def yX10_strongestSong : MethodName := ⟨RX10, "strongestSong", "()I"⟩
abbrev cX10_addsTank : ByteArray := prog_12_method_48_code
def yX10_addsTank : MethodName := ⟨RX10, "addsTank", "(I)I"⟩
abbrev cX10_addTank : ByteArray := prog_12_method_49_code
def yX10_addTank : MethodName := ⟨RX10, "addTank", "(I)I"⟩
abbrev cX10_tunes : ByteArray := prog_12_method_50_code
def yX10_tunes : MethodName := ⟨RX10, "tunes", "(II)I"⟩
abbrev cX10_setTuning : ByteArray := prog_12_method_51_code
def yX10_setTuning : MethodName := ⟨RX10, "setTuning", "(II)I"⟩
abbrev cX10_room : ByteArray := prog_12_method_52_code
def yX10_room : MethodName := ⟨RX10, "room", "(I)I"⟩
abbrev cX10_tankFor : ByteArray := prog_12_method_53_code
def yX10_tankFor : MethodName := ⟨RX10, "tankFor", "(I)I"⟩
abbrev cX10_pours : ByteArray := prog_12_method_54_code
def yX10_pours : MethodName := ⟨RX10, "pours", "(I)I"⟩
abbrev cX10_poursAll : ByteArray := prog_12_method_55_code
def yX10_poursAll : MethodName := ⟨RX10, "poursAll", "(I)I"⟩
abbrev cX10_pour : ByteArray := prog_12_method_56_code
def yX10_pour : MethodName := ⟨RX10, "pour", "(I)I"⟩
abbrev cX10_drains : ByteArray := prog_12_method_57_code
def yX10_drains : MethodName := ⟨RX10, "drains", "(II)I"⟩
abbrev cX10_drain : ByteArray := prog_12_method_58_code
def yX10_drain : MethodName := ⟨RX10, "drain", "(II)I"⟩
abbrev cX10_tankCount : ByteArray := prog_12_method_59_code
def yX10_tankCount : MethodName := ⟨RX10, "tankCount", "()I"⟩
abbrev cX10_tellsTank : ByteArray := prog_12_method_60_code
def yX10_tellsTank : MethodName := ⟨RX10, "tellsTank", "(II)I"⟩
abbrev cX10_capacity : ByteArray := prog_12_method_61_code
def yX10_capacity : MethodName := ⟨RX10, "capacity", "(I)I"⟩
abbrev cX10_tuning : ByteArray := prog_12_method_62_code
def yX10_tuning : MethodName := ⟨RX10, "tuning", "(I)I"⟩
abbrev cX10_level : ByteArray := prog_12_method_63_code
def yX10_level : MethodName := ⟨RX10, "level", "(I)I"⟩
abbrev cX10_frameLoudness : ByteArray := prog_12_method_64_code
def yX10_frameLoudness : MethodName := ⟨RX10, "frameLoudness", "(II)I"⟩
abbrev cX10_frameCount : ByteArray := prog_12_method_65_code
def yX10_frameCount : MethodName := ⟨RX10, "frameCount", "(I)I"⟩
abbrev cX10_dropsFor : ByteArray := prog_12_method_66_code
def yX10_dropsFor : MethodName := ⟨RX10, "dropsFor", "(I)I"⟩
abbrev cX10_dropsByLevels : ByteArray := prog_12_method_67_code
def yX10_dropsByLevels : MethodName := ⟨RX10, "dropsByLevels", "(I)I"⟩
abbrev cX10_tankAtRank : ByteArray := prog_12_method_68_code
def yX10_tankAtRank : MethodName := ⟨RX10, "tankAtRank", "(I)I"⟩
abbrev cX10_storedTotal : ByteArray := prog_12_method_69_code
def yX10_storedTotal : MethodName := ⟨RX10, "storedTotal", "()I"⟩
abbrev cX10_droppedTotal : ByteArray := prog_12_method_70_code
def yX10_droppedTotal : MethodName := ⟨RX10, "droppedTotal", "()I"⟩
abbrev cX10_drainedTotal : ByteArray := prog_12_method_71_code
def yX10_drainedTotal : MethodName := ⟨RX10, "drainedTotal", "()I"⟩
abbrev cX10_append : ByteArray := prog_12_method_72_code
def yX10_append : MethodName := ⟨RX10, "append", "(C)I"⟩
abbrev cX10_sign : ByteArray := prog_12_method_73_code
def yX10_sign : MethodName := ⟨RX10, "sign", "()I"⟩
abbrev cX10_mark : ByteArray := prog_12_method_74_code
def yX10_mark : MethodName := ⟨RX10, "mark", "(I)V"⟩
abbrev cX10_digits : ByteArray := prog_12_method_75_code
def yX10_digits : MethodName := ⟨RX10, "digits", "(I)I"⟩
abbrev cX10_behind : ByteArray := prog_12_method_76_code
def yX10_behind : MethodName := ⟨RX10, "behind", "(I)I"⟩
abbrev cX10_word : ByteArray := prog_12_method_77_code
def yX10_word : MethodName := ⟨RX10, "word", "()I"⟩
abbrev cX10_does : ByteArray := prog_12_method_78_code
def yX10_does : MethodName := ⟨RX10, "does", "(IIIII)I"⟩
abbrev cX10_command : ByteArray := prog_12_method_79_code
def yX10_command : MethodName := ⟨RX10, "command", "()V"⟩
abbrev cX10_commands : ByteArray := prog_12_method_80_code
def yX10_commands : MethodName := ⟨RX10, "commands", "()I"⟩
abbrev cX10_run : ByteArray := prog_12_method_81_code
def yX10_run : MethodName := ⟨RX10, "run", "()I"⟩
abbrev cX10_errorPosition : ByteArray := prog_12_method_82_code
def yX10_errorPosition : MethodName := ⟨RX10, "errorPosition", "()I"⟩
abbrev cX10_failedCommand : ByteArray := prog_12_method_83_code
def yX10_failedCommand : MethodName := ⟨RX10, "failedCommand", "()I"⟩
abbrev cX10_writes : ByteArray := prog_12_method_84_code
def yX10_writes : MethodName := ⟨RX10, "writes", "(I)V"⟩
abbrev cX10_writesNumber : ByteArray := prog_12_method_85_code
def yX10_writesNumber : MethodName := ⟨RX10, "writesNumber", "(I)V"⟩
abbrev cX10_describeChain : ByteArray := prog_12_method_86_code
def yX10_describeChain : MethodName := ⟨RX10, "describeChain", "()I"⟩
abbrev cX10_describeTank : ByteArray := prog_12_method_87_code
def yX10_describeTank : MethodName := ⟨RX10, "describeTank", "(I)I"⟩
abbrev cX10_lineAt : ByteArray := prog_12_method_88_code
def yX10_lineAt : MethodName := ⟨RX10, "lineAt", "(I)C"⟩
abbrev cX10_meanLevel : ByteArray := prog_12_method_89_code
def yX10_meanLevel : MethodName := ⟨RX10, "meanLevel", "(I)D"⟩
abbrev cX10_filledShare : ByteArray := prog_12_method_90_code
def yX10_filledShare : MethodName := ⟨RX10, "filledShare", "()F"⟩
abbrev cX10_isConsistent : ByteArray := prog_12_method_91_code
def yX10_isConsistent : MethodName := ⟨RX10, "isConsistent", "()Z"⟩
abbrev cX10_undo : ByteArray := prog_12_method_92_code
def yX10_undo : MethodName := ⟨RX10, "undo", "()I"⟩
abbrev cX10_save : ByteArray := prog_12_method_93_code
def yX10_save : MethodName := ⟨RX10, "save", "()I"⟩
abbrev cX10_restore : ByteArray := prog_12_method_94_code
def yX10_restore : MethodName := ⟨RX10, "restore", "()I"⟩
def RJx145de : String := "java/io/Serializable"
def TJx145de : u_T := fun k => match k with
  | _ => ("", "", "", false)
def tyJx145de : Nat → FieldType := fun k => match k with
  | _ => .int
abbrev wsJx145de0 : List Cond := u_ws RJx145de TJx145de 0
theorem nmJx145de : ∀ a, a < 0 → ∀ b, b < 0 → a ≠ b → (TJx145de a).2.1 ≠ (TJx145de b).2.1 := by decide +kernel
theorem tyJx145de_ok : ∀ k, k < 0 → parseFieldDescriptor (TJx145de k).2.2.1 = some (tyJx145de k) := by decide +kernel
def RJx00060 : String := "java/lang/ArrayIndexOutOfBoundsException"
def TJx00060 : u_T := fun k => match k with
  | 0 => ("java/lang/Throwable", "backtrace", "Ljava/lang/Object;", false)
  | 1 => ("java/lang/Throwable", "detailMessage", "Ljava/lang/String;", false)
  | 2 => ("java/lang/Throwable", "cause", "Ljava/lang/Throwable;", false)
  | 3 => ("java/lang/Throwable", "stackTrace", "[Ljava/lang/StackTraceElement;", false)
  | 4 => ("java/lang/Throwable", "depth", "I", false)
  | _ => ("java/lang/Throwable", "suppressedExceptions", "Ljava/util/List;", false)
def tyJx00060 : Nat → FieldType := fun k => match k with
  | 0 => .object "java/lang/Object"
  | 1 => .object "java/lang/String"
  | 2 => .object "java/lang/Throwable"
  | 3 => .array (.object "java/lang/StackTraceElement")
  | 4 => .int
  | _ => .object "java/util/List"
abbrev wsJx000600 : List Cond := u_ws RJx00060 TJx00060 6
theorem nmJx00060 : ∀ a, a < 6 → ∀ b, b < 6 → a ≠ b → (TJx00060 a).2.1 ≠ (TJx00060 b).2.1 := by decide +kernel
theorem tyJx00060_ok : ∀ k, k < 6 → parseFieldDescriptor (TJx00060 k).2.2.1 = some (tyJx00060 k) := by decide +kernel
abbrev cJx00060_init_a7421 : ByteArray := prog_15_method_2_code
def yJx00060_init_a7421 : MethodName := ⟨RJx00060, "<init>", "(Ljava/lang/String;)V"⟩
def RJx9f9b0 : String := "java/lang/CharSequence"
def TJx9f9b0 : u_T := fun k => match k with
  | _ => ("", "", "", false)
def tyJx9f9b0 : Nat → FieldType := fun k => match k with
  | _ => .int
abbrev wsJx9f9b00 : List Cond := u_ws RJx9f9b0 TJx9f9b0 0
theorem nmJx9f9b0 : ∀ a, a < 0 → ∀ b, b < 0 → a ≠ b → (TJx9f9b0 a).2.1 ≠ (TJx9f9b0 b).2.1 := by decide +kernel
theorem tyJx9f9b0_ok : ∀ k, k < 0 → parseFieldDescriptor (TJx9f9b0 k).2.2.1 = some (tyJx9f9b0 k) := by decide +kernel
def RJxb160c : String := "java/lang/Comparable"
def TJxb160c : u_T := fun k => match k with
  | _ => ("", "", "", false)
def tyJxb160c : Nat → FieldType := fun k => match k with
  | _ => .int
abbrev wsJxb160c0 : List Cond := u_ws RJxb160c TJxb160c 0
theorem nmJxb160c : ∀ a, a < 0 → ∀ b, b < 0 → a ≠ b → (TJxb160c a).2.1 ≠ (TJxb160c b).2.1 := by decide +kernel
theorem tyJxb160c_ok : ∀ k, k < 0 → parseFieldDescriptor (TJxb160c k).2.2.1 = some (tyJxb160c k) := by decide +kernel
def RJx29ce0 : String := "java/lang/Enum"
def TJx29ce0 : u_T := fun k => match k with
  | _ => ("", "", "", false)
def tyJx29ce0 : Nat → FieldType := fun k => match k with
  | _ => .int
abbrev wsJx29ce00 : List Cond := u_ws RJx29ce0 TJx29ce0 0
theorem nmJx29ce0 : ∀ a, a < 0 → ∀ b, b < 0 → a ≠ b → (TJx29ce0 a).2.1 ≠ (TJx29ce0 b).2.1 := by decide +kernel
theorem tyJx29ce0_ok : ∀ k, k < 0 → parseFieldDescriptor (TJx29ce0 k).2.2.1 = some (tyJx29ce0 k) := by decide +kernel
def RJ9 : String := "java/lang/Math"
def TJ9 : u_T := fun k => match k with
  | _ => ("", "", "", false)
def tyJ9 : Nat → FieldType := fun k => match k with
  | _ => .int
abbrev wsJ90 : List Cond := u_ws RJ9 TJ9 0
theorem nmJ9 : ∀ a, a < 0 → ∀ b, b < 0 → a ≠ b → (TJ9 a).2.1 ≠ (TJ9 b).2.1 := by decide +kernel
theorem tyJ9_ok : ∀ k, k < 0 → parseFieldDescriptor (TJ9 k).2.2.1 = some (tyJ9 k) := by decide +kernel
abbrev cJ9_abs_0f7a4 : ByteArray := prog_23_method_59_code
def yJ9_abs_0f7a4 : MethodName := ⟨RJ9, "abs", "(I)I"⟩
abbrev cJ9_max_7cf53 : ByteArray := prog_23_method_65_code
def yJ9_max_7cf53 : MethodName := ⟨RJ9, "max", "(II)I"⟩
abbrev cJ9_min_7cf53 : ByteArray := prog_23_method_69_code
def yJ9_min_7cf53 : MethodName := ⟨RJ9, "min", "(II)I"⟩
def RJ0 : String := "java/lang/String"
def TJ0 : u_T := fun k => match k with
  | 0 => ("java/lang/String", "value", "[B", true)
  | _ => ("java/lang/String", "coder", "B", true)
def tyJ0 : Nat → FieldType := fun k => match k with
  | 0 => .array .byte
  | _ => .byte
abbrev wsJ00 : List Cond := u_ws RJ0 TJ0 2
theorem nmJ0 : ∀ a, a < 2 → ∀ b, b < 2 → a ≠ b → (TJ0 a).2.1 ≠ (TJ0 b).2.1 := by decide +kernel
theorem tyJ0_ok : ∀ k, k < 2 → parseFieldDescriptor (TJ0 k).2.2.1 = some (tyJ0 k) := by decide +kernel
abbrev cJ0_length_8abf5 : ByteArray := prog_25_method_54_code
def yJ0_length_8abf5 : MethodName := ⟨RJ0, "length", "()I"⟩
abbrev cJ0_isEmpty_aae02 : ByteArray := prog_25_method_55_code
def yJ0_isEmpty_aae02 : MethodName := ⟨RJ0, "isEmpty", "()Z"⟩
abbrev cJ0_charAt_5068e : ByteArray := prog_25_method_56_code
def yJ0_charAt_5068e : MethodName := ⟨RJ0, "charAt", "(I)C"⟩
abbrev cJ0_coder_7d493 : ByteArray := prog_25_method_152_code
def yJ0_coder_7d493 : MethodName := ⟨RJ0, "coder", "()B"⟩
abbrev cJ0_isLatin1_aae02 : ByteArray := prog_25_method_154_code
def yJ0_isLatin1_aae02 : MethodName := ⟨RJ0, "isLatin1", "()Z"⟩
abbrev cJ0_checkIndex_df160 : ByteArray := prog_25_method_155_code
def yJ0_checkIndex_df160 : MethodName := ⟨RJ0, "checkIndex", "(II)V"⟩
def RJ1 : String := "java/lang/StringLatin1"
def TJ1 : u_T := fun k => match k with
  | _ => ("", "", "", false)
def tyJ1 : Nat → FieldType := fun k => match k with
  | _ => .int
abbrev wsJ10 : List Cond := u_ws RJ1 TJ1 0
theorem nmJ1 : ∀ a, a < 0 → ∀ b, b < 0 → a ≠ b → (TJ1 a).2.1 ≠ (TJ1 b).2.1 := by decide +kernel
theorem tyJ1_ok : ∀ k, k < 0 → parseFieldDescriptor (TJ1 k).2.2.1 = some (tyJ1 k) := by decide +kernel
abbrev cJ1_charAt_3b067 : ByteArray := prog_26_method_2_code
def yJ1_charAt_3b067 : MethodName := ⟨RJ1, "charAt", "([BI)C"⟩
def RJ2 : String := "java/lang/StringUTF16"
def TJ2 : u_T := fun k => match k with
  | _ => ("", "", "", false)
def tyJ2 : Nat → FieldType := fun k => match k with
  | _ => .int
abbrev wsJ20 : List Cond := u_ws RJ2 TJ2 0
theorem nmJ2 : ∀ a, a < 0 → ∀ b, b < 0 → a ≠ b → (TJ2 a).2.1 ≠ (TJ2 b).2.1 := by decide +kernel
theorem tyJ2_ok : ∀ k, k < 0 → parseFieldDescriptor (TJ2 k).2.2.1 = some (tyJ2 k) := by decide +kernel
abbrev cJ2_getChar_3b067 : ByteArray := prog_27_method_5_code
def yJ2_getChar_3b067 : MethodName := ⟨RJ2, "getChar", "([BI)C"⟩
abbrev cJ2_length_9d52b : ByteArray := prog_27_method_6_code
def yJ2_length_9d52b : MethodName := ⟨RJ2, "length", "([B)I"⟩
abbrev cJ2_charAt_3b067 : ByteArray := prog_27_method_83_code
def yJ2_charAt_3b067 : MethodName := ⟨RJ2, "charAt", "([BI)C"⟩
abbrev cJ2_checkIndex_2214a : ByteArray := prog_27_method_91_code
def yJ2_checkIndex_2214a : MethodName := ⟨RJ2, "checkIndex", "(I[B)V"⟩
def RJ10 : String := "java/lang/System"
def TJ10 : u_T := fun k => match k with
  | _ => ("", "", "", false)
def tyJ10 : Nat → FieldType := fun k => match k with
  | _ => .int
abbrev wsJ100 : List Cond := u_ws RJ10 TJ10 0
theorem nmJ10 : ∀ a, a < 0 → ∀ b, b < 0 → a ≠ b → (TJ10 a).2.1 ≠ (TJ10 b).2.1 := by decide +kernel
theorem tyJ10_ok : ∀ k, k < 0 → parseFieldDescriptor (TJ10 k).2.2.1 = some (tyJ10 k) := by decide +kernel
def RJxfd54e : String := "java/lang/constant/Constable"
def TJxfd54e : u_T := fun k => match k with
  | _ => ("", "", "", false)
def tyJxfd54e : Nat → FieldType := fun k => match k with
  | _ => .int
abbrev wsJxfd54e0 : List Cond := u_ws RJxfd54e TJxfd54e 0
theorem nmJxfd54e : ∀ a, a < 0 → ∀ b, b < 0 → a ≠ b → (TJxfd54e a).2.1 ≠ (TJxfd54e b).2.1 := by decide +kernel
theorem tyJxfd54e_ok : ∀ k, k < 0 → parseFieldDescriptor (TJxfd54e k).2.2.1 = some (tyJxfd54e k) := by decide +kernel
def RJx3cf43 : String := "java/lang/constant/ConstantDesc"
def TJx3cf43 : u_T := fun k => match k with
  | _ => ("", "", "", false)
def tyJx3cf43 : Nat → FieldType := fun k => match k with
  | _ => .int
abbrev wsJx3cf430 : List Cond := u_ws RJx3cf43 TJx3cf43 0
theorem nmJx3cf43 : ∀ a, a < 0 → ∀ b, b < 0 → a ≠ b → (TJx3cf43 a).2.1 ≠ (TJx3cf43 b).2.1 := by decide +kernel
theorem tyJx3cf43_ok : ∀ k, k < 0 → parseFieldDescriptor (TJx3cf43 k).2.2.1 = some (tyJx3cf43 k) := by decide +kernel
def RJ7 : String := "java/util/Arrays"
def TJ7 : u_T := fun k => match k with
  | _ => ("", "", "", false)
def tyJ7 : Nat → FieldType := fun k => match k with
  | _ => .int
abbrev wsJ70 : List Cond := u_ws RJ7 TJ7 0
theorem nmJ7 : ∀ a, a < 0 → ∀ b, b < 0 → a ≠ b → (TJ7 a).2.1 ≠ (TJ7 b).2.1 := by decide +kernel
theorem tyJ7_ok : ∀ k, k < 0 → parseFieldDescriptor (TJ7 k).2.2.1 = some (tyJ7 k) := by decide +kernel
abbrev cJ7_fill_53178 : ByteArray := prog_32_method_103_code
def yJ7_fill_53178 : MethodName := ⟨RJ7, "fill", "([II)V"⟩
def RJ3 : String := "jdk/internal/util/Preconditions"
def TJ3 : u_T := fun k => match k with
  | _ => ("", "", "", false)
def tyJ3 : Nat → FieldType := fun k => match k with
  | _ => .int
abbrev wsJ30 : List Cond := u_ws RJ3 TJ3 0
theorem nmJ3 : ∀ a, a < 0 → ∀ b, b < 0 → a ≠ b → (TJ3 a).2.1 ≠ (TJ3 b).2.1 := by decide +kernel
theorem tyJ3_ok : ∀ k, k < 0 → parseFieldDescriptor (TJ3 k).2.2.1 = some (tyJ3 k) := by decide +kernel
abbrev cJ3_checkIndex_8e157 : ByteArray := prog_34_method_11_code
def yJ3_checkIndex_8e157 : MethodName := ⟨RJ3, "checkIndex", "(IILjava/util/function/BiFunction;)I"⟩
def RL : String := "SongRefineryLaw"
abbrev cL_addFilter : ByteArray := method_3_code
def yL_addFilter : MethodName := ⟨RL, "addFilter", "(LSongRefinery;CI[J)I"⟩
abbrev cL_insertFilter : ByteArray := method_4_code
def yL_insertFilter : MethodName := ⟨RL, "insertFilter", "(LSongRefinery;ICI[J)I"⟩
abbrev cL_removeFilter : ByteArray := method_5_code
def yL_removeFilter : MethodName := ⟨RL, "removeFilter", "(LSongRefinery;I[J)I"⟩
abbrev cL_swapFilters : ByteArray := method_6_code
def yL_swapFilters : MethodName := ⟨RL, "swapFilters", "(LSongRefinery;II[J)I"⟩
abbrev cL_filterKind : ByteArray := method_7_code
def yL_filterKind : MethodName := ⟨RL, "filterKind", "(LSongRefinery;I[J)I"⟩
abbrev cL_filterParameter : ByteArray := method_8_code
def yL_filterParameter : MethodName := ⟨RL, "filterParameter", "(LSongRefinery;I[J)I"⟩
abbrev cL_addNote : ByteArray := method_9_code
def yL_addNote : MethodName := ⟨RL, "addNote", "(LSongRefinery;IIII[J)I"⟩
abbrev cL_removeNote : ByteArray := method_10_code
def yL_removeNote : MethodName := ⟨RL, "removeNote", "(LSongRefinery;I[J)I"⟩
abbrev cL_noteCount : ByteArray := method_11_code
def yL_noteCount : MethodName := ⟨RL, "noteCount", "(LSongRefinery;I[J)I"⟩
abbrev cL_songLength : ByteArray := method_12_code
def yL_songLength : MethodName := ⟨RL, "songLength", "(LSongRefinery;I[J)I"⟩
abbrev cL_rawSample : ByteArray := method_13_code
def yL_rawSample : MethodName := ⟨RL, "rawSample", "(LSongRefinery;II[J)I"⟩
abbrev cL_sample : ByteArray := method_14_code
def yL_sample : MethodName := ⟨RL, "sample", "(LSongRefinery;II[J)I"⟩
abbrev cL_sampleByFilter : ByteArray := method_15_code
def yL_sampleByFilter : MethodName := ⟨RL, "sampleByFilter", "(LSongRefinery;II[J)I"⟩
abbrev cL_mixedSample : ByteArray := method_16_code
def yL_mixedSample : MethodName := ⟨RL, "mixedSample", "(LSongRefinery;III[J)I"⟩
abbrev cL_peak : ByteArray := method_17_code
def yL_peak : MethodName := ⟨RL, "peak", "(LSongRefinery;I[J)I"⟩
abbrev cL_energy : ByteArray := method_18_code
def yL_energy : MethodName := ⟨RL, "energy", "(LSongRefinery;I[J)I"⟩
abbrev cL_signChanges : ByteArray := method_19_code
def yL_signChanges : MethodName := ⟨RL, "signChanges", "(LSongRefinery;I[J)I"⟩
abbrev cL_addTank : ByteArray := method_20_code
def yL_addTank : MethodName := ⟨RL, "addTank", "(LSongRefinery;I[J)I"⟩
abbrev cL_setTuning : ByteArray := method_21_code
def yL_setTuning : MethodName := ⟨RL, "setTuning", "(LSongRefinery;II[J)I"⟩
abbrev cL_pour : ByteArray := method_22_code
def yL_pour : MethodName := ⟨RL, "pour", "(LSongRefinery;I[J)I"⟩
abbrev cL_drain : ByteArray := method_23_code
def yL_drain : MethodName := ⟨RL, "drain", "(LSongRefinery;II[J)I"⟩
abbrev cL_capacity : ByteArray := method_24_code
def yL_capacity : MethodName := ⟨RL, "capacity", "(LSongRefinery;I[J)I"⟩
abbrev cL_tuning : ByteArray := method_25_code
def yL_tuning : MethodName := ⟨RL, "tuning", "(LSongRefinery;I[J)I"⟩
abbrev cL_level : ByteArray := method_26_code
def yL_level : MethodName := ⟨RL, "level", "(LSongRefinery;I[J)I"⟩
abbrev cL_frameLoudness : ByteArray := method_27_code
def yL_frameLoudness : MethodName := ⟨RL, "frameLoudness", "(LSongRefinery;II[J)I"⟩
abbrev cL_frameCount : ByteArray := method_28_code
def yL_frameCount : MethodName := ⟨RL, "frameCount", "(LSongRefinery;I[J)I"⟩
abbrev cL_dropsFor : ByteArray := method_29_code
def yL_dropsFor : MethodName := ⟨RL, "dropsFor", "(LSongRefinery;I[J)I"⟩
abbrev cL_dropsByLevels : ByteArray := method_30_code
def yL_dropsByLevels : MethodName := ⟨RL, "dropsByLevels", "(LSongRefinery;I[J)I"⟩
abbrev cL_tankAtRank : ByteArray := method_31_code
def yL_tankAtRank : MethodName := ⟨RL, "tankAtRank", "(LSongRefinery;I[J)I"⟩
abbrev cL_append : ByteArray := method_32_code
def yL_append : MethodName := ⟨RL, "append", "(LSongRefinery;C[J)I"⟩
abbrev cL_run : ByteArray := method_33_code
def yL_run : MethodName := ⟨RL, "run", "(LSongRefinery;[J)I"⟩
abbrev cL_errorPosition : ByteArray := method_34_code
def yL_errorPosition : MethodName := ⟨RL, "errorPosition", "(LSongRefinery;[J)I"⟩
abbrev cL_failedCommand : ByteArray := method_35_code
def yL_failedCommand : MethodName := ⟨RL, "failedCommand", "(LSongRefinery;[J)I"⟩
abbrev cL_describeTank : ByteArray := method_36_code
def yL_describeTank : MethodName := ⟨RL, "describeTank", "(LSongRefinery;I[J)I"⟩
abbrev cL_lineAt : ByteArray := method_37_code
def yL_lineAt : MethodName := ⟨RL, "lineAt", "(LSongRefinery;I[J)I"⟩
abbrev cL_meanLevel : ByteArray := method_38_code
def yL_meanLevel : MethodName := ⟨RL, "meanLevel", "(LSongRefinery;I[D)I"⟩
abbrev cL_filledShare : ByteArray := method_39_code
def yL_filledShare : MethodName := ⟨RL, "filledShare", "(LSongRefinery;[D)I"⟩
abbrev cL_undo : ByteArray := method_40_code
def yL_undo : MethodName := ⟨RL, "undo", "(LSongRefinery;[J)I"⟩
abbrev cL_restore : ByteArray := method_41_code
def yL_restore : MethodName := ⟨RL, "restore", "(LSongRefinery;[J)I"⟩
abbrev cL_law : ByteArray := code
def yL_law : MethodName := ⟨RL, "law", "([I)Z"⟩
abbrev vwCl : List vw_C := [(RJ0, TJ0, 2), (RJx00060, TJx00060, 6), (RX0, TX0, 3), (RX1, TX1, 6), (RX2, TX2, 3), (RX3, TX3, 2), (RX4, TX4, 3), (RX5, TX5, 4), (RX6, TX6, 3), (RX7, TX7, 8), (RX9, TX9, 12), (RX10, TX10, 23)]
