def GT : List Cond := lw_tbl.filter goodWord
theorem GT_tbl {w : Cond} (h : w ∈ GT) : w ∈ lw_tbl := (List.mem_filter.mp h).1
theorem GT_good {w : Cond} (h : w ∈ GT) : (w.onTables && w.keeps) = true ∨ ∃ ty, w = .arrayClass ty := good_of_word (List.mem_filter.mp h).2
theorem GT_at {w : Cond} {i : Nat} (h : lw_tbl[i]? = some w) (hg : goodWord w = true) : w ∈ GT := List.mem_filter.mpr ⟨List.mem_of_getElem? h, hg⟩
def nestW : Cond → Bool
  | .methodLinkNest .. => true
  | .fieldLinkNest .. => true
  | .castable .. => true
  | .declares .. => true
  | _ => false
/-- the words that speak of members of a nest mate, of casts and of declarations -/
def NLW : List Cond := lw_tbl.filter nestW
theorem NLW_at {w : Cond} {i : Nat} (h : lw_tbl[i]? = some w) (hg : nestW w = true) : w ∈ NLW := List.mem_filter.mpr ⟨List.mem_of_getElem? h, hg⟩
theorem g_0 : Cond.selects RX9 yX9_sumOfSquares yX9_sumOfSquares ∈ GT := GT_at (i := 0) (by decide +kernel) rfl
theorem g_1 : Cond.selects RX9 yX9_sendSong yX9_sendSong ∈ GT := GT_at (i := 1) (by decide +kernel) rfl
theorem g_2 : Cond.selects RX4 yX4_pass yX4_pass ∈ GT := GT_at (i := 2) (by decide +kernel) rfl
theorem g_3 : Cond.selects RX4 yX4_recall yX4_recall ∈ GT := GT_at (i := 3) (by decide +kernel) rfl
theorem g_4 : Cond.selects RX9 yX9_bothWaysAgree yX9_bothWaysAgree ∈ GT := GT_at (i := 4) (by decide +kernel) rfl
theorem g_5 : Cond.selects RX4 yX4_passAll yX4_passAll ∈ GT := GT_at (i := 5) (by decide +kernel) rfl
theorem g_6 : Cond.selects RX4 yX4_givenAt yX4_givenAt ∈ GT := GT_at (i := 6) (by decide +kernel) rfl
theorem g_7 : Cond.selects RX9 yX9_dropsOnCopy yX9_dropsOnCopy ∈ GT := GT_at (i := 7) (by decide +kernel) rfl
theorem g_8 : Cond.selects RX9 yX9_pourSong yX9_pourSong ∈ GT := GT_at (i := 8) (by decide +kernel) rfl
theorem g_9 : Cond.selects RX7 yX7_accepts yX7_accepts ∈ GT := GT_at (i := 9) (by decide +kernel) rfl
theorem g_10 : Cond.selects RX7 yX7_roomOf yX7_roomOf ∈ GT := GT_at (i := 10) (by decide +kernel) rfl
theorem g_11 : Cond.selects RX7 yX7_setFrame yX7_setFrame ∈ GT := GT_at (i := 11) (by decide +kernel) rfl
theorem g_12 : Cond.selects RX9 yX9_dropsFromLevels yX9_dropsFromLevels ∈ GT := GT_at (i := 12) (by decide +kernel) rfl
theorem g_13 : Cond.selects RX9 yX9_roomiestFor yX9_roomiestFor ∈ GT := GT_at (i := 13) (by decide +kernel) rfl
theorem g_14 : Cond.selects "java/lang/Throwable" (⟨"java/lang/Throwable", "fillInStackTrace", "(I)Ljava/lang/Throwable;"⟩ : MethodName) (⟨"java/lang/Throwable", "fillInStackTrace", "(I)Ljava/lang/Throwable;"⟩ : MethodName) ∈ GT := GT_at (i := 14) (by decide +kernel) rfl
theorem g_15 : Cond.selects RX2 yX2_stateAt yX2_stateAt ∈ GT := GT_at (i := 15) (by decide +kernel) rfl
theorem g_16 : Cond.selects RX0 yX0_setFilter yX0_setFilter ∈ GT := GT_at (i := 16) (by decide +kernel) rfl
theorem g_17 : Cond.selects RX1 yX1_takeCommand yX1_takeCommand ∈ GT := GT_at (i := 17) (by decide +kernel) rfl
theorem g_18 : Cond.selects RX1 yX1_sameCharacters yX1_sameCharacters ∈ GT := GT_at (i := 18) (by decide +kernel) rfl
theorem g_19 : Cond.selects RX1 yX1_characterAt yX1_characterAt ∈ GT := GT_at (i := 19) (by decide +kernel) rfl
theorem g_20 : Cond.selects RX1 yX1_takeNumbers yX1_takeNumbers ∈ GT := GT_at (i := 20) (by decide +kernel) rfl
theorem g_21 : Cond.selects RX1 yX1_takeSign yX1_takeSign ∈ GT := GT_at (i := 21) (by decide +kernel) rfl
theorem g_22 : Cond.selects RX1 yX1_takeNumber yX1_takeNumber ∈ GT := GT_at (i := 22) (by decide +kernel) rfl
theorem g_23 : Cond.selects RX9 yX9_faultOfCommand yX9_faultOfCommand ∈ GT := GT_at (i := 23) (by decide +kernel) rfl
theorem g_24 : Cond.selects RX9 yX9_carryOut yX9_carryOut ∈ GT := GT_at (i := 24) (by decide +kernel) rfl
theorem g_25 : Cond.selects RX9 yX9_filteredOrZero yX9_filteredOrZero ∈ GT := GT_at (i := 25) (by decide +kernel) rfl
theorem g_26 : Cond.selects RX7 yX7_tanksAheadOf yX7_tanksAheadOf ∈ GT := GT_at (i := 26) (by decide +kernel) rfl
theorem g_27 : Cond.selects RX7 yX7_isAhead yX7_isAhead ∈ GT := GT_at (i := 27) (by decide +kernel) rfl
theorem g_28 : Cond.initialized RL ∈ GT := GT_at (i := 28) (by decide +kernel) rfl
theorem g_29 : Cond.initialized RX9 ∈ GT := GT_at (i := 29) (by decide +kernel) rfl
theorem g_30 : Cond.initialized RX6 ∈ GT := GT_at (i := 30) (by decide +kernel) rfl
theorem g_31 : Cond.initialized RX0 ∈ GT := GT_at (i := 31) (by decide +kernel) rfl
theorem g_32 : Cond.initialized RX5 ∈ GT := GT_at (i := 32) (by decide +kernel) rfl
theorem g_33 : Cond.initialized RX7 ∈ GT := GT_at (i := 33) (by decide +kernel) rfl
theorem g_34 : Cond.initialized RX2 ∈ GT := GT_at (i := 34) (by decide +kernel) rfl
theorem g_35 : Cond.initialized RX4 ∈ GT := GT_at (i := 35) (by decide +kernel) rfl
theorem g_36 : Cond.initialized RX1 ∈ GT := GT_at (i := 36) (by decide +kernel) rfl
theorem g_37 : Cond.initialized RX3 ∈ GT := GT_at (i := 37) (by decide +kernel) rfl
theorem g_38 : Cond.initialized "java/lang/Throwable" ∈ GT := GT_at (i := 38) (by decide +kernel) rfl
theorem g_39 : Cond.initialized "java/lang/Exception" ∈ GT := GT_at (i := 39) (by decide +kernel) rfl
theorem g_40 : Cond.initialized "java/lang/RuntimeException" ∈ GT := GT_at (i := 40) (by decide +kernel) rfl
theorem g_41 : Cond.initialized "java/lang/IllegalStateException" ∈ GT := GT_at (i := 41) (by decide +kernel) rfl
theorem g_42 : Cond.initialized RJ10 ∈ GT := GT_at (i := 42) (by decide +kernel) rfl
theorem g_43 : Cond.initialized "java/util/NoSuchElementException" ∈ GT := GT_at (i := 43) (by decide +kernel) rfl
theorem g_44 : Cond.initialized RJ0 ∈ GT := GT_at (i := 44) (by decide +kernel) rfl
theorem g_45 : Cond.initialized RJ1 ∈ GT := GT_at (i := 45) (by decide +kernel) rfl
theorem g_46 : Cond.initialized RJ3 ∈ GT := GT_at (i := 46) (by decide +kernel) rfl
theorem g_47 : Cond.initialized RJ2 ∈ GT := GT_at (i := 47) (by decide +kernel) rfl
theorem g_48 : Cond.initialized RJ9 ∈ GT := GT_at (i := 48) (by decide +kernel) rfl
theorem g_49 : Cond.initialized "java/lang/IllegalArgumentException" ∈ GT := GT_at (i := 49) (by decide +kernel) rfl
theorem g_50 : Cond.initialized RJ7 ∈ GT := GT_at (i := 50) (by decide +kernel) rfl
theorem g_51 : Cond.initialized "java/lang/IndexOutOfBoundsException" ∈ GT := GT_at (i := 51) (by decide +kernel) rfl
theorem g_52 : Cond.initialized RJx00060 ∈ GT := GT_at (i := 52) (by decide +kernel) rfl
theorem g_53 : Cond.initialized "java/lang/ArithmeticException" ∈ GT := GT_at (i := 53) (by decide +kernel) rfl
theorem g_54 : Cond.initialized RX10 ∈ GT := GT_at (i := 54) (by decide +kernel) rfl
theorem g_55 : Cond.initialized RJ5 ∈ GT := GT_at (i := 55) (by decide +kernel) rfl
theorem g_56 : Cond.initialized RJ4 ∈ GT := GT_at (i := 56) (by decide +kernel) rfl
theorem g_57 : Cond.initialized RJ8 ∈ GT := GT_at (i := 57) (by decide +kernel) rfl
theorem g_58 : Cond.initialized RJxd2413 ∈ GT := GT_at (i := 58) (by decide +kernel) rfl
theorem g_59 : Cond.initialized RJ6 ∈ GT := GT_at (i := 59) (by decide +kernel) rfl
theorem g_60 : Cond.initialized RJ11 ∈ GT := GT_at (i := 60) (by decide +kernel) rfl
theorem g_61 : Cond.classLink RL 8 RX9 ∈ GT := GT_at (i := 61) (by decide +kernel) rfl
theorem g_62 : Cond.instantiable RX9 12 ∈ GT := GT_at (i := 62) (by decide +kernel) rfl
theorem g_63 : Cond.methodLink RL 358 yX9_init ∈ GT := GT_at (i := 63) (by decide +kernel) rfl
theorem g_64 : Cond.instanceMethod yX9_init ∈ GT := GT_at (i := 64) (by decide +kernel) rfl
theorem g_65 : Cond.code yX9_init cX9_init 1 (none) ∈ GT := GT_at (i := 65) (by decide +kernel) rfl
theorem g_66 : Cond.methodLink RX9 1 objectInit ∈ GT := GT_at (i := 66) (by decide +kernel) rfl
theorem g_67 : Cond.instanceMethod objectInit ∈ GT := GT_at (i := 67) (by decide +kernel) rfl
theorem g_68 : Cond.code objectInit object_method_1_code 1 (none) ∈ GT := GT_at (i := 68) (by decide +kernel) rfl
theorem g_69 : Cond.classLink RX9 7 RX6 ∈ GT := GT_at (i := 69) (by decide +kernel) rfl
theorem g_70 : Cond.instantiable RX6 3 ∈ GT := GT_at (i := 70) (by decide +kernel) rfl
theorem n_71 : Cond.methodLinkNest RX9 9 yX6_init "SongRefinery" ∈ NLW := NLW_at (i := 71) (by decide +kernel) rfl
theorem g_72 : Cond.instanceMethod yX6_init ∈ GT := GT_at (i := 72) (by decide +kernel) rfl
theorem g_73 : Cond.code yX6_init cX6_init 1 (none) ∈ GT := GT_at (i := 73) (by decide +kernel) rfl
theorem g_74 : Cond.methodLink RX6 1 objectInit ∈ GT := GT_at (i := 74) (by decide +kernel) rfl
theorem g_75 : Cond.classLink RX6 7 RX0 ∈ GT := GT_at (i := 75) (by decide +kernel) rfl
theorem g_76 : Cond.instantiable RX0 3 ∈ GT := GT_at (i := 76) (by decide +kernel) rfl
theorem n_77 : Cond.methodLinkNest RX6 9 yX0_init "SongRefinery" ∈ NLW := NLW_at (i := 77) (by decide +kernel) rfl
theorem g_78 : Cond.instanceMethod yX0_init ∈ GT := GT_at (i := 78) (by decide +kernel) rfl
theorem g_79 : Cond.code yX0_init cX0_init 1 (none) ∈ GT := GT_at (i := 79) (by decide +kernel) rfl
theorem g_80 : Cond.methodLink RX0 3 objectInit ∈ GT := GT_at (i := 80) (by decide +kernel) rfl
theorem g_81 : Cond.fieldLink RX0 9 "SongRefinery$Chain" "kinds" "[I" ∈ GT := GT_at (i := 81) (by decide +kernel) rfl
theorem g_82 : Cond.fieldLink RX0 15 "SongRefinery$Chain" "parameters" "[I" ∈ GT := GT_at (i := 82) (by decide +kernel) rfl
theorem g_83 : Cond.fieldLink RX0 18 "SongRefinery$Chain" "count" "I" ∈ GT := GT_at (i := 83) (by decide +kernel) rfl
theorem g_84 : Cond.fieldLink RX9 90 "SongRefinery$Chain" "count" "I" ∈ GT := GT_at (i := 84) (by decide +kernel) rfl
theorem g_85 : Cond.fieldLink RX4 47 "SongRefinery$Chain" "count" "I" ∈ GT := GT_at (i := 85) (by decide +kernel) rfl
theorem g_86 : Cond.laysFinal "SongRefinery$Chain" "SongRefinery$Chain" "kinds" "[I" ∈ GT := GT_at (i := 86) (by decide +kernel) rfl
theorem g_87 : Cond.soleField "SongRefinery$Chain" "kinds" ∈ GT := GT_at (i := 87) (by decide +kernel) rfl
theorem g_88 : Cond.laysFinal "SongRefinery$Chain" "SongRefinery$Chain" "parameters" "[I" ∈ GT := GT_at (i := 88) (by decide +kernel) rfl
theorem g_89 : Cond.soleField "SongRefinery$Chain" "parameters" ∈ GT := GT_at (i := 89) (by decide +kernel) rfl
theorem g_90 : Cond.lays "SongRefinery$Chain" "SongRefinery$Chain" "count" "I" ∈ GT := GT_at (i := 90) (by decide +kernel) rfl
theorem g_91 : Cond.soleField "SongRefinery$Chain" "count" ∈ GT := GT_at (i := 91) (by decide +kernel) rfl
theorem g_92 : Cond.superclass "SongRefinery$Chain" "java/lang/Object" ∈ GT := GT_at (i := 92) (by decide +kernel) rfl
theorem g_93 : Cond.arrayClass .int ∈ GT := GT_at (i := 93) (by decide +kernel) rfl
theorem g_94 : Cond.classLink RX6 16 RX5 ∈ GT := GT_at (i := 94) (by decide +kernel) rfl
theorem g_95 : Cond.instantiable RX5 4 ∈ GT := GT_at (i := 95) (by decide +kernel) rfl
theorem n_96 : Cond.methodLinkNest RX6 18 yX5_init "SongRefinery" ∈ NLW := NLW_at (i := 96) (by decide +kernel) rfl
theorem g_97 : Cond.instanceMethod yX5_init ∈ GT := GT_at (i := 97) (by decide +kernel) rfl
theorem g_98 : Cond.code yX5_init cX5_init 1 (none) ∈ GT := GT_at (i := 98) (by decide +kernel) rfl
theorem g_99 : Cond.methodLink RX5 3 objectInit ∈ GT := GT_at (i := 99) (by decide +kernel) rfl
theorem g_100 : Cond.fieldLink RX5 9 "SongRefinery$Songs" "samples" "[I" ∈ GT := GT_at (i := 100) (by decide +kernel) rfl
theorem g_101 : Cond.fieldLink RX5 15 "SongRefinery$Songs" "noteLengths" "[I" ∈ GT := GT_at (i := 101) (by decide +kernel) rfl
theorem g_102 : Cond.fieldLink RX5 18 "SongRefinery$Songs" "sampleCounts" "[I" ∈ GT := GT_at (i := 102) (by decide +kernel) rfl
theorem g_103 : Cond.fieldLink RX5 21 "SongRefinery$Songs" "noteCounts" "[I" ∈ GT := GT_at (i := 103) (by decide +kernel) rfl
theorem g_104 : Cond.laysFinal "SongRefinery$Songs" "SongRefinery$Songs" "samples" "[I" ∈ GT := GT_at (i := 104) (by decide +kernel) rfl
theorem g_105 : Cond.soleField "SongRefinery$Songs" "samples" ∈ GT := GT_at (i := 105) (by decide +kernel) rfl
theorem g_106 : Cond.laysFinal "SongRefinery$Songs" "SongRefinery$Songs" "noteLengths" "[I" ∈ GT := GT_at (i := 106) (by decide +kernel) rfl
theorem g_107 : Cond.soleField "SongRefinery$Songs" "noteLengths" ∈ GT := GT_at (i := 107) (by decide +kernel) rfl
theorem g_108 : Cond.laysFinal "SongRefinery$Songs" "SongRefinery$Songs" "sampleCounts" "[I" ∈ GT := GT_at (i := 108) (by decide +kernel) rfl
theorem g_109 : Cond.soleField "SongRefinery$Songs" "sampleCounts" ∈ GT := GT_at (i := 109) (by decide +kernel) rfl
theorem g_110 : Cond.laysFinal "SongRefinery$Songs" "SongRefinery$Songs" "noteCounts" "[I" ∈ GT := GT_at (i := 110) (by decide +kernel) rfl
theorem g_111 : Cond.soleField "SongRefinery$Songs" "noteCounts" ∈ GT := GT_at (i := 111) (by decide +kernel) rfl
theorem g_112 : Cond.superclass "SongRefinery$Songs" "java/lang/Object" ∈ GT := GT_at (i := 112) (by decide +kernel) rfl
theorem g_113 : Cond.classLink RX6 23 RX7 ∈ GT := GT_at (i := 113) (by decide +kernel) rfl
theorem g_114 : Cond.instantiable RX7 8 ∈ GT := GT_at (i := 114) (by decide +kernel) rfl
theorem n_115 : Cond.methodLinkNest RX6 25 yX7_init "SongRefinery" ∈ NLW := NLW_at (i := 115) (by decide +kernel) rfl
theorem g_116 : Cond.instanceMethod yX7_init ∈ GT := GT_at (i := 116) (by decide +kernel) rfl
theorem g_117 : Cond.code yX7_init cX7_init 1 (none) ∈ GT := GT_at (i := 117) (by decide +kernel) rfl
theorem g_118 : Cond.methodLink RX7 3 objectInit ∈ GT := GT_at (i := 118) (by decide +kernel) rfl
theorem g_119 : Cond.fieldLink RX7 9 "SongRefinery$Tanks" "capacities" "[I" ∈ GT := GT_at (i := 119) (by decide +kernel) rfl
theorem g_120 : Cond.fieldLink RX7 15 "SongRefinery$Tanks" "tunings" "[I" ∈ GT := GT_at (i := 120) (by decide +kernel) rfl
theorem g_121 : Cond.fieldLink RX7 18 "SongRefinery$Tanks" "levels" "[I" ∈ GT := GT_at (i := 121) (by decide +kernel) rfl
theorem g_122 : Cond.fieldLink RX7 21 "SongRefinery$Tanks" "frames" "[I" ∈ GT := GT_at (i := 122) (by decide +kernel) rfl
theorem g_123 : Cond.fieldLink RX7 24 "SongRefinery$Tanks" "count" "I" ∈ GT := GT_at (i := 123) (by decide +kernel) rfl
theorem g_124 : Cond.fieldLink RX9 218 "SongRefinery$Tanks" "count" "I" ∈ GT := GT_at (i := 124) (by decide +kernel) rfl
theorem g_125 : Cond.fieldLink RX7 28 "SongRefinery$Tanks" "stored" "I" ∈ GT := GT_at (i := 125) (by decide +kernel) rfl
theorem g_126 : Cond.fieldLink RX9 251 "SongRefinery$Tanks" "stored" "I" ∈ GT := GT_at (i := 126) (by decide +kernel) rfl
theorem g_127 : Cond.fieldLink RX7 31 "SongRefinery$Tanks" "dropped" "I" ∈ GT := GT_at (i := 127) (by decide +kernel) rfl
theorem g_128 : Cond.fieldLink RX9 254 "SongRefinery$Tanks" "dropped" "I" ∈ GT := GT_at (i := 128) (by decide +kernel) rfl
theorem g_129 : Cond.fieldLink RX7 34 "SongRefinery$Tanks" "drained" "I" ∈ GT := GT_at (i := 129) (by decide +kernel) rfl
theorem g_130 : Cond.fieldLink RX9 257 "SongRefinery$Tanks" "drained" "I" ∈ GT := GT_at (i := 130) (by decide +kernel) rfl
theorem g_131 : Cond.laysFinal "SongRefinery$Tanks" "SongRefinery$Tanks" "capacities" "[I" ∈ GT := GT_at (i := 131) (by decide +kernel) rfl
theorem g_132 : Cond.soleField "SongRefinery$Tanks" "capacities" ∈ GT := GT_at (i := 132) (by decide +kernel) rfl
theorem g_133 : Cond.laysFinal "SongRefinery$Tanks" "SongRefinery$Tanks" "tunings" "[I" ∈ GT := GT_at (i := 133) (by decide +kernel) rfl
theorem g_134 : Cond.soleField "SongRefinery$Tanks" "tunings" ∈ GT := GT_at (i := 134) (by decide +kernel) rfl
theorem g_135 : Cond.laysFinal "SongRefinery$Tanks" "SongRefinery$Tanks" "levels" "[I" ∈ GT := GT_at (i := 135) (by decide +kernel) rfl
theorem g_136 : Cond.soleField "SongRefinery$Tanks" "levels" ∈ GT := GT_at (i := 136) (by decide +kernel) rfl
theorem g_137 : Cond.laysFinal "SongRefinery$Tanks" "SongRefinery$Tanks" "frames" "[I" ∈ GT := GT_at (i := 137) (by decide +kernel) rfl
theorem g_138 : Cond.soleField "SongRefinery$Tanks" "frames" ∈ GT := GT_at (i := 138) (by decide +kernel) rfl
theorem g_139 : Cond.lays "SongRefinery$Tanks" "SongRefinery$Tanks" "count" "I" ∈ GT := GT_at (i := 139) (by decide +kernel) rfl
theorem g_140 : Cond.soleField "SongRefinery$Tanks" "count" ∈ GT := GT_at (i := 140) (by decide +kernel) rfl
theorem g_141 : Cond.lays "SongRefinery$Tanks" "SongRefinery$Tanks" "stored" "I" ∈ GT := GT_at (i := 141) (by decide +kernel) rfl
theorem g_142 : Cond.soleField "SongRefinery$Tanks" "stored" ∈ GT := GT_at (i := 142) (by decide +kernel) rfl
theorem g_143 : Cond.lays "SongRefinery$Tanks" "SongRefinery$Tanks" "dropped" "I" ∈ GT := GT_at (i := 143) (by decide +kernel) rfl
theorem g_144 : Cond.soleField "SongRefinery$Tanks" "dropped" ∈ GT := GT_at (i := 144) (by decide +kernel) rfl
theorem g_145 : Cond.lays "SongRefinery$Tanks" "SongRefinery$Tanks" "drained" "I" ∈ GT := GT_at (i := 145) (by decide +kernel) rfl
theorem g_146 : Cond.soleField "SongRefinery$Tanks" "drained" ∈ GT := GT_at (i := 146) (by decide +kernel) rfl
theorem g_147 : Cond.superclass "SongRefinery$Tanks" "java/lang/Object" ∈ GT := GT_at (i := 147) (by decide +kernel) rfl
theorem g_148 : Cond.fieldLink RX6 10 "SongRefinery$State" "chain" "LSongRefinery$Chain;" ∈ GT := GT_at (i := 148) (by decide +kernel) rfl
theorem g_149 : Cond.fieldLink RX9 72 "SongRefinery$State" "chain" "LSongRefinery$Chain;" ∈ GT := GT_at (i := 149) (by decide +kernel) rfl
theorem g_150 : Cond.fieldLink RX4 43 "SongRefinery$State" "chain" "LSongRefinery$Chain;" ∈ GT := GT_at (i := 150) (by decide +kernel) rfl
theorem g_151 : Cond.fieldLink RX6 19 "SongRefinery$State" "songs" "LSongRefinery$Songs;" ∈ GT := GT_at (i := 151) (by decide +kernel) rfl
theorem g_152 : Cond.fieldLink RX4 31 "SongRefinery$State" "songs" "LSongRefinery$Songs;" ∈ GT := GT_at (i := 152) (by decide +kernel) rfl
theorem g_153 : Cond.fieldLink RX9 122 "SongRefinery$State" "songs" "LSongRefinery$Songs;" ∈ GT := GT_at (i := 153) (by decide +kernel) rfl
theorem g_154 : Cond.fieldLink RX6 26 "SongRefinery$State" "tanks" "LSongRefinery$Tanks;" ∈ GT := GT_at (i := 154) (by decide +kernel) rfl
theorem g_155 : Cond.fieldLink RX9 193 "SongRefinery$State" "tanks" "LSongRefinery$Tanks;" ∈ GT := GT_at (i := 155) (by decide +kernel) rfl
theorem g_156 : Cond.laysFinal "SongRefinery$State" "SongRefinery$State" "chain" "LSongRefinery$Chain;" ∈ GT := GT_at (i := 156) (by decide +kernel) rfl
theorem g_157 : Cond.soleField "SongRefinery$State" "chain" ∈ GT := GT_at (i := 157) (by decide +kernel) rfl
theorem g_158 : Cond.laysFinal "SongRefinery$State" "SongRefinery$State" "songs" "LSongRefinery$Songs;" ∈ GT := GT_at (i := 158) (by decide +kernel) rfl
theorem g_159 : Cond.soleField "SongRefinery$State" "songs" ∈ GT := GT_at (i := 159) (by decide +kernel) rfl
theorem g_160 : Cond.laysFinal "SongRefinery$State" "SongRefinery$State" "tanks" "LSongRefinery$Tanks;" ∈ GT := GT_at (i := 160) (by decide +kernel) rfl
theorem g_161 : Cond.soleField "SongRefinery$State" "tanks" ∈ GT := GT_at (i := 161) (by decide +kernel) rfl
theorem g_162 : Cond.superclass "SongRefinery$State" "java/lang/Object" ∈ GT := GT_at (i := 162) (by decide +kernel) rfl
theorem g_163 : Cond.classLink RX9 22 RX2 ∈ GT := GT_at (i := 163) (by decide +kernel) rfl
theorem g_164 : Cond.instantiable RX2 3 ∈ GT := GT_at (i := 164) (by decide +kernel) rfl
theorem n_165 : Cond.methodLinkNest RX9 24 yX2_init "SongRefinery" ∈ NLW := NLW_at (i := 165) (by decide +kernel) rfl
theorem g_166 : Cond.instanceMethod yX2_init ∈ GT := GT_at (i := 166) (by decide +kernel) rfl
theorem g_167 : Cond.code yX2_init cX2_init 1 (none) ∈ GT := GT_at (i := 167) (by decide +kernel) rfl
theorem g_168 : Cond.methodLink RX2 3 objectInit ∈ GT := GT_at (i := 168) (by decide +kernel) rfl
theorem g_169 : Cond.classLink RX2 9 RX6 ∈ GT := GT_at (i := 169) (by decide +kernel) rfl
theorem g_171 : Cond.fieldLink RX2 11 "SongRefinery$History" "ring" "[LSongRefinery$State;" ∈ GT := GT_at (i := 171) (by decide +kernel) rfl
theorem g_172 : Cond.fieldLink RX2 17 "SongRefinery$History" "next" "I" ∈ GT := GT_at (i := 172) (by decide +kernel) rfl
theorem g_173 : Cond.fieldLink RX2 21 "SongRefinery$History" "count" "I" ∈ GT := GT_at (i := 173) (by decide +kernel) rfl
theorem g_174 : Cond.fieldLink RX9 340 "SongRefinery$History" "count" "I" ∈ GT := GT_at (i := 174) (by decide +kernel) rfl
theorem g_175 : Cond.laysFinal "SongRefinery$History" "SongRefinery$History" "ring" "[LSongRefinery$State;" ∈ GT := GT_at (i := 175) (by decide +kernel) rfl
theorem g_176 : Cond.soleField "SongRefinery$History" "ring" ∈ GT := GT_at (i := 176) (by decide +kernel) rfl
theorem g_177 : Cond.lays "SongRefinery$History" "SongRefinery$History" "next" "I" ∈ GT := GT_at (i := 177) (by decide +kernel) rfl
theorem g_178 : Cond.soleField "SongRefinery$History" "next" ∈ GT := GT_at (i := 178) (by decide +kernel) rfl
theorem g_179 : Cond.lays "SongRefinery$History" "SongRefinery$History" "count" "I" ∈ GT := GT_at (i := 179) (by decide +kernel) rfl
theorem g_180 : Cond.soleField "SongRefinery$History" "count" ∈ GT := GT_at (i := 180) (by decide +kernel) rfl
theorem g_181 : Cond.superclass "SongRefinery$History" "java/lang/Object" ∈ GT := GT_at (i := 181) (by decide +kernel) rfl
theorem g_182 : Cond.classLink RX9 29 RX4 ∈ GT := GT_at (i := 182) (by decide +kernel) rfl
theorem g_183 : Cond.instantiable RX4 3 ∈ GT := GT_at (i := 183) (by decide +kernel) rfl
theorem n_184 : Cond.methodLinkNest RX9 31 yX4_init "SongRefinery" ∈ NLW := NLW_at (i := 184) (by decide +kernel) rfl
theorem g_185 : Cond.instanceMethod yX4_init ∈ GT := GT_at (i := 185) (by decide +kernel) rfl
theorem g_186 : Cond.code yX4_init cX4_init 1 (none) ∈ GT := GT_at (i := 186) (by decide +kernel) rfl
theorem g_187 : Cond.methodLink RX4 3 objectInit ∈ GT := GT_at (i := 187) (by decide +kernel) rfl
theorem g_188 : Cond.fieldLink RX4 9 "SongRefinery$Refining" "memory" "[I" ∈ GT := GT_at (i := 188) (by decide +kernel) rfl
theorem g_189 : Cond.fieldLink RX4 15 "SongRefinery$Refining" "row" "[I" ∈ GT := GT_at (i := 189) (by decide +kernel) rfl
theorem g_190 : Cond.fieldLink RX4 18 "SongRefinery$Refining" "rowByFilter" "[I" ∈ GT := GT_at (i := 190) (by decide +kernel) rfl
theorem g_191 : Cond.laysFinal "SongRefinery$Refining" "SongRefinery$Refining" "memory" "[I" ∈ GT := GT_at (i := 191) (by decide +kernel) rfl
theorem g_192 : Cond.soleField "SongRefinery$Refining" "memory" ∈ GT := GT_at (i := 192) (by decide +kernel) rfl
theorem g_193 : Cond.laysFinal "SongRefinery$Refining" "SongRefinery$Refining" "row" "[I" ∈ GT := GT_at (i := 193) (by decide +kernel) rfl
theorem g_194 : Cond.soleField "SongRefinery$Refining" "row" ∈ GT := GT_at (i := 194) (by decide +kernel) rfl
theorem g_195 : Cond.laysFinal "SongRefinery$Refining" "SongRefinery$Refining" "rowByFilter" "[I" ∈ GT := GT_at (i := 195) (by decide +kernel) rfl
theorem g_196 : Cond.soleField "SongRefinery$Refining" "rowByFilter" ∈ GT := GT_at (i := 196) (by decide +kernel) rfl
theorem g_197 : Cond.superclass "SongRefinery$Refining" "java/lang/Object" ∈ GT := GT_at (i := 197) (by decide +kernel) rfl
theorem g_198 : Cond.classLink RX9 36 RX7 ∈ GT := GT_at (i := 198) (by decide +kernel) rfl
theorem n_199 : Cond.methodLinkNest RX9 38 yX7_init "SongRefinery" ∈ NLW := NLW_at (i := 199) (by decide +kernel) rfl
theorem g_200 : Cond.classLink RX9 47 RX1 ∈ GT := GT_at (i := 200) (by decide +kernel) rfl
theorem g_201 : Cond.instantiable RX1 6 ∈ GT := GT_at (i := 201) (by decide +kernel) rfl
theorem n_202 : Cond.methodLinkNest RX9 49 yX1_init "SongRefinery" ∈ NLW := NLW_at (i := 202) (by decide +kernel) rfl
theorem g_203 : Cond.instanceMethod yX1_init ∈ GT := GT_at (i := 203) (by decide +kernel) rfl
theorem g_204 : Cond.code yX1_init cX1_init 1 (none) ∈ GT := GT_at (i := 204) (by decide +kernel) rfl
theorem g_205 : Cond.methodLink RX1 3 objectInit ∈ GT := GT_at (i := 205) (by decide +kernel) rfl
theorem g_206 : Cond.fieldLink RX1 9 "SongRefinery$CommandText" "characters" "[I" ∈ GT := GT_at (i := 206) (by decide +kernel) rfl
theorem g_207 : Cond.fieldLink RX1 15 "SongRefinery$CommandText" "length" "I" ∈ GT := GT_at (i := 207) (by decide +kernel) rfl
theorem g_208 : Cond.fieldLink RX1 19 "SongRefinery$CommandText" "signs" "[I" ∈ GT := GT_at (i := 208) (by decide +kernel) rfl
theorem g_209 : Cond.fieldLink RX1 22 "SongRefinery$CommandText" "numbers" "[I" ∈ GT := GT_at (i := 209) (by decide +kernel) rfl
theorem g_210 : Cond.fieldLink RX1 25 "SongRefinery$CommandText" "commands" "I" ∈ GT := GT_at (i := 210) (by decide +kernel) rfl
theorem g_211 : Cond.fieldLink RX9 285 "SongRefinery$CommandText" "commands" "I" ∈ GT := GT_at (i := 211) (by decide +kernel) rfl
theorem g_212 : Cond.fieldLink RX1 28 "SongRefinery$CommandText" "place" "I" ∈ GT := GT_at (i := 212) (by decide +kernel) rfl
theorem g_213 : Cond.fieldLink RX9 274 "SongRefinery$CommandText" "place" "I" ∈ GT := GT_at (i := 213) (by decide +kernel) rfl
theorem g_214 : Cond.laysFinal "SongRefinery$CommandText" "SongRefinery$CommandText" "characters" "[I" ∈ GT := GT_at (i := 214) (by decide +kernel) rfl
theorem g_215 : Cond.soleField "SongRefinery$CommandText" "characters" ∈ GT := GT_at (i := 215) (by decide +kernel) rfl
theorem g_216 : Cond.lays "SongRefinery$CommandText" "SongRefinery$CommandText" "length" "I" ∈ GT := GT_at (i := 216) (by decide +kernel) rfl
theorem g_217 : Cond.soleField "SongRefinery$CommandText" "length" ∈ GT := GT_at (i := 217) (by decide +kernel) rfl
theorem g_218 : Cond.laysFinal "SongRefinery$CommandText" "SongRefinery$CommandText" "signs" "[I" ∈ GT := GT_at (i := 218) (by decide +kernel) rfl
theorem g_219 : Cond.soleField "SongRefinery$CommandText" "signs" ∈ GT := GT_at (i := 219) (by decide +kernel) rfl
theorem g_220 : Cond.laysFinal "SongRefinery$CommandText" "SongRefinery$CommandText" "numbers" "[I" ∈ GT := GT_at (i := 220) (by decide +kernel) rfl
theorem g_221 : Cond.soleField "SongRefinery$CommandText" "numbers" ∈ GT := GT_at (i := 221) (by decide +kernel) rfl
theorem g_222 : Cond.lays "SongRefinery$CommandText" "SongRefinery$CommandText" "commands" "I" ∈ GT := GT_at (i := 222) (by decide +kernel) rfl
theorem g_223 : Cond.soleField "SongRefinery$CommandText" "commands" ∈ GT := GT_at (i := 223) (by decide +kernel) rfl
theorem g_224 : Cond.lays "SongRefinery$CommandText" "SongRefinery$CommandText" "place" "I" ∈ GT := GT_at (i := 224) (by decide +kernel) rfl
theorem g_225 : Cond.soleField "SongRefinery$CommandText" "place" ∈ GT := GT_at (i := 225) (by decide +kernel) rfl
theorem g_226 : Cond.superclass "SongRefinery$CommandText" "java/lang/Object" ∈ GT := GT_at (i := 226) (by decide +kernel) rfl
theorem g_227 : Cond.classLink RX9 54 RX3 ∈ GT := GT_at (i := 227) (by decide +kernel) rfl
theorem g_228 : Cond.instantiable RX3 2 ∈ GT := GT_at (i := 228) (by decide +kernel) rfl
theorem n_229 : Cond.methodLinkNest RX9 56 yX3_init "SongRefinery" ∈ NLW := NLW_at (i := 229) (by decide +kernel) rfl
theorem g_230 : Cond.instanceMethod yX3_init ∈ GT := GT_at (i := 230) (by decide +kernel) rfl
theorem g_231 : Cond.code yX3_init cX3_init 1 (none) ∈ GT := GT_at (i := 231) (by decide +kernel) rfl
theorem g_232 : Cond.methodLink RX3 3 objectInit ∈ GT := GT_at (i := 232) (by decide +kernel) rfl
theorem g_233 : Cond.fieldLink RX3 9 "SongRefinery$Line" "signs" "[I" ∈ GT := GT_at (i := 233) (by decide +kernel) rfl
theorem g_234 : Cond.fieldLink RX3 15 "SongRefinery$Line" "length" "I" ∈ GT := GT_at (i := 234) (by decide +kernel) rfl
theorem g_235 : Cond.fieldLink RX9 311 "SongRefinery$Line" "length" "I" ∈ GT := GT_at (i := 235) (by decide +kernel) rfl
theorem g_236 : Cond.laysFinal "SongRefinery$Line" "SongRefinery$Line" "signs" "[I" ∈ GT := GT_at (i := 236) (by decide +kernel) rfl
theorem g_237 : Cond.soleField "SongRefinery$Line" "signs" ∈ GT := GT_at (i := 237) (by decide +kernel) rfl
theorem g_238 : Cond.lays "SongRefinery$Line" "SongRefinery$Line" "length" "I" ∈ GT := GT_at (i := 238) (by decide +kernel) rfl
theorem g_239 : Cond.soleField "SongRefinery$Line" "length" ∈ GT := GT_at (i := 239) (by decide +kernel) rfl
theorem g_240 : Cond.superclass "SongRefinery$Line" "java/lang/Object" ∈ GT := GT_at (i := 240) (by decide +kernel) rfl
theorem g_241 : Cond.fieldLink RX9 10 "SongRefinery" "now" "LSongRefinery$State;" ∈ GT := GT_at (i := 241) (by decide +kernel) rfl
theorem g_242 : Cond.fieldLink RX9 16 "SongRefinery" "trial" "LSongRefinery$State;" ∈ GT := GT_at (i := 242) (by decide +kernel) rfl
theorem g_243 : Cond.fieldLink RX9 19 "SongRefinery" "snapshot" "LSongRefinery$State;" ∈ GT := GT_at (i := 243) (by decide +kernel) rfl
theorem g_244 : Cond.fieldLink RX9 25 "SongRefinery" "history" "LSongRefinery$History;" ∈ GT := GT_at (i := 244) (by decide +kernel) rfl
theorem g_245 : Cond.fieldLink RX9 32 "SongRefinery" "refining" "LSongRefinery$Refining;" ∈ GT := GT_at (i := 245) (by decide +kernel) rfl
theorem g_246 : Cond.fieldLink RX9 39 "SongRefinery" "tanksCopy" "LSongRefinery$Tanks;" ∈ GT := GT_at (i := 246) (by decide +kernel) rfl
theorem g_247 : Cond.fieldLink RX9 43 "SongRefinery" "rooms" "[I" ∈ GT := GT_at (i := 247) (by decide +kernel) rfl
theorem g_248 : Cond.fieldLink RX9 50 "SongRefinery" "text" "LSongRefinery$CommandText;" ∈ GT := GT_at (i := 248) (by decide +kernel) rfl
theorem g_249 : Cond.fieldLink RX9 57 "SongRefinery" "line" "LSongRefinery$Line;" ∈ GT := GT_at (i := 249) (by decide +kernel) rfl
theorem g_250 : Cond.fieldLink RX9 61 "SongRefinery" "hasSnapshot" "Z" ∈ GT := GT_at (i := 250) (by decide +kernel) rfl
theorem g_251 : Cond.fieldLink RX9 65 "SongRefinery" "lastErrorPosition" "I" ∈ GT := GT_at (i := 251) (by decide +kernel) rfl
theorem g_252 : Cond.fieldLink RX9 69 "SongRefinery" "lastFailedCommand" "I" ∈ GT := GT_at (i := 252) (by decide +kernel) rfl
theorem g_253 : Cond.laysFinal "SongRefinery" "SongRefinery" "now" "LSongRefinery$State;" ∈ GT := GT_at (i := 253) (by decide +kernel) rfl
theorem g_254 : Cond.soleField "SongRefinery" "now" ∈ GT := GT_at (i := 254) (by decide +kernel) rfl
theorem g_255 : Cond.laysFinal "SongRefinery" "SongRefinery" "trial" "LSongRefinery$State;" ∈ GT := GT_at (i := 255) (by decide +kernel) rfl
theorem g_256 : Cond.soleField "SongRefinery" "trial" ∈ GT := GT_at (i := 256) (by decide +kernel) rfl
theorem g_257 : Cond.laysFinal "SongRefinery" "SongRefinery" "snapshot" "LSongRefinery$State;" ∈ GT := GT_at (i := 257) (by decide +kernel) rfl
theorem g_258 : Cond.soleField "SongRefinery" "snapshot" ∈ GT := GT_at (i := 258) (by decide +kernel) rfl
theorem g_259 : Cond.laysFinal "SongRefinery" "SongRefinery" "history" "LSongRefinery$History;" ∈ GT := GT_at (i := 259) (by decide +kernel) rfl
theorem g_260 : Cond.soleField "SongRefinery" "history" ∈ GT := GT_at (i := 260) (by decide +kernel) rfl
theorem g_261 : Cond.laysFinal "SongRefinery" "SongRefinery" "refining" "LSongRefinery$Refining;" ∈ GT := GT_at (i := 261) (by decide +kernel) rfl
theorem g_262 : Cond.soleField "SongRefinery" "refining" ∈ GT := GT_at (i := 262) (by decide +kernel) rfl
theorem g_263 : Cond.laysFinal "SongRefinery" "SongRefinery" "tanksCopy" "LSongRefinery$Tanks;" ∈ GT := GT_at (i := 263) (by decide +kernel) rfl
theorem g_264 : Cond.soleField "SongRefinery" "tanksCopy" ∈ GT := GT_at (i := 264) (by decide +kernel) rfl
theorem g_265 : Cond.laysFinal "SongRefinery" "SongRefinery" "rooms" "[I" ∈ GT := GT_at (i := 265) (by decide +kernel) rfl
theorem g_266 : Cond.soleField "SongRefinery" "rooms" ∈ GT := GT_at (i := 266) (by decide +kernel) rfl
theorem g_267 : Cond.laysFinal "SongRefinery" "SongRefinery" "text" "LSongRefinery$CommandText;" ∈ GT := GT_at (i := 267) (by decide +kernel) rfl
theorem g_268 : Cond.soleField "SongRefinery" "text" ∈ GT := GT_at (i := 268) (by decide +kernel) rfl
theorem g_269 : Cond.laysFinal "SongRefinery" "SongRefinery" "line" "LSongRefinery$Line;" ∈ GT := GT_at (i := 269) (by decide +kernel) rfl
theorem g_270 : Cond.soleField "SongRefinery" "line" ∈ GT := GT_at (i := 270) (by decide +kernel) rfl
theorem g_271 : Cond.lays "SongRefinery" "SongRefinery" "hasSnapshot" "Z" ∈ GT := GT_at (i := 271) (by decide +kernel) rfl
theorem g_272 : Cond.soleField "SongRefinery" "hasSnapshot" ∈ GT := GT_at (i := 272) (by decide +kernel) rfl
theorem g_273 : Cond.lays "SongRefinery" "SongRefinery" "lastErrorPosition" "I" ∈ GT := GT_at (i := 273) (by decide +kernel) rfl
theorem g_274 : Cond.soleField "SongRefinery" "lastErrorPosition" ∈ GT := GT_at (i := 274) (by decide +kernel) rfl
theorem g_275 : Cond.lays "SongRefinery" "SongRefinery" "lastFailedCommand" "I" ∈ GT := GT_at (i := 275) (by decide +kernel) rfl
theorem g_276 : Cond.soleField "SongRefinery" "lastFailedCommand" ∈ GT := GT_at (i := 276) (by decide +kernel) rfl
theorem g_277 : Cond.superclass "SongRefinery" "java/lang/Object" ∈ GT := GT_at (i := 277) (by decide +kernel) rfl
theorem g_278 : Cond.methodLink RL 342 yX9_strongestSong ∈ GT := GT_at (i := 278) (by decide +kernel) rfl
theorem g_279 : Cond.instanceMethod yX9_strongestSong ∈ GT := GT_at (i := 279) (by decide +kernel) rfl
theorem g_280 : Cond.selects RX9 yX9_strongestSong yX9_strongestSong ∈ GT := GT_at (i := 280) (by decide +kernel) rfl
theorem g_281 : Cond.code yX9_strongestSong cX9_strongestSong 7 (some .int) ∈ GT := GT_at (i := 281) (by decide +kernel) rfl
theorem g_282 : Cond.methodLink RX9 186 yX9_sumOfSquares ∈ GT := GT_at (i := 282) (by decide +kernel) rfl
theorem g_284 : Cond.instanceMethod yX9_sumOfSquares ∈ GT := GT_at (i := 284) (by decide +kernel) rfl
theorem g_285 : Cond.code yX9_sumOfSquares cX9_sumOfSquares 8 (some .long) ∈ GT := GT_at (i := 285) (by decide +kernel) rfl
theorem g_286 : Cond.methodLink RX9 177 yX9_sendSong ∈ GT := GT_at (i := 286) (by decide +kernel) rfl
theorem g_288 : Cond.instanceMethod yX9_sendSong ∈ GT := GT_at (i := 288) (by decide +kernel) rfl
theorem g_289 : Cond.code yX9_sendSong cX9_sendSong 3 (some .int) ∈ GT := GT_at (i := 289) (by decide +kernel) rfl
theorem g_290 : Cond.methodLink RX9 147 yX5_samplesOf ∈ GT := GT_at (i := 290) (by decide +kernel) rfl
theorem g_291 : Cond.instanceMethod yX5_samplesOf ∈ GT := GT_at (i := 291) (by decide +kernel) rfl
theorem g_292 : Cond.selects RX5 yX5_samplesOf yX5_samplesOf ∈ GT := GT_at (i := 292) (by decide +kernel) rfl
theorem g_293 : Cond.code yX5_samplesOf cX5_samplesOf 2 (some .int) ∈ GT := GT_at (i := 293) (by decide +kernel) rfl
theorem n_294 : Cond.methodLinkNest RX5 28 yX9_read "SongRefinery" ∈ NLW := NLW_at (i := 294) (by decide +kernel) rfl
theorem g_295 : Cond.static yX9_read ∈ GT := GT_at (i := 295) (by decide +kernel) rfl
theorem g_296 : Cond.code yX9_read cX9_read 2 (some .int) ∈ GT := GT_at (i := 296) (by decide +kernel) rfl
theorem g_297 : Cond.methodLink RX9 363 yX4_send ∈ GT := GT_at (i := 297) (by decide +kernel) rfl
theorem g_298 : Cond.instanceMethod yX4_send ∈ GT := GT_at (i := 298) (by decide +kernel) rfl
theorem g_299 : Cond.selects RX4 yX4_send yX4_send ∈ GT := GT_at (i := 299) (by decide +kernel) rfl
theorem g_300 : Cond.code yX4_send cX4_send 7 (none) ∈ GT := GT_at (i := 300) (by decide +kernel) rfl
theorem g_301 : Cond.methodLink RX4 25 yJ7_fill_53178 ∈ GT := GT_at (i := 301) (by decide +kernel) rfl
theorem g_302 : Cond.static yJ7_fill_53178 ∈ GT := GT_at (i := 302) (by decide +kernel) rfl
theorem g_303 : Cond.code yJ7_fill_53178 cJ7_fill_53178 4 (none) ∈ GT := GT_at (i := 303) (by decide +kernel) rfl
theorem g_304 : Cond.methodLink RX4 37 yX5_rawAt ∈ GT := GT_at (i := 304) (by decide +kernel) rfl
theorem g_305 : Cond.instanceMethod yX5_rawAt ∈ GT := GT_at (i := 305) (by decide +kernel) rfl
theorem g_306 : Cond.selects RX5 yX5_rawAt yX5_rawAt ∈ GT := GT_at (i := 306) (by decide +kernel) rfl
theorem g_307 : Cond.code yX5_rawAt cX5_rawAt 3 (some .int) ∈ GT := GT_at (i := 307) (by decide +kernel) rfl
theorem g_308 : Cond.methodLink RX4 53 yX4_pass ∈ GT := GT_at (i := 308) (by decide +kernel) rfl
theorem g_310 : Cond.instanceMethod yX4_pass ∈ GT := GT_at (i := 310) (by decide +kernel) rfl
theorem g_311 : Cond.code yX4_pass cX4_pass 10 (some .int) ∈ GT := GT_at (i := 311) (by decide +kernel) rfl
theorem g_312 : Cond.methodLink RX4 61 yX0_kindAt ∈ GT := GT_at (i := 312) (by decide +kernel) rfl
theorem g_313 : Cond.instanceMethod yX0_kindAt ∈ GT := GT_at (i := 313) (by decide +kernel) rfl
theorem g_314 : Cond.selects RX0 yX0_kindAt yX0_kindAt ∈ GT := GT_at (i := 314) (by decide +kernel) rfl
theorem g_315 : Cond.code yX0_kindAt cX0_kindAt 2 (some .int) ∈ GT := GT_at (i := 315) (by decide +kernel) rfl
theorem n_316 : Cond.methodLinkNest RX0 26 yX9_read "SongRefinery" ∈ NLW := NLW_at (i := 316) (by decide +kernel) rfl
theorem g_317 : Cond.methodLink RX4 65 yX0_parameterAt ∈ GT := GT_at (i := 317) (by decide +kernel) rfl
theorem g_318 : Cond.instanceMethod yX0_parameterAt ∈ GT := GT_at (i := 318) (by decide +kernel) rfl
theorem g_319 : Cond.selects RX0 yX0_parameterAt yX0_parameterAt ∈ GT := GT_at (i := 319) (by decide +kernel) rfl
theorem g_320 : Cond.code yX0_parameterAt cX0_parameterAt 2 (some .int) ∈ GT := GT_at (i := 320) (by decide +kernel) rfl
theorem g_321 : Cond.methodLink RX4 68 yX4_recall ∈ GT := GT_at (i := 321) (by decide +kernel) rfl
theorem g_323 : Cond.instanceMethod yX4_recall ∈ GT := GT_at (i := 323) (by decide +kernel) rfl
theorem g_324 : Cond.code yX4_recall cX4_recall 3 (some .int) ∈ GT := GT_at (i := 324) (by decide +kernel) rfl
theorem n_325 : Cond.methodLinkNest RX4 21 yX9_read "SongRefinery" ∈ NLW := NLW_at (i := 325) (by decide +kernel) rfl
theorem g_326 : Cond.methodLink RX4 71 yX4_changed ∈ GT := GT_at (i := 326) (by decide +kernel) rfl
theorem g_327 : Cond.static yX4_changed ∈ GT := GT_at (i := 327) (by decide +kernel) rfl
theorem g_328 : Cond.code yX4_changed cX4_changed 3 (some .int) ∈ GT := GT_at (i := 328) (by decide +kernel) rfl
theorem g_329 : Cond.methodLink RX4 75 yJ9_min_7cf53 ∈ GT := GT_at (i := 329) (by decide +kernel) rfl
theorem g_330 : Cond.static yJ9_min_7cf53 ∈ GT := GT_at (i := 330) (by decide +kernel) rfl
theorem g_331 : Cond.code yJ9_min_7cf53 cJ9_min_7cf53 2 (some .int) ∈ GT := GT_at (i := 331) (by decide +kernel) rfl
theorem g_332 : Cond.methodLink RX4 80 yJ9_max_7cf53 ∈ GT := GT_at (i := 332) (by decide +kernel) rfl
theorem g_333 : Cond.static yJ9_max_7cf53 ∈ GT := GT_at (i := 333) (by decide +kernel) rfl
theorem g_334 : Cond.code yJ9_max_7cf53 cJ9_max_7cf53 2 (some .int) ∈ GT := GT_at (i := 334) (by decide +kernel) rfl
theorem n_335 : Cond.methodLinkNest RX4 57 yX9_write "SongRefinery" ∈ NLW := NLW_at (i := 335) (by decide +kernel) rfl
theorem g_336 : Cond.static yX9_write ∈ GT := GT_at (i := 336) (by decide +kernel) rfl
theorem g_337 : Cond.code yX9_write cX9_write 3 (none) ∈ GT := GT_at (i := 337) (by decide +kernel) rfl
theorem g_338 : Cond.methodLink RX9 180 yX4_given ∈ GT := GT_at (i := 338) (by decide +kernel) rfl
theorem g_339 : Cond.instanceMethod yX4_given ∈ GT := GT_at (i := 339) (by decide +kernel) rfl
theorem g_340 : Cond.selects RX4 yX4_given yX4_given ∈ GT := GT_at (i := 340) (by decide +kernel) rfl
theorem g_341 : Cond.code yX4_given cX4_given 2 (some .int) ∈ GT := GT_at (i := 341) (by decide +kernel) rfl
theorem g_342 : Cond.methodLink RL 242 yX9_describeChain ∈ GT := GT_at (i := 342) (by decide +kernel) rfl
theorem g_343 : Cond.instanceMethod yX9_describeChain ∈ GT := GT_at (i := 343) (by decide +kernel) rfl
theorem g_344 : Cond.selects RX9 yX9_describeChain yX9_describeChain ∈ GT := GT_at (i := 344) (by decide +kernel) rfl
theorem g_345 : Cond.code yX9_describeChain cX9_describeChain 3 (some .int) ∈ GT := GT_at (i := 345) (by decide +kernel) rfl
theorem g_346 : Cond.methodLink RX9 304 yX3_clear ∈ GT := GT_at (i := 346) (by decide +kernel) rfl
theorem g_347 : Cond.instanceMethod yX3_clear ∈ GT := GT_at (i := 347) (by decide +kernel) rfl
theorem g_348 : Cond.selects RX3 yX3_clear yX3_clear ∈ GT := GT_at (i := 348) (by decide +kernel) rfl
theorem g_349 : Cond.code yX3_clear cX3_clear 1 (none) ∈ GT := GT_at (i := 349) (by decide +kernel) rfl
theorem g_350 : Cond.methodLink RX9 305 yX3_putSign ∈ GT := GT_at (i := 350) (by decide +kernel) rfl
theorem g_351 : Cond.instanceMethod yX3_putSign ∈ GT := GT_at (i := 351) (by decide +kernel) rfl
theorem g_352 : Cond.selects RX3 yX3_putSign yX3_putSign ∈ GT := GT_at (i := 352) (by decide +kernel) rfl
theorem g_353 : Cond.code yX3_putSign cX3_putSign 2 (none) ∈ GT := GT_at (i := 353) (by decide +kernel) rfl
theorem n_354 : Cond.methodLinkNest RX3 23 yX9_write "SongRefinery" ∈ NLW := NLW_at (i := 354) (by decide +kernel) rfl
theorem g_355 : Cond.methodLink RX9 116 yX0_kindAt ∈ GT := GT_at (i := 355) (by decide +kernel) rfl
theorem g_356 : Cond.methodLink RX9 119 yX0_parameterAt ∈ GT := GT_at (i := 356) (by decide +kernel) rfl
theorem g_357 : Cond.methodLink RX9 308 yX3_putNumber ∈ GT := GT_at (i := 357) (by decide +kernel) rfl
theorem g_358 : Cond.instanceMethod yX3_putNumber ∈ GT := GT_at (i := 358) (by decide +kernel) rfl
theorem g_359 : Cond.selects RX3 yX3_putNumber yX3_putNumber ∈ GT := GT_at (i := 359) (by decide +kernel) rfl
theorem g_360 : Cond.code yX3_putNumber cX3_putNumber 3 (none) ∈ GT := GT_at (i := 360) (by decide +kernel) rfl
theorem g_361 : Cond.constant RX3 27 (100000 : Int32) ∈ GT := GT_at (i := 361) (by decide +kernel) rfl
theorem g_362 : Cond.methodLink RX3 28 yX3_putSign ∈ GT := GT_at (i := 362) (by decide +kernel) rfl
theorem g_363 : Cond.methodLink RL 367 yX9_isConsistent ∈ GT := GT_at (i := 363) (by decide +kernel) rfl
theorem g_364 : Cond.instanceMethod yX9_isConsistent ∈ GT := GT_at (i := 364) (by decide +kernel) rfl
theorem g_365 : Cond.selects RX9 yX9_isConsistent yX9_isConsistent ∈ GT := GT_at (i := 365) (by decide +kernel) rfl
theorem g_366 : Cond.code yX9_isConsistent cX9_isConsistent 2 (some .boolean) ∈ GT := GT_at (i := 366) (by decide +kernel) rfl
theorem g_367 : Cond.methodLink RX9 336 yX9_bothWaysAgree ∈ GT := GT_at (i := 367) (by decide +kernel) rfl
theorem g_369 : Cond.instanceMethod yX9_bothWaysAgree ∈ GT := GT_at (i := 369) (by decide +kernel) rfl
theorem g_370 : Cond.code yX9_bothWaysAgree cX9_bothWaysAgree 4 (some .boolean) ∈ GT := GT_at (i := 370) (by decide +kernel) rfl
theorem g_371 : Cond.methodLink RX9 159 yX4_sendByFilter ∈ GT := GT_at (i := 371) (by decide +kernel) rfl
theorem g_372 : Cond.instanceMethod yX4_sendByFilter ∈ GT := GT_at (i := 372) (by decide +kernel) rfl
theorem g_373 : Cond.selects RX4 yX4_sendByFilter yX4_sendByFilter ∈ GT := GT_at (i := 373) (by decide +kernel) rfl
theorem g_374 : Cond.code yX4_sendByFilter cX4_sendByFilter 5 (none) ∈ GT := GT_at (i := 374) (by decide +kernel) rfl
theorem g_375 : Cond.methodLink RX4 83 yX5_samplesOf ∈ GT := GT_at (i := 375) (by decide +kernel) rfl
theorem g_376 : Cond.methodLink RX4 86 yX4_passAll ∈ GT := GT_at (i := 376) (by decide +kernel) rfl
theorem g_378 : Cond.instanceMethod yX4_passAll ∈ GT := GT_at (i := 378) (by decide +kernel) rfl
theorem g_379 : Cond.code yX4_passAll cX4_passAll 5 (none) ∈ GT := GT_at (i := 379) (by decide +kernel) rfl
theorem g_380 : Cond.methodLink RX4 90 yX4_givenAt ∈ GT := GT_at (i := 380) (by decide +kernel) rfl
theorem g_382 : Cond.instanceMethod yX4_givenAt ∈ GT := GT_at (i := 382) (by decide +kernel) rfl
theorem g_383 : Cond.code yX4_givenAt cX4_givenAt 6 (some .int) ∈ GT := GT_at (i := 383) (by decide +kernel) rfl
theorem g_384 : Cond.methodLink RX9 163 yX4_givenByFilter ∈ GT := GT_at (i := 384) (by decide +kernel) rfl
theorem g_385 : Cond.instanceMethod yX4_givenByFilter ∈ GT := GT_at (i := 385) (by decide +kernel) rfl
theorem g_386 : Cond.selects RX4 yX4_givenByFilter yX4_givenByFilter ∈ GT := GT_at (i := 386) (by decide +kernel) rfl
theorem g_387 : Cond.code yX4_givenByFilter cX4_givenByFilter 2 (some .int) ∈ GT := GT_at (i := 387) (by decide +kernel) rfl
theorem g_388 : Cond.methodLink RX9 240 yX9_dropsOnCopy ∈ GT := GT_at (i := 388) (by decide +kernel) rfl
theorem g_390 : Cond.instanceMethod yX9_dropsOnCopy ∈ GT := GT_at (i := 390) (by decide +kernel) rfl
theorem g_391 : Cond.code yX9_dropsOnCopy cX9_dropsOnCopy 2 (some .int) ∈ GT := GT_at (i := 391) (by decide +kernel) rfl
theorem g_392 : Cond.methodLink RX9 373 yX7_copyFrom ∈ GT := GT_at (i := 392) (by decide +kernel) rfl
theorem g_393 : Cond.instanceMethod yX7_copyFrom ∈ GT := GT_at (i := 393) (by decide +kernel) rfl
theorem g_394 : Cond.selects RX7 yX7_copyFrom yX7_copyFrom ∈ GT := GT_at (i := 394) (by decide +kernel) rfl
theorem g_395 : Cond.code yX7_copyFrom cX7_copyFrom 2 (none) ∈ GT := GT_at (i := 395) (by decide +kernel) rfl
theorem n_396 : Cond.methodLinkNest RX7 37 yX9_copyRow "SongRefinery" ∈ NLW := NLW_at (i := 396) (by decide +kernel) rfl
theorem g_397 : Cond.static yX9_copyRow ∈ GT := GT_at (i := 397) (by decide +kernel) rfl
theorem g_398 : Cond.code yX9_copyRow cX9_copyRow 2 (none) ∈ GT := GT_at (i := 398) (by decide +kernel) rfl
theorem g_399 : Cond.methodLink RX9 357 arraycopyName ∈ GT := GT_at (i := 399) (by decide +kernel) rfl
theorem g_400 : Cond.static arraycopyName ∈ GT := GT_at (i := 400) (by decide +kernel) rfl
theorem g_401 : Cond.native arraycopyName ∈ GT := GT_at (i := 401) (by decide +kernel) rfl
theorem g_402 : Cond.methodLink RX9 237 yX5_framesOf ∈ GT := GT_at (i := 402) (by decide +kernel) rfl
theorem g_403 : Cond.instanceMethod yX5_framesOf ∈ GT := GT_at (i := 403) (by decide +kernel) rfl
theorem g_404 : Cond.selects RX5 yX5_framesOf yX5_framesOf ∈ GT := GT_at (i := 404) (by decide +kernel) rfl
theorem g_405 : Cond.code yX5_framesOf cX5_framesOf 2 (some .int) ∈ GT := GT_at (i := 405) (by decide +kernel) rfl
theorem g_406 : Cond.methodLink RX5 32 yX5_samplesOf ∈ GT := GT_at (i := 406) (by decide +kernel) rfl
theorem g_407 : Cond.methodLink RX9 208 yX9_pourSong ∈ GT := GT_at (i := 407) (by decide +kernel) rfl
theorem g_409 : Cond.instanceMethod yX9_pourSong ∈ GT := GT_at (i := 409) (by decide +kernel) rfl
theorem g_410 : Cond.code yX9_pourSong cX9_pourSong 8 (some .int) ∈ GT := GT_at (i := 410) (by decide +kernel) rfl
theorem g_411 : Cond.methodLink RX9 367 yX4_loudnessOf ∈ GT := GT_at (i := 411) (by decide +kernel) rfl
theorem g_412 : Cond.instanceMethod yX4_loudnessOf ∈ GT := GT_at (i := 412) (by decide +kernel) rfl
theorem g_413 : Cond.selects RX4 yX4_loudnessOf yX4_loudnessOf ∈ GT := GT_at (i := 413) (by decide +kernel) rfl
theorem g_414 : Cond.code yX4_loudnessOf cX4_loudnessOf 7 (some .int) ∈ GT := GT_at (i := 414) (by decide +kernel) rfl
theorem g_415 : Cond.methodLink RX4 93 yJ9_abs_0f7a4 ∈ GT := GT_at (i := 415) (by decide +kernel) rfl
theorem g_416 : Cond.static yJ9_abs_0f7a4 ∈ GT := GT_at (i := 416) (by decide +kernel) rfl
theorem g_417 : Cond.code yJ9_abs_0f7a4 cJ9_abs_0f7a4 1 (some .int) ∈ GT := GT_at (i := 417) (by decide +kernel) rfl
theorem g_418 : Cond.methodLink RX9 370 yX7_store ∈ GT := GT_at (i := 418) (by decide +kernel) rfl
theorem g_419 : Cond.instanceMethod yX7_store ∈ GT := GT_at (i := 419) (by decide +kernel) rfl
theorem g_420 : Cond.selects RX7 yX7_store yX7_store ∈ GT := GT_at (i := 420) (by decide +kernel) rfl
theorem g_421 : Cond.code yX7_store cX7_store 4 (some .boolean) ∈ GT := GT_at (i := 421) (by decide +kernel) rfl
theorem g_422 : Cond.methodLink RX7 63 yX7_accepts ∈ GT := GT_at (i := 422) (by decide +kernel) rfl
theorem g_424 : Cond.instanceMethod yX7_accepts ∈ GT := GT_at (i := 424) (by decide +kernel) rfl
theorem g_425 : Cond.code yX7_accepts cX7_accepts 3 (some .boolean) ∈ GT := GT_at (i := 425) (by decide +kernel) rfl
theorem g_426 : Cond.methodLink RX7 57 yX7_levelOf ∈ GT := GT_at (i := 426) (by decide +kernel) rfl
theorem g_427 : Cond.instanceMethod yX7_levelOf ∈ GT := GT_at (i := 427) (by decide +kernel) rfl
theorem g_428 : Cond.selects RX7 yX7_levelOf yX7_levelOf ∈ GT := GT_at (i := 428) (by decide +kernel) rfl
theorem g_429 : Cond.code yX7_levelOf cX7_levelOf 2 (some .int) ∈ GT := GT_at (i := 429) (by decide +kernel) rfl
theorem n_430 : Cond.methodLinkNest RX7 41 yX9_read "SongRefinery" ∈ NLW := NLW_at (i := 430) (by decide +kernel) rfl
theorem g_431 : Cond.methodLink RX7 74 yX7_capacityOf ∈ GT := GT_at (i := 431) (by decide +kernel) rfl
theorem g_432 : Cond.instanceMethod yX7_capacityOf ∈ GT := GT_at (i := 432) (by decide +kernel) rfl
theorem g_433 : Cond.selects RX7 yX7_capacityOf yX7_capacityOf ∈ GT := GT_at (i := 433) (by decide +kernel) rfl
theorem g_434 : Cond.code yX7_capacityOf cX7_capacityOf 2 (some .int) ∈ GT := GT_at (i := 434) (by decide +kernel) rfl
theorem g_435 : Cond.methodLink RX7 60 yX7_tuningOf ∈ GT := GT_at (i := 435) (by decide +kernel) rfl
theorem g_436 : Cond.instanceMethod yX7_tuningOf ∈ GT := GT_at (i := 436) (by decide +kernel) rfl
theorem g_437 : Cond.selects RX7 yX7_tuningOf yX7_tuningOf ∈ GT := GT_at (i := 437) (by decide +kernel) rfl
theorem g_438 : Cond.code yX7_tuningOf cX7_tuningOf 2 (some .int) ∈ GT := GT_at (i := 438) (by decide +kernel) rfl
theorem g_439 : Cond.methodLink RX7 67 yX7_roomOf ∈ GT := GT_at (i := 439) (by decide +kernel) rfl
theorem g_441 : Cond.instanceMethod yX7_roomOf ∈ GT := GT_at (i := 441) (by decide +kernel) rfl
theorem g_442 : Cond.code yX7_roomOf cX7_roomOf 2 (some .int) ∈ GT := GT_at (i := 442) (by decide +kernel) rfl
theorem g_443 : Cond.methodLink RX7 70 yX7_setFrame ∈ GT := GT_at (i := 443) (by decide +kernel) rfl
theorem g_445 : Cond.instanceMethod yX7_setFrame ∈ GT := GT_at (i := 445) (by decide +kernel) rfl
theorem g_446 : Cond.code yX7_setFrame cX7_setFrame 4 (none) ∈ GT := GT_at (i := 446) (by decide +kernel) rfl
theorem n_447 : Cond.methodLinkNest RX7 45 yX9_write "SongRefinery" ∈ NLW := NLW_at (i := 447) (by decide +kernel) rfl
theorem g_448 : Cond.methodLink RX9 243 yX9_dropsFromLevels ∈ GT := GT_at (i := 448) (by decide +kernel) rfl
theorem g_450 : Cond.instanceMethod yX9_dropsFromLevels ∈ GT := GT_at (i := 450) (by decide +kernel) rfl
theorem g_451 : Cond.code yX9_dropsFromLevels cX9_dropsFromLevels 7 (some .int) ∈ GT := GT_at (i := 451) (by decide +kernel) rfl
theorem g_452 : Cond.methodLink RX9 222 yX7_capacityOf ∈ GT := GT_at (i := 452) (by decide +kernel) rfl
theorem g_453 : Cond.methodLink RX9 228 yX7_levelOf ∈ GT := GT_at (i := 453) (by decide +kernel) rfl
theorem g_454 : Cond.methodLink RX9 376 yX9_write ∈ GT := GT_at (i := 454) (by decide +kernel) rfl
theorem g_455 : Cond.methodLink RX9 380 yX9_roomiestFor ∈ GT := GT_at (i := 455) (by decide +kernel) rfl
theorem g_457 : Cond.instanceMethod yX9_roomiestFor ∈ GT := GT_at (i := 457) (by decide +kernel) rfl
theorem g_458 : Cond.code yX9_roomiestFor cX9_roomiestFor 5 (some .int) ∈ GT := GT_at (i := 458) (by decide +kernel) rfl
theorem g_459 : Cond.methodLink RX9 225 yX7_tuningOf ∈ GT := GT_at (i := 459) (by decide +kernel) rfl
theorem g_460 : Cond.methodLink RX9 383 yX9_read ∈ GT := GT_at (i := 460) (by decide +kernel) rfl
theorem g_461 : Cond.methodLink RX9 333 yX7_sumOfLevels ∈ GT := GT_at (i := 461) (by decide +kernel) rfl
theorem g_462 : Cond.instanceMethod yX7_sumOfLevels ∈ GT := GT_at (i := 462) (by decide +kernel) rfl
theorem g_463 : Cond.selects RX7 yX7_sumOfLevels yX7_sumOfLevels ∈ GT := GT_at (i := 463) (by decide +kernel) rfl
theorem g_464 : Cond.code yX7_sumOfLevels cX7_sumOfLevels 3 (some .int) ∈ GT := GT_at (i := 464) (by decide +kernel) rfl
theorem g_465 : Cond.classLink RL 182 RX10 ∈ GT := GT_at (i := 465) (by decide +kernel) rfl
theorem g_466 : Cond.instantiable RX10 1 ∈ GT := GT_at (i := 466) (by decide +kernel) rfl
theorem g_467 : Cond.methodLink RL 378 yX10_init ∈ GT := GT_at (i := 467) (by decide +kernel) rfl
theorem g_468 : Cond.instanceMethod yX10_init ∈ GT := GT_at (i := 468) (by decide +kernel) rfl
theorem g_469 : Cond.code yX10_init cX10_init 2 (none) ∈ GT := GT_at (i := 469) (by decide +kernel) rfl
theorem g_470 : Cond.methodLink RX10 1 objectInit ∈ GT := GT_at (i := 470) (by decide +kernel) rfl
theorem g_471 : Cond.fieldLink RX10 7 "SongRefineryLaw$Bits" "bits" "I" ∈ GT := GT_at (i := 471) (by decide +kernel) rfl
theorem g_472 : Cond.lays "SongRefineryLaw$Bits" "SongRefineryLaw$Bits" "bits" "I" ∈ GT := GT_at (i := 472) (by decide +kernel) rfl
theorem g_473 : Cond.soleField "SongRefineryLaw$Bits" "bits" ∈ GT := GT_at (i := 473) (by decide +kernel) rfl
theorem g_474 : Cond.superclass "SongRefineryLaw$Bits" "java/lang/Object" ∈ GT := GT_at (i := 474) (by decide +kernel) rfl
theorem g_475 : Cond.methodLink RL 181 yX10_next ∈ GT := GT_at (i := 475) (by decide +kernel) rfl
theorem g_476 : Cond.instanceMethod yX10_next ∈ GT := GT_at (i := 476) (by decide +kernel) rfl
theorem g_477 : Cond.selects RX10 yX10_next yX10_next ∈ GT := GT_at (i := 477) (by decide +kernel) rfl
theorem g_478 : Cond.code yX10_next cX10_next 2 (some .int) ∈ GT := GT_at (i := 478) (by decide +kernel) rfl
theorem g_479 : Cond.constant RX10 13 (1103515245 : Int32) ∈ GT := GT_at (i := 479) (by decide +kernel) rfl
theorem g_480 : Cond.methodLink RL 374 yL_cell ∈ GT := GT_at (i := 480) (by decide +kernel) rfl
theorem g_481 : Cond.static yL_cell ∈ GT := GT_at (i := 481) (by decide +kernel) rfl
theorem g_482 : Cond.code yL_cell cL_cell 2 (some .int) ∈ GT := GT_at (i := 482) (by decide +kernel) rfl
theorem g_483 : Cond.methodLink RL 218 yL_addFilter ∈ GT := GT_at (i := 483) (by decide +kernel) rfl
theorem g_484 : Cond.static yL_addFilter ∈ GT := GT_at (i := 484) (by decide +kernel) rfl
theorem g_485 : Cond.codeWith yL_addFilter cL_addFilter 4 (some .int) [(0, 6, 7, 13), (0, 6, 10, 15)] ∈ GT := GT_at (i := 485) (by decide +kernel) rfl
theorem g_486 : Cond.classLink RL 13 "java/lang/IllegalArgumentException" ∈ GT := GT_at (i := 486) (by decide +kernel) rfl
theorem g_487 : Cond.classLink RL 15 "java/lang/IllegalStateException" ∈ GT := GT_at (i := 487) (by decide +kernel) rfl
theorem g_488 : Cond.methodLink RL 7 yX9_addFilter ∈ GT := GT_at (i := 488) (by decide +kernel) rfl
theorem g_489 : Cond.instanceMethod yX9_addFilter ∈ GT := GT_at (i := 489) (by decide +kernel) rfl
theorem g_490 : Cond.selects RX9 yX9_addFilter yX9_addFilter ∈ GT := GT_at (i := 490) (by decide +kernel) rfl
theorem g_491 : Cond.code yX9_addFilter cX9_addFilter 3 (some .int) ∈ GT := GT_at (i := 491) (by decide +kernel) rfl
theorem g_492 : Cond.methodLink RX9 76 yX0_faultOfNewFilter ∈ GT := GT_at (i := 492) (by decide +kernel) rfl
theorem g_493 : Cond.instanceMethod yX0_faultOfNewFilter ∈ GT := GT_at (i := 493) (by decide +kernel) rfl
theorem g_494 : Cond.selects RX0 yX0_faultOfNewFilter yX0_faultOfNewFilter ∈ GT := GT_at (i := 494) (by decide +kernel) rfl
theorem g_495 : Cond.code yX0_faultOfNewFilter cX0_faultOfNewFilter 3 (some .int) ∈ GT := GT_at (i := 495) (by decide +kernel) rfl
theorem g_496 : Cond.methodLink RX0 34 yX0_isKindWith ∈ GT := GT_at (i := 496) (by decide +kernel) rfl
theorem g_497 : Cond.static yX0_isKindWith ∈ GT := GT_at (i := 497) (by decide +kernel) rfl
theorem g_498 : Cond.code yX0_isKindWith cX0_isKindWith 2 (some .boolean) ∈ GT := GT_at (i := 498) (by decide +kernel) rfl
theorem n_499 : Cond.methodLinkNest RX0 30 yX9_isWithin "SongRefinery" ∈ NLW := NLW_at (i := 499) (by decide +kernel) rfl
theorem g_500 : Cond.static yX9_isWithin ∈ GT := GT_at (i := 500) (by decide +kernel) rfl
theorem g_501 : Cond.code yX9_isWithin cX9_isWithin 3 (some .boolean) ∈ GT := GT_at (i := 501) (by decide +kernel) rfl
theorem g_502 : Cond.methodLink RX9 82 yX9_throwFault ∈ GT := GT_at (i := 502) (by decide +kernel) rfl
theorem g_503 : Cond.static yX9_throwFault ∈ GT := GT_at (i := 503) (by decide +kernel) rfl
theorem g_504 : Cond.code yX9_throwFault cX9_throwFault 1 (none) ∈ GT := GT_at (i := 504) (by decide +kernel) rfl
theorem g_505 : Cond.classLink RX9 314 "java/lang/IndexOutOfBoundsException" ∈ GT := GT_at (i := 505) (by decide +kernel) rfl
theorem g_506 : Cond.instantiable "java/lang/IndexOutOfBoundsException" 6 ∈ GT := GT_at (i := 506) (by decide +kernel) rfl
theorem n_507 : Cond.castable "java/lang/IndexOutOfBoundsException" "java/lang/IndexOutOfBoundsException" ∈ NLW := NLW_at (i := 507) (by decide +kernel) rfl
theorem n_508 : Cond.declares (⟨"java/lang/RuntimeException", "<init>", "()V"⟩ : MethodName) ∈ NLW := NLW_at (i := 508) (by decide +kernel) rfl
theorem n_509 : Cond.declares (⟨"java/lang/RuntimeException", "<init>", "(Ljava/lang/String;)V"⟩ : MethodName) ∈ NLW := NLW_at (i := 509) (by decide +kernel) rfl
theorem n_510 : Cond.declares (⟨"java/lang/Exception", "<init>", "()V"⟩ : MethodName) ∈ NLW := NLW_at (i := 510) (by decide +kernel) rfl
theorem n_511 : Cond.declares (⟨"java/lang/Exception", "<init>", "(Ljava/lang/String;)V"⟩ : MethodName) ∈ NLW := NLW_at (i := 511) (by decide +kernel) rfl
theorem n_512 : Cond.declares (⟨"java/lang/Throwable", "<init>", "()V"⟩ : MethodName) ∈ NLW := NLW_at (i := 512) (by decide +kernel) rfl
theorem n_513 : Cond.declares (⟨"java/lang/Throwable", "<init>", "(Ljava/lang/String;)V"⟩ : MethodName) ∈ NLW := NLW_at (i := 513) (by decide +kernel) rfl
theorem g_514 : Cond.selects "java/lang/IndexOutOfBoundsException" (⟨"java/lang/Throwable", "fillInStackTrace", "(I)Ljava/lang/Throwable;"⟩ : MethodName) (⟨"java/lang/Throwable", "fillInStackTrace", "(I)Ljava/lang/Throwable;"⟩ : MethodName) ∈ GT := GT_at (i := 514) (by decide +kernel) rfl
theorem g_515 : Cond.selects "java/lang/IndexOutOfBoundsException" (⟨"java/lang/Throwable", "fillInStackTrace", "()Ljava/lang/Throwable;"⟩ : MethodName) (⟨"java/lang/Throwable", "fillInStackTrace", "()Ljava/lang/Throwable;"⟩ : MethodName) ∈ GT := GT_at (i := 515) (by decide +kernel) rfl
theorem g_516 : Cond.lays "java/lang/IndexOutOfBoundsException" "java/lang/Throwable" "cause" "Ljava/lang/Throwable;" ∈ GT := GT_at (i := 516) (by decide +kernel) rfl
theorem g_517 : Cond.lays "java/lang/Throwable" "java/lang/Throwable" "cause" "Ljava/lang/Throwable;" ∈ GT := GT_at (i := 517) (by decide +kernel) rfl
theorem g_518 : Cond.lays "java/lang/IndexOutOfBoundsException" "java/lang/Throwable" "stackTrace" "[Ljava/lang/StackTraceElement;" ∈ GT := GT_at (i := 518) (by decide +kernel) rfl
theorem g_519 : Cond.lays "java/lang/Throwable" "java/lang/Throwable" "stackTrace" "[Ljava/lang/StackTraceElement;" ∈ GT := GT_at (i := 519) (by decide +kernel) rfl
theorem g_520 : Cond.lays "java/lang/IndexOutOfBoundsException" "java/lang/Throwable" "suppressedExceptions" "Ljava/util/List;" ∈ GT := GT_at (i := 520) (by decide +kernel) rfl
theorem g_521 : Cond.lays "java/lang/Throwable" "java/lang/Throwable" "suppressedExceptions" "Ljava/util/List;" ∈ GT := GT_at (i := 521) (by decide +kernel) rfl
theorem g_522 : Cond.lays "java/lang/IndexOutOfBoundsException" "java/lang/Throwable" "detailMessage" "Ljava/lang/String;" ∈ GT := GT_at (i := 522) (by decide +kernel) rfl
theorem g_523 : Cond.lays "java/lang/Throwable" "java/lang/Throwable" "detailMessage" "Ljava/lang/String;" ∈ GT := GT_at (i := 523) (by decide +kernel) rfl
theorem g_524 : Cond.lays "java/lang/IndexOutOfBoundsException" "java/lang/Throwable" "backtrace" "Ljava/lang/Object;" ∈ GT := GT_at (i := 524) (by decide +kernel) rfl
theorem g_525 : Cond.lays "java/lang/Throwable" "java/lang/Throwable" "backtrace" "Ljava/lang/Object;" ∈ GT := GT_at (i := 525) (by decide +kernel) rfl
theorem g_526 : Cond.fieldLink "java/lang/Throwable" 198 "java/lang/Throwable" "backtrace" "Ljava/lang/Object;" ∈ GT := GT_at (i := 526) (by decide +kernel) rfl
theorem g_527 : Cond.superclass "java/lang/Throwable" "java/lang/Object" ∈ GT := GT_at (i := 527) (by decide +kernel) rfl
theorem g_528 : Cond.instanceMethod (⟨"java/lang/Throwable", "<init>", "()V"⟩ : MethodName) ∈ GT := GT_at (i := 528) (by decide +kernel) rfl
theorem g_529 : Cond.code (⟨"java/lang/Throwable", "<init>", "()V"⟩ : MethodName) prog_37_method_1_code 1 (none) ∈ GT := GT_at (i := 529) (by decide +kernel) rfl
theorem g_530 : Cond.methodLink "java/lang/Throwable" 1 objectInit ∈ GT := GT_at (i := 530) (by decide +kernel) rfl
theorem g_531 : Cond.fieldLink "java/lang/Throwable" 13 "java/lang/Throwable" "UNASSIGNED_STACK" "[Ljava/lang/StackTraceElement;" ∈ GT := GT_at (i := 531) (by decide +kernel) rfl
theorem g_533 : Cond.fieldLink "java/lang/Throwable" 20 "java/lang/Throwable" "SUPPRESSED_SENTINEL" "Ljava/util/List;" ∈ GT := GT_at (i := 533) (by decide +kernel) rfl
theorem g_535 : Cond.methodLink "java/lang/Throwable" 27 (⟨"java/lang/Throwable", "fillInStackTrace", "()Ljava/lang/Throwable;"⟩ : MethodName) ∈ GT := GT_at (i := 535) (by decide +kernel) rfl
theorem g_536 : Cond.instanceMethod (⟨"java/lang/Throwable", "fillInStackTrace", "()Ljava/lang/Throwable;"⟩ : MethodName) ∈ GT := GT_at (i := 536) (by decide +kernel) rfl
theorem g_537 : Cond.sameMethod "java/lang/Throwable" "java/lang/Throwable" "fillInStackTrace" "()Ljava/lang/Throwable;" ∈ GT := GT_at (i := 537) (by decide +kernel) rfl
theorem g_538 : Cond.selects "java/lang/ArithmeticException" (⟨"java/lang/Throwable", "fillInStackTrace", "()Ljava/lang/Throwable;"⟩ : MethodName) (⟨"java/lang/Throwable", "fillInStackTrace", "()Ljava/lang/Throwable;"⟩ : MethodName) ∈ GT := GT_at (i := 538) (by decide +kernel) rfl
theorem g_539 : Cond.selects RJx00060 (⟨"java/lang/Throwable", "fillInStackTrace", "()Ljava/lang/Throwable;"⟩ : MethodName) (⟨"java/lang/Throwable", "fillInStackTrace", "()Ljava/lang/Throwable;"⟩ : MethodName) ∈ GT := GT_at (i := 539) (by decide +kernel) rfl
theorem g_540 : Cond.selects "java/lang/IllegalArgumentException" (⟨"java/lang/Throwable", "fillInStackTrace", "()Ljava/lang/Throwable;"⟩ : MethodName) (⟨"java/lang/Throwable", "fillInStackTrace", "()Ljava/lang/Throwable;"⟩ : MethodName) ∈ GT := GT_at (i := 540) (by decide +kernel) rfl
theorem g_541 : Cond.selects "java/lang/IllegalStateException" (⟨"java/lang/Throwable", "fillInStackTrace", "()Ljava/lang/Throwable;"⟩ : MethodName) (⟨"java/lang/Throwable", "fillInStackTrace", "()Ljava/lang/Throwable;"⟩ : MethodName) ∈ GT := GT_at (i := 541) (by decide +kernel) rfl
theorem g_542 : Cond.selects "java/util/NoSuchElementException" (⟨"java/lang/Throwable", "fillInStackTrace", "()Ljava/lang/Throwable;"⟩ : MethodName) (⟨"java/lang/Throwable", "fillInStackTrace", "()Ljava/lang/Throwable;"⟩ : MethodName) ∈ GT := GT_at (i := 542) (by decide +kernel) rfl
theorem g_543 : Cond.codeSync (⟨"java/lang/Throwable", "fillInStackTrace", "()Ljava/lang/Throwable;"⟩ : MethodName) prog_37_method_18_code 1 (some (.object "java/lang/Throwable")) ∈ GT := GT_at (i := 543) (by decide +kernel) rfl
theorem g_544 : Cond.methodLink "java/lang/Throwable" 202 (⟨"java/lang/Throwable", "fillInStackTrace", "(I)Ljava/lang/Throwable;"⟩ : MethodName) ∈ GT := GT_at (i := 544) (by decide +kernel) rfl
theorem g_546 : Cond.instanceMethod (⟨"java/lang/Throwable", "fillInStackTrace", "(I)Ljava/lang/Throwable;"⟩ : MethodName) ∈ GT := GT_at (i := 546) (by decide +kernel) rfl
theorem g_547 : Cond.instantiable "java/lang/Throwable" 6 ∈ GT := GT_at (i := 547) (by decide +kernel) rfl
theorem g_548 : Cond.native (⟨"java/lang/Throwable", "fillInStackTrace", "(I)Ljava/lang/Throwable;"⟩ : MethodName) ∈ GT := GT_at (i := 548) (by decide +kernel) rfl
theorem g_550 : Cond.methodLink RX9 318 (⟨"java/lang/IndexOutOfBoundsException", "<init>", "(Ljava/lang/String;)V"⟩ : MethodName) ∈ GT := GT_at (i := 550) (by decide +kernel) rfl
theorem g_551 : Cond.instanceMethod (⟨"java/lang/IndexOutOfBoundsException", "<init>", "(Ljava/lang/String;)V"⟩ : MethodName) ∈ GT := GT_at (i := 551) (by decide +kernel) rfl
theorem g_552 : Cond.code (⟨"java/lang/IndexOutOfBoundsException", "<init>", "(Ljava/lang/String;)V"⟩ : MethodName) prog_27_method_2_code 2 (none) ∈ GT := GT_at (i := 552) (by decide +kernel) rfl
theorem g_553 : Cond.methodLink "java/lang/IndexOutOfBoundsException" 7 (⟨"java/lang/RuntimeException", "<init>", "(Ljava/lang/String;)V"⟩ : MethodName) ∈ GT := GT_at (i := 553) (by decide +kernel) rfl
theorem g_554 : Cond.instanceMethod (⟨"java/lang/RuntimeException", "<init>", "(Ljava/lang/String;)V"⟩ : MethodName) ∈ GT := GT_at (i := 554) (by decide +kernel) rfl
theorem g_555 : Cond.code (⟨"java/lang/RuntimeException", "<init>", "(Ljava/lang/String;)V"⟩ : MethodName) prog_31_method_2_code 2 (none) ∈ GT := GT_at (i := 555) (by decide +kernel) rfl
theorem g_556 : Cond.methodLink "java/lang/RuntimeException" 7 (⟨"java/lang/Exception", "<init>", "(Ljava/lang/String;)V"⟩ : MethodName) ∈ GT := GT_at (i := 556) (by decide +kernel) rfl
theorem g_557 : Cond.instanceMethod (⟨"java/lang/Exception", "<init>", "(Ljava/lang/String;)V"⟩ : MethodName) ∈ GT := GT_at (i := 557) (by decide +kernel) rfl
theorem g_558 : Cond.code (⟨"java/lang/Exception", "<init>", "(Ljava/lang/String;)V"⟩ : MethodName) prog_24_method_2_code 2 (none) ∈ GT := GT_at (i := 558) (by decide +kernel) rfl
theorem g_559 : Cond.methodLink "java/lang/Exception" 7 (⟨"java/lang/Throwable", "<init>", "(Ljava/lang/String;)V"⟩ : MethodName) ∈ GT := GT_at (i := 559) (by decide +kernel) rfl
theorem g_560 : Cond.instanceMethod (⟨"java/lang/Throwable", "<init>", "(Ljava/lang/String;)V"⟩ : MethodName) ∈ GT := GT_at (i := 560) (by decide +kernel) rfl
theorem g_561 : Cond.code (⟨"java/lang/Throwable", "<init>", "(Ljava/lang/String;)V"⟩ : MethodName) prog_37_method_2_code 2 (none) ∈ GT := GT_at (i := 561) (by decide +kernel) rfl
theorem g_563 : Cond.fieldLink "java/lang/Throwable" 31 "java/lang/Throwable" "detailMessage" "Ljava/lang/String;" ∈ GT := GT_at (i := 563) (by decide +kernel) rfl
theorem g_564 : Cond.fieldLink "java/lang/Throwable" 7 "java/lang/Throwable" "cause" "Ljava/lang/Throwable;" ∈ GT := GT_at (i := 564) (by decide +kernel) rfl
theorem g_565 : Cond.fieldLink "java/lang/Throwable" 17 "java/lang/Throwable" "stackTrace" "[Ljava/lang/StackTraceElement;" ∈ GT := GT_at (i := 565) (by decide +kernel) rfl
theorem g_566 : Cond.fieldLink "java/lang/Throwable" 24 "java/lang/Throwable" "suppressedExceptions" "Ljava/util/List;" ∈ GT := GT_at (i := 566) (by decide +kernel) rfl
theorem g_567 : Cond.soleField "java/lang/Throwable" "backtrace" ∈ GT := GT_at (i := 567) (by decide +kernel) rfl
theorem g_568 : Cond.soleField "java/lang/Throwable" "detailMessage" ∈ GT := GT_at (i := 568) (by decide +kernel) rfl
theorem g_569 : Cond.soleField "java/lang/Throwable" "cause" ∈ GT := GT_at (i := 569) (by decide +kernel) rfl
theorem g_570 : Cond.soleField "java/lang/Throwable" "stackTrace" ∈ GT := GT_at (i := 570) (by decide +kernel) rfl
theorem g_571 : Cond.lays "java/lang/IndexOutOfBoundsException" "java/lang/Throwable" "depth" "I" ∈ GT := GT_at (i := 571) (by decide +kernel) rfl
theorem g_572 : Cond.soleField "java/lang/Throwable" "depth" ∈ GT := GT_at (i := 572) (by decide +kernel) rfl
theorem g_573 : Cond.soleField "java/lang/Throwable" "suppressedExceptions" ∈ GT := GT_at (i := 573) (by decide +kernel) rfl
theorem g_574 : Cond.superclass "java/lang/IndexOutOfBoundsException" "java/lang/RuntimeException" ∈ GT := GT_at (i := 574) (by decide +kernel) rfl
theorem g_575 : Cond.arrayClass .byte ∈ GT := GT_at (i := 575) (by decide +kernel) rfl
theorem g_576 : Cond.classLink RX9 277 "java/lang/IllegalArgumentException" ∈ GT := GT_at (i := 576) (by decide +kernel) rfl
theorem g_577 : Cond.instantiable "java/lang/IllegalArgumentException" 6 ∈ GT := GT_at (i := 577) (by decide +kernel) rfl
theorem n_578 : Cond.castable "java/lang/IllegalArgumentException" "java/lang/IllegalArgumentException" ∈ NLW := NLW_at (i := 578) (by decide +kernel) rfl
theorem g_579 : Cond.selects "java/lang/IllegalArgumentException" (⟨"java/lang/Throwable", "fillInStackTrace", "(I)Ljava/lang/Throwable;"⟩ : MethodName) (⟨"java/lang/Throwable", "fillInStackTrace", "(I)Ljava/lang/Throwable;"⟩ : MethodName) ∈ GT := GT_at (i := 579) (by decide +kernel) rfl
theorem g_580 : Cond.lays "java/lang/IllegalArgumentException" "java/lang/Throwable" "cause" "Ljava/lang/Throwable;" ∈ GT := GT_at (i := 580) (by decide +kernel) rfl
theorem g_581 : Cond.lays "java/lang/IllegalArgumentException" "java/lang/Throwable" "stackTrace" "[Ljava/lang/StackTraceElement;" ∈ GT := GT_at (i := 581) (by decide +kernel) rfl
theorem g_582 : Cond.lays "java/lang/IllegalArgumentException" "java/lang/Throwable" "suppressedExceptions" "Ljava/util/List;" ∈ GT := GT_at (i := 582) (by decide +kernel) rfl
theorem g_583 : Cond.lays "java/lang/IllegalArgumentException" "java/lang/Throwable" "detailMessage" "Ljava/lang/String;" ∈ GT := GT_at (i := 583) (by decide +kernel) rfl
theorem g_584 : Cond.lays "java/lang/IllegalArgumentException" "java/lang/Throwable" "backtrace" "Ljava/lang/Object;" ∈ GT := GT_at (i := 584) (by decide +kernel) rfl
theorem g_586 : Cond.methodLink RX9 281 (⟨"java/lang/IllegalArgumentException", "<init>", "(Ljava/lang/String;)V"⟩ : MethodName) ∈ GT := GT_at (i := 586) (by decide +kernel) rfl
theorem g_587 : Cond.instanceMethod (⟨"java/lang/IllegalArgumentException", "<init>", "(Ljava/lang/String;)V"⟩ : MethodName) ∈ GT := GT_at (i := 587) (by decide +kernel) rfl
theorem g_588 : Cond.code (⟨"java/lang/IllegalArgumentException", "<init>", "(Ljava/lang/String;)V"⟩ : MethodName) prog_25_method_2_code 2 (none) ∈ GT := GT_at (i := 588) (by decide +kernel) rfl
theorem g_589 : Cond.methodLink "java/lang/IllegalArgumentException" 7 (⟨"java/lang/RuntimeException", "<init>", "(Ljava/lang/String;)V"⟩ : MethodName) ∈ GT := GT_at (i := 589) (by decide +kernel) rfl
theorem g_590 : Cond.lays "java/lang/IllegalArgumentException" "java/lang/Throwable" "depth" "I" ∈ GT := GT_at (i := 590) (by decide +kernel) rfl
theorem g_591 : Cond.superclass "java/lang/IllegalArgumentException" "java/lang/RuntimeException" ∈ GT := GT_at (i := 591) (by decide +kernel) rfl
theorem g_592 : Cond.classLink RX9 292 "java/lang/IllegalStateException" ∈ GT := GT_at (i := 592) (by decide +kernel) rfl
theorem g_593 : Cond.instantiable "java/lang/IllegalStateException" 6 ∈ GT := GT_at (i := 593) (by decide +kernel) rfl
theorem n_594 : Cond.castable "java/lang/IllegalStateException" "java/lang/IllegalStateException" ∈ NLW := NLW_at (i := 594) (by decide +kernel) rfl
theorem g_595 : Cond.selects "java/lang/IllegalStateException" (⟨"java/lang/Throwable", "fillInStackTrace", "(I)Ljava/lang/Throwable;"⟩ : MethodName) (⟨"java/lang/Throwable", "fillInStackTrace", "(I)Ljava/lang/Throwable;"⟩ : MethodName) ∈ GT := GT_at (i := 595) (by decide +kernel) rfl
theorem g_596 : Cond.lays "java/lang/IllegalStateException" "java/lang/Throwable" "cause" "Ljava/lang/Throwable;" ∈ GT := GT_at (i := 596) (by decide +kernel) rfl
theorem g_597 : Cond.lays "java/lang/IllegalStateException" "java/lang/Throwable" "stackTrace" "[Ljava/lang/StackTraceElement;" ∈ GT := GT_at (i := 597) (by decide +kernel) rfl
theorem g_598 : Cond.lays "java/lang/IllegalStateException" "java/lang/Throwable" "suppressedExceptions" "Ljava/util/List;" ∈ GT := GT_at (i := 598) (by decide +kernel) rfl
theorem g_599 : Cond.lays "java/lang/IllegalStateException" "java/lang/Throwable" "detailMessage" "Ljava/lang/String;" ∈ GT := GT_at (i := 599) (by decide +kernel) rfl
theorem g_600 : Cond.lays "java/lang/IllegalStateException" "java/lang/Throwable" "backtrace" "Ljava/lang/Object;" ∈ GT := GT_at (i := 600) (by decide +kernel) rfl
theorem g_602 : Cond.methodLink RX9 296 (⟨"java/lang/IllegalStateException", "<init>", "(Ljava/lang/String;)V"⟩ : MethodName) ∈ GT := GT_at (i := 602) (by decide +kernel) rfl
theorem g_603 : Cond.instanceMethod (⟨"java/lang/IllegalStateException", "<init>", "(Ljava/lang/String;)V"⟩ : MethodName) ∈ GT := GT_at (i := 603) (by decide +kernel) rfl
theorem g_604 : Cond.code (⟨"java/lang/IllegalStateException", "<init>", "(Ljava/lang/String;)V"⟩ : MethodName) prog_26_method_2_code 2 (none) ∈ GT := GT_at (i := 604) (by decide +kernel) rfl
theorem g_605 : Cond.methodLink "java/lang/IllegalStateException" 7 (⟨"java/lang/RuntimeException", "<init>", "(Ljava/lang/String;)V"⟩ : MethodName) ∈ GT := GT_at (i := 605) (by decide +kernel) rfl
theorem g_606 : Cond.lays "java/lang/IllegalStateException" "java/lang/Throwable" "depth" "I" ∈ GT := GT_at (i := 606) (by decide +kernel) rfl
theorem g_607 : Cond.superclass "java/lang/IllegalStateException" "java/lang/RuntimeException" ∈ GT := GT_at (i := 607) (by decide +kernel) rfl
theorem g_608 : Cond.classLink RX9 170 "java/util/NoSuchElementException" ∈ GT := GT_at (i := 608) (by decide +kernel) rfl
theorem g_609 : Cond.instantiable "java/util/NoSuchElementException" 6 ∈ GT := GT_at (i := 609) (by decide +kernel) rfl
theorem n_610 : Cond.castable "java/util/NoSuchElementException" "java/util/NoSuchElementException" ∈ NLW := NLW_at (i := 610) (by decide +kernel) rfl
theorem g_611 : Cond.selects "java/util/NoSuchElementException" (⟨"java/lang/Throwable", "fillInStackTrace", "(I)Ljava/lang/Throwable;"⟩ : MethodName) (⟨"java/lang/Throwable", "fillInStackTrace", "(I)Ljava/lang/Throwable;"⟩ : MethodName) ∈ GT := GT_at (i := 611) (by decide +kernel) rfl
theorem g_612 : Cond.lays "java/util/NoSuchElementException" "java/lang/Throwable" "cause" "Ljava/lang/Throwable;" ∈ GT := GT_at (i := 612) (by decide +kernel) rfl
theorem g_613 : Cond.lays "java/util/NoSuchElementException" "java/lang/Throwable" "stackTrace" "[Ljava/lang/StackTraceElement;" ∈ GT := GT_at (i := 613) (by decide +kernel) rfl
theorem g_614 : Cond.lays "java/util/NoSuchElementException" "java/lang/Throwable" "suppressedExceptions" "Ljava/util/List;" ∈ GT := GT_at (i := 614) (by decide +kernel) rfl
theorem g_615 : Cond.lays "java/util/NoSuchElementException" "java/lang/Throwable" "detailMessage" "Ljava/lang/String;" ∈ GT := GT_at (i := 615) (by decide +kernel) rfl
theorem g_616 : Cond.lays "java/util/NoSuchElementException" "java/lang/Throwable" "backtrace" "Ljava/lang/Object;" ∈ GT := GT_at (i := 616) (by decide +kernel) rfl
theorem g_618 : Cond.methodLink RX9 174 (⟨"java/util/NoSuchElementException", "<init>", "(Ljava/lang/String;)V"⟩ : MethodName) ∈ GT := GT_at (i := 618) (by decide +kernel) rfl
theorem g_619 : Cond.instanceMethod (⟨"java/util/NoSuchElementException", "<init>", "(Ljava/lang/String;)V"⟩ : MethodName) ∈ GT := GT_at (i := 619) (by decide +kernel) rfl
theorem g_620 : Cond.code (⟨"java/util/NoSuchElementException", "<init>", "(Ljava/lang/String;)V"⟩ : MethodName) prog_41_method_4_code 2 (none) ∈ GT := GT_at (i := 620) (by decide +kernel) rfl
theorem g_621 : Cond.methodLink "java/util/NoSuchElementException" 13 (⟨"java/lang/RuntimeException", "<init>", "(Ljava/lang/String;)V"⟩ : MethodName) ∈ GT := GT_at (i := 621) (by decide +kernel) rfl
theorem g_622 : Cond.lays "java/util/NoSuchElementException" "java/lang/Throwable" "depth" "I" ∈ GT := GT_at (i := 622) (by decide +kernel) rfl
theorem g_623 : Cond.superclass "java/util/NoSuchElementException" "java/lang/RuntimeException" ∈ GT := GT_at (i := 623) (by decide +kernel) rfl
theorem g_624 : Cond.methodLink RX9 86 yX2_push ∈ GT := GT_at (i := 624) (by decide +kernel) rfl
theorem g_625 : Cond.instanceMethod yX2_push ∈ GT := GT_at (i := 625) (by decide +kernel) rfl
theorem g_626 : Cond.selects RX2 yX2_push yX2_push ∈ GT := GT_at (i := 626) (by decide +kernel) rfl
theorem g_627 : Cond.code yX2_push cX2_push 2 (none) ∈ GT := GT_at (i := 627) (by decide +kernel) rfl
theorem g_628 : Cond.methodLink RX2 25 yX2_stateAt ∈ GT := GT_at (i := 628) (by decide +kernel) rfl
theorem g_630 : Cond.instanceMethod yX2_stateAt ∈ GT := GT_at (i := 630) (by decide +kernel) rfl
theorem g_631 : Cond.code yX2_stateAt cX2_stateAt 4 (some (.object "SongRefinery$State")) ∈ GT := GT_at (i := 631) (by decide +kernel) rfl
theorem n_632 : Cond.methodLinkNest RX2 24 yX6_init "SongRefinery" ∈ NLW := NLW_at (i := 632) (by decide +kernel) rfl
theorem g_633 : Cond.methodLink RX2 29 yX6_copyFrom ∈ GT := GT_at (i := 633) (by decide +kernel) rfl
theorem g_634 : Cond.instanceMethod yX6_copyFrom ∈ GT := GT_at (i := 634) (by decide +kernel) rfl
theorem g_635 : Cond.selects RX6 yX6_copyFrom yX6_copyFrom ∈ GT := GT_at (i := 635) (by decide +kernel) rfl
theorem g_636 : Cond.code yX6_copyFrom cX6_copyFrom 2 (none) ∈ GT := GT_at (i := 636) (by decide +kernel) rfl
theorem g_637 : Cond.methodLink RX6 30 yX0_copyFrom ∈ GT := GT_at (i := 637) (by decide +kernel) rfl
theorem g_638 : Cond.instanceMethod yX0_copyFrom ∈ GT := GT_at (i := 638) (by decide +kernel) rfl
theorem g_639 : Cond.selects RX0 yX0_copyFrom yX0_copyFrom ∈ GT := GT_at (i := 639) (by decide +kernel) rfl
theorem g_640 : Cond.code yX0_copyFrom cX0_copyFrom 2 (none) ∈ GT := GT_at (i := 640) (by decide +kernel) rfl
theorem n_641 : Cond.methodLinkNest RX0 22 yX9_copyRow "SongRefinery" ∈ NLW := NLW_at (i := 641) (by decide +kernel) rfl
theorem g_642 : Cond.methodLink RX6 34 yX5_copyFrom ∈ GT := GT_at (i := 642) (by decide +kernel) rfl
theorem g_643 : Cond.instanceMethod yX5_copyFrom ∈ GT := GT_at (i := 643) (by decide +kernel) rfl
theorem g_644 : Cond.selects RX5 yX5_copyFrom yX5_copyFrom ∈ GT := GT_at (i := 644) (by decide +kernel) rfl
theorem g_645 : Cond.code yX5_copyFrom cX5_copyFrom 2 (none) ∈ GT := GT_at (i := 645) (by decide +kernel) rfl
theorem n_646 : Cond.methodLinkNest RX5 24 yX9_copyRow "SongRefinery" ∈ NLW := NLW_at (i := 646) (by decide +kernel) rfl
theorem g_647 : Cond.methodLink RX6 37 yX7_copyFrom ∈ GT := GT_at (i := 647) (by decide +kernel) rfl
theorem g_648 : Cond.methodLink RX2 33 yJ9_min_7cf53 ∈ GT := GT_at (i := 648) (by decide +kernel) rfl
theorem g_649 : Cond.methodLink RX9 93 yX0_putFilter ∈ GT := GT_at (i := 649) (by decide +kernel) rfl
theorem g_650 : Cond.instanceMethod yX0_putFilter ∈ GT := GT_at (i := 650) (by decide +kernel) rfl
theorem g_651 : Cond.selects RX0 yX0_putFilter yX0_putFilter ∈ GT := GT_at (i := 651) (by decide +kernel) rfl
theorem g_652 : Cond.code yX0_putFilter cX0_putFilter 5 (some .int) ∈ GT := GT_at (i := 652) (by decide +kernel) rfl
theorem g_653 : Cond.methodLink RX0 42 yX0_kindAt ∈ GT := GT_at (i := 653) (by decide +kernel) rfl
theorem g_654 : Cond.methodLink RX0 46 yX0_parameterAt ∈ GT := GT_at (i := 654) (by decide +kernel) rfl
theorem g_655 : Cond.methodLink RX0 49 yX0_setFilter ∈ GT := GT_at (i := 655) (by decide +kernel) rfl
theorem g_657 : Cond.instanceMethod yX0_setFilter ∈ GT := GT_at (i := 657) (by decide +kernel) rfl
theorem g_658 : Cond.code yX0_setFilter cX0_setFilter 4 (none) ∈ GT := GT_at (i := 658) (by decide +kernel) rfl
theorem n_659 : Cond.methodLinkNest RX0 38 yX9_write "SongRefinery" ∈ NLW := NLW_at (i := 659) (by decide +kernel) rfl
theorem g_660 : Cond.methodLink RL 221 yL_insertFilter ∈ GT := GT_at (i := 660) (by decide +kernel) rfl
theorem g_661 : Cond.static yL_insertFilter ∈ GT := GT_at (i := 661) (by decide +kernel) rfl
theorem g_662 : Cond.codeWith yL_insertFilter cL_insertFilter 5 (some .int) [(0, 7, 8, 21), (0, 7, 12, 13), (0, 7, 17, 15)] ∈ GT := GT_at (i := 662) (by decide +kernel) rfl
theorem g_663 : Cond.classLink RL 21 "java/lang/IndexOutOfBoundsException" ∈ GT := GT_at (i := 663) (by decide +kernel) rfl
theorem g_664 : Cond.instantiable RJx00060 6 ∈ GT := GT_at (i := 664) (by decide +kernel) rfl
theorem g_665 : Cond.instanceMethod yJx00060_init_a7421 ∈ GT := GT_at (i := 665) (by decide +kernel) rfl
theorem g_666 : Cond.code yJx00060_init_a7421 cJx00060_init_a7421 2 (none) ∈ GT := GT_at (i := 666) (by decide +kernel) rfl
theorem g_667 : Cond.methodLink RJx00060 7 (⟨"java/lang/IndexOutOfBoundsException", "<init>", "(Ljava/lang/String;)V"⟩ : MethodName) ∈ GT := GT_at (i := 667) (by decide +kernel) rfl
theorem g_668 : Cond.lays "java/lang/ArrayIndexOutOfBoundsException" "java/lang/Throwable" "backtrace" "Ljava/lang/Object;" ∈ GT := GT_at (i := 668) (by decide +kernel) rfl
theorem g_669 : Cond.lays "java/lang/ArrayIndexOutOfBoundsException" "java/lang/Throwable" "detailMessage" "Ljava/lang/String;" ∈ GT := GT_at (i := 669) (by decide +kernel) rfl
theorem g_670 : Cond.lays "java/lang/ArrayIndexOutOfBoundsException" "java/lang/Throwable" "cause" "Ljava/lang/Throwable;" ∈ GT := GT_at (i := 670) (by decide +kernel) rfl
theorem g_671 : Cond.lays "java/lang/ArrayIndexOutOfBoundsException" "java/lang/Throwable" "stackTrace" "[Ljava/lang/StackTraceElement;" ∈ GT := GT_at (i := 671) (by decide +kernel) rfl
theorem g_672 : Cond.lays "java/lang/ArrayIndexOutOfBoundsException" "java/lang/Throwable" "depth" "I" ∈ GT := GT_at (i := 672) (by decide +kernel) rfl
theorem g_673 : Cond.lays "java/lang/ArrayIndexOutOfBoundsException" "java/lang/Throwable" "suppressedExceptions" "Ljava/util/List;" ∈ GT := GT_at (i := 673) (by decide +kernel) rfl
theorem g_674 : Cond.superclass "java/lang/ArrayIndexOutOfBoundsException" "java/lang/IndexOutOfBoundsException" ∈ GT := GT_at (i := 674) (by decide +kernel) rfl
theorem n_675 : Cond.castable "java/lang/ArrayIndexOutOfBoundsException" "java/lang/ArrayIndexOutOfBoundsException" ∈ NLW := NLW_at (i := 675) (by decide +kernel) rfl
theorem n_676 : Cond.declares (⟨"java/lang/IndexOutOfBoundsException", "<init>", "()V"⟩ : MethodName) ∈ NLW := NLW_at (i := 676) (by decide +kernel) rfl
theorem n_677 : Cond.declares (⟨"java/lang/IndexOutOfBoundsException", "<init>", "(Ljava/lang/String;)V"⟩ : MethodName) ∈ NLW := NLW_at (i := 677) (by decide +kernel) rfl
theorem g_678 : Cond.selects RJx00060 (⟨"java/lang/Throwable", "fillInStackTrace", "(I)Ljava/lang/Throwable;"⟩ : MethodName) (⟨"java/lang/Throwable", "fillInStackTrace", "(I)Ljava/lang/Throwable;"⟩ : MethodName) ∈ GT := GT_at (i := 678) (by decide +kernel) rfl
theorem g_679 : Cond.instantiable RJ0 4 ∈ GT := GT_at (i := 679) (by decide +kernel) rfl
theorem g_680 : Cond.laysFinal "java/lang/String" "java/lang/String" "value" "[B" ∈ GT := GT_at (i := 680) (by decide +kernel) rfl
theorem g_681 : Cond.soleField "java/lang/String" "value" ∈ GT := GT_at (i := 681) (by decide +kernel) rfl
theorem g_682 : Cond.laysFinal "java/lang/String" "java/lang/String" "coder" "B" ∈ GT := GT_at (i := 682) (by decide +kernel) rfl
theorem g_683 : Cond.soleField "java/lang/String" "coder" ∈ GT := GT_at (i := 683) (by decide +kernel) rfl
theorem g_684 : Cond.methodLink RL 17 yX9_insertFilter ∈ GT := GT_at (i := 684) (by decide +kernel) rfl
theorem g_685 : Cond.instanceMethod yX9_insertFilter ∈ GT := GT_at (i := 685) (by decide +kernel) rfl
theorem g_686 : Cond.selects RX9 yX9_insertFilter yX9_insertFilter ∈ GT := GT_at (i := 686) (by decide +kernel) rfl
theorem g_687 : Cond.code yX9_insertFilter cX9_insertFilter 4 (some .int) ∈ GT := GT_at (i := 687) (by decide +kernel) rfl
theorem g_688 : Cond.methodLink RX9 97 yX0_faultOfNewPosition ∈ GT := GT_at (i := 688) (by decide +kernel) rfl
theorem g_689 : Cond.instanceMethod yX0_faultOfNewPosition ∈ GT := GT_at (i := 689) (by decide +kernel) rfl
theorem g_690 : Cond.selects RX0 yX0_faultOfNewPosition yX0_faultOfNewPosition ∈ GT := GT_at (i := 690) (by decide +kernel) rfl
theorem g_691 : Cond.code yX0_faultOfNewPosition cX0_faultOfNewPosition 2 (some .int) ∈ GT := GT_at (i := 691) (by decide +kernel) rfl
theorem g_692 : Cond.methodLink RL 224 yL_removeFilter ∈ GT := GT_at (i := 692) (by decide +kernel) rfl
theorem g_693 : Cond.static yL_removeFilter ∈ GT := GT_at (i := 693) (by decide +kernel) rfl
theorem g_694 : Cond.codeWith yL_removeFilter cL_removeFilter 3 (some .int) [(0, 5, 6, 21)] ∈ GT := GT_at (i := 694) (by decide +kernel) rfl
theorem g_695 : Cond.methodLink RL 23 yX9_removeFilter ∈ GT := GT_at (i := 695) (by decide +kernel) rfl
theorem g_696 : Cond.instanceMethod yX9_removeFilter ∈ GT := GT_at (i := 696) (by decide +kernel) rfl
theorem g_697 : Cond.selects RX9 yX9_removeFilter yX9_removeFilter ∈ GT := GT_at (i := 697) (by decide +kernel) rfl
theorem g_698 : Cond.code yX9_removeFilter cX9_removeFilter 2 (some .int) ∈ GT := GT_at (i := 698) (by decide +kernel) rfl
theorem g_699 : Cond.methodLink RX9 101 yX0_faultOfPosition ∈ GT := GT_at (i := 699) (by decide +kernel) rfl
theorem g_700 : Cond.instanceMethod yX0_faultOfPosition ∈ GT := GT_at (i := 700) (by decide +kernel) rfl
theorem g_701 : Cond.selects RX0 yX0_faultOfPosition yX0_faultOfPosition ∈ GT := GT_at (i := 701) (by decide +kernel) rfl
theorem g_702 : Cond.code yX0_faultOfPosition cX0_faultOfPosition 2 (some .int) ∈ GT := GT_at (i := 702) (by decide +kernel) rfl
theorem g_703 : Cond.methodLink RX9 104 yX0_takeFilter ∈ GT := GT_at (i := 703) (by decide +kernel) rfl
theorem g_704 : Cond.instanceMethod yX0_takeFilter ∈ GT := GT_at (i := 704) (by decide +kernel) rfl
theorem g_705 : Cond.selects RX0 yX0_takeFilter yX0_takeFilter ∈ GT := GT_at (i := 705) (by decide +kernel) rfl
theorem g_706 : Cond.code yX0_takeFilter cX0_takeFilter 4 (some .int) ∈ GT := GT_at (i := 706) (by decide +kernel) rfl
theorem g_707 : Cond.methodLink RL 229 yL_addNote ∈ GT := GT_at (i := 707) (by decide +kernel) rfl
theorem g_708 : Cond.static yL_addNote ∈ GT := GT_at (i := 708) (by decide +kernel) rfl
theorem g_709 : Cond.codeWith yL_addNote cL_addNote 6 (some .int) [(0, 9, 10, 21), (0, 9, 14, 13), (0, 9, 19, 15)] ∈ GT := GT_at (i := 709) (by decide +kernel) rfl
theorem g_710 : Cond.methodLink RL 38 yX9_addNote ∈ GT := GT_at (i := 710) (by decide +kernel) rfl
theorem g_711 : Cond.instanceMethod yX9_addNote ∈ GT := GT_at (i := 711) (by decide +kernel) rfl
theorem g_712 : Cond.selects RX9 yX9_addNote yX9_addNote ∈ GT := GT_at (i := 712) (by decide +kernel) rfl
theorem g_713 : Cond.code yX9_addNote cX9_addNote 5 (some .int) ∈ GT := GT_at (i := 713) (by decide +kernel) rfl
theorem g_714 : Cond.methodLink RX9 126 yX5_faultOfNewNote ∈ GT := GT_at (i := 714) (by decide +kernel) rfl
theorem g_715 : Cond.instanceMethod yX5_faultOfNewNote ∈ GT := GT_at (i := 715) (by decide +kernel) rfl
theorem g_716 : Cond.selects RX5 yX5_faultOfNewNote yX5_faultOfNewNote ∈ GT := GT_at (i := 716) (by decide +kernel) rfl
theorem g_717 : Cond.code yX5_faultOfNewNote cX5_faultOfNewNote 5 (some .int) ∈ GT := GT_at (i := 717) (by decide +kernel) rfl
theorem g_718 : Cond.methodLink RX5 40 yX5_faultOfSong ∈ GT := GT_at (i := 718) (by decide +kernel) rfl
theorem g_719 : Cond.static yX5_faultOfSong ∈ GT := GT_at (i := 719) (by decide +kernel) rfl
theorem g_720 : Cond.code yX5_faultOfSong cX5_faultOfSong 1 (some .int) ∈ GT := GT_at (i := 720) (by decide +kernel) rfl
theorem n_721 : Cond.methodLinkNest RX5 36 yX9_isWithin "SongRefinery" ∈ NLW := NLW_at (i := 721) (by decide +kernel) rfl
theorem g_722 : Cond.methodLink RX9 132 yX5_putNote ∈ GT := GT_at (i := 722) (by decide +kernel) rfl
theorem g_723 : Cond.instanceMethod yX5_putNote ∈ GT := GT_at (i := 723) (by decide +kernel) rfl
theorem g_724 : Cond.selects RX5 yX5_putNote yX5_putNote ∈ GT := GT_at (i := 724) (by decide +kernel) rfl
theorem g_725 : Cond.code yX5_putNote cX5_putNote 9 (some .int) ∈ GT := GT_at (i := 725) (by decide +kernel) rfl
theorem n_726 : Cond.methodLinkNest RX5 50 yX9_write "SongRefinery" ∈ NLW := NLW_at (i := 726) (by decide +kernel) rfl
theorem g_727 : Cond.methodLink RX5 43 yX5_notesOf ∈ GT := GT_at (i := 727) (by decide +kernel) rfl
theorem g_728 : Cond.instanceMethod yX5_notesOf ∈ GT := GT_at (i := 728) (by decide +kernel) rfl
theorem g_729 : Cond.selects RX5 yX5_notesOf yX5_notesOf ∈ GT := GT_at (i := 729) (by decide +kernel) rfl
theorem g_730 : Cond.code yX5_notesOf cX5_notesOf 2 (some .int) ∈ GT := GT_at (i := 730) (by decide +kernel) rfl
theorem g_731 : Cond.methodLink RL 232 yL_removeNote ∈ GT := GT_at (i := 731) (by decide +kernel) rfl
theorem g_732 : Cond.static yL_removeNote ∈ GT := GT_at (i := 732) (by decide +kernel) rfl
theorem g_733 : Cond.codeWith yL_removeNote cL_removeNote 3 (some .int) [(0, 5, 6, 21), (0, 5, 9, 45)] ∈ GT := GT_at (i := 733) (by decide +kernel) rfl
theorem g_734 : Cond.classLink RL 45 "java/util/NoSuchElementException" ∈ GT := GT_at (i := 734) (by decide +kernel) rfl
theorem g_735 : Cond.methodLink RL 42 yX9_removeNote ∈ GT := GT_at (i := 735) (by decide +kernel) rfl
theorem g_736 : Cond.instanceMethod yX9_removeNote ∈ GT := GT_at (i := 736) (by decide +kernel) rfl
theorem g_737 : Cond.selects RX9 yX9_removeNote yX9_removeNote ∈ GT := GT_at (i := 737) (by decide +kernel) rfl
theorem g_738 : Cond.code yX9_removeNote cX9_removeNote 2 (some .int) ∈ GT := GT_at (i := 738) (by decide +kernel) rfl
theorem g_739 : Cond.methodLink RX9 135 yX5_faultOfPlaying ∈ GT := GT_at (i := 739) (by decide +kernel) rfl
theorem g_740 : Cond.instanceMethod yX5_faultOfPlaying ∈ GT := GT_at (i := 740) (by decide +kernel) rfl
theorem g_741 : Cond.selects RX5 yX5_faultOfPlaying yX5_faultOfPlaying ∈ GT := GT_at (i := 741) (by decide +kernel) rfl
theorem g_742 : Cond.code yX5_faultOfPlaying cX5_faultOfPlaying 2 (some .int) ∈ GT := GT_at (i := 742) (by decide +kernel) rfl
theorem g_743 : Cond.methodLink RX9 138 yX5_takeNote ∈ GT := GT_at (i := 743) (by decide +kernel) rfl
theorem g_744 : Cond.instanceMethod yX5_takeNote ∈ GT := GT_at (i := 744) (by decide +kernel) rfl
theorem g_745 : Cond.selects RX5 yX5_takeNote yX5_takeNote ∈ GT := GT_at (i := 745) (by decide +kernel) rfl
theorem g_746 : Cond.code yX5_takeNote cX5_takeNote 4 (some .int) ∈ GT := GT_at (i := 746) (by decide +kernel) rfl
theorem g_747 : Cond.methodLink RL 305 yL_peak ∈ GT := GT_at (i := 747) (by decide +kernel) rfl
theorem g_748 : Cond.static yL_peak ∈ GT := GT_at (i := 748) (by decide +kernel) rfl
theorem g_749 : Cond.codeWith yL_peak cL_peak 3 (some .int) [(0, 5, 6, 21), (0, 5, 9, 45)] ∈ GT := GT_at (i := 749) (by decide +kernel) rfl
theorem g_750 : Cond.methodLink RL 66 yX9_peak ∈ GT := GT_at (i := 750) (by decide +kernel) rfl
theorem g_751 : Cond.instanceMethod yX9_peak ∈ GT := GT_at (i := 751) (by decide +kernel) rfl
theorem g_752 : Cond.selects RX9 yX9_peak yX9_peak ∈ GT := GT_at (i := 752) (by decide +kernel) rfl
theorem g_753 : Cond.code yX9_peak cX9_peak 5 (some .int) ∈ GT := GT_at (i := 753) (by decide +kernel) rfl
theorem g_754 : Cond.methodLink RX9 111 yJ9_abs_0f7a4 ∈ GT := GT_at (i := 754) (by decide +kernel) rfl
theorem g_755 : Cond.methodLink RX9 183 yJ9_max_7cf53 ∈ GT := GT_at (i := 755) (by decide +kernel) rfl
theorem g_756 : Cond.methodLink RL 307 yL_energy ∈ GT := GT_at (i := 756) (by decide +kernel) rfl
theorem g_757 : Cond.static yL_energy ∈ GT := GT_at (i := 757) (by decide +kernel) rfl
theorem g_758 : Cond.codeWith yL_energy cL_energy 3 (some .long) [(0, 5, 6, 21)] ∈ GT := GT_at (i := 758) (by decide +kernel) rfl
theorem g_759 : Cond.methodLink RL 69 yX9_energy ∈ GT := GT_at (i := 759) (by decide +kernel) rfl
theorem g_760 : Cond.instanceMethod yX9_energy ∈ GT := GT_at (i := 760) (by decide +kernel) rfl
theorem g_761 : Cond.selects RX9 yX9_energy yX9_energy ∈ GT := GT_at (i := 761) (by decide +kernel) rfl
theorem g_762 : Cond.code yX9_energy cX9_energy 2 (some .long) ∈ GT := GT_at (i := 762) (by decide +kernel) rfl
theorem g_763 : Cond.methodLink RX9 141 yX5_faultOfSong ∈ GT := GT_at (i := 763) (by decide +kernel) rfl
theorem g_765 : Cond.methodLink RL 234 yL_addTank ∈ GT := GT_at (i := 765) (by decide +kernel) rfl
theorem g_766 : Cond.static yL_addTank ∈ GT := GT_at (i := 766) (by decide +kernel) rfl
theorem g_767 : Cond.codeWith yL_addTank cL_addTank 3 (some .int) [(0, 5, 6, 13), (0, 5, 9, 15)] ∈ GT := GT_at (i := 767) (by decide +kernel) rfl
theorem g_768 : Cond.methodLink RL 78 yX9_addTank ∈ GT := GT_at (i := 768) (by decide +kernel) rfl
theorem g_769 : Cond.instanceMethod yX9_addTank ∈ GT := GT_at (i := 769) (by decide +kernel) rfl
theorem g_770 : Cond.selects RX9 yX9_addTank yX9_addTank ∈ GT := GT_at (i := 770) (by decide +kernel) rfl
theorem g_771 : Cond.code yX9_addTank cX9_addTank 2 (some .int) ∈ GT := GT_at (i := 771) (by decide +kernel) rfl
theorem g_772 : Cond.methodLink RX9 196 yX7_faultOfNewTank ∈ GT := GT_at (i := 772) (by decide +kernel) rfl
theorem g_773 : Cond.instanceMethod yX7_faultOfNewTank ∈ GT := GT_at (i := 773) (by decide +kernel) rfl
theorem g_774 : Cond.selects RX7 yX7_faultOfNewTank yX7_faultOfNewTank ∈ GT := GT_at (i := 774) (by decide +kernel) rfl
theorem g_775 : Cond.code yX7_faultOfNewTank cX7_faultOfNewTank 2 (some .int) ∈ GT := GT_at (i := 775) (by decide +kernel) rfl
theorem n_776 : Cond.methodLinkNest RX7 49 yX9_isWithin "SongRefinery" ∈ NLW := NLW_at (i := 776) (by decide +kernel) rfl
theorem g_777 : Cond.methodLink RX9 199 yX7_putTank ∈ GT := GT_at (i := 777) (by decide +kernel) rfl
theorem g_778 : Cond.instanceMethod yX7_putTank ∈ GT := GT_at (i := 778) (by decide +kernel) rfl
theorem g_779 : Cond.selects RX7 yX7_putTank yX7_putTank ∈ GT := GT_at (i := 779) (by decide +kernel) rfl
theorem g_780 : Cond.code yX7_putTank cX7_putTank 3 (some .int) ∈ GT := GT_at (i := 780) (by decide +kernel) rfl
theorem g_781 : Cond.methodLink RL 236 yL_setTuning ∈ GT := GT_at (i := 781) (by decide +kernel) rfl
theorem g_782 : Cond.static yL_setTuning ∈ GT := GT_at (i := 782) (by decide +kernel) rfl
theorem g_783 : Cond.codeWith yL_setTuning cL_setTuning 4 (some .int) [(0, 6, 7, 21), (0, 6, 10, 13)] ∈ GT := GT_at (i := 783) (by decide +kernel) rfl
theorem g_784 : Cond.methodLink RL 81 yX9_setTuning ∈ GT := GT_at (i := 784) (by decide +kernel) rfl
theorem g_785 : Cond.instanceMethod yX9_setTuning ∈ GT := GT_at (i := 785) (by decide +kernel) rfl
theorem g_786 : Cond.selects RX9 yX9_setTuning yX9_setTuning ∈ GT := GT_at (i := 786) (by decide +kernel) rfl
theorem g_787 : Cond.code yX9_setTuning cX9_setTuning 3 (some .int) ∈ GT := GT_at (i := 787) (by decide +kernel) rfl
theorem g_788 : Cond.methodLink RX9 202 yX7_faultOfNewTuning ∈ GT := GT_at (i := 788) (by decide +kernel) rfl
theorem g_789 : Cond.instanceMethod yX7_faultOfNewTuning ∈ GT := GT_at (i := 789) (by decide +kernel) rfl
theorem g_790 : Cond.selects RX7 yX7_faultOfNewTuning yX7_faultOfNewTuning ∈ GT := GT_at (i := 790) (by decide +kernel) rfl
theorem g_791 : Cond.code yX7_faultOfNewTuning cX7_faultOfNewTuning 3 (some .int) ∈ GT := GT_at (i := 791) (by decide +kernel) rfl
theorem g_792 : Cond.methodLink RX7 53 yX7_faultOfTank ∈ GT := GT_at (i := 792) (by decide +kernel) rfl
theorem g_793 : Cond.instanceMethod yX7_faultOfTank ∈ GT := GT_at (i := 793) (by decide +kernel) rfl
theorem g_794 : Cond.selects RX7 yX7_faultOfTank yX7_faultOfTank ∈ GT := GT_at (i := 794) (by decide +kernel) rfl
theorem g_795 : Cond.code yX7_faultOfTank cX7_faultOfTank 2 (some .int) ∈ GT := GT_at (i := 795) (by decide +kernel) rfl
theorem g_796 : Cond.methodLink RX9 205 yX7_tune ∈ GT := GT_at (i := 796) (by decide +kernel) rfl
theorem g_797 : Cond.instanceMethod yX7_tune ∈ GT := GT_at (i := 797) (by decide +kernel) rfl
theorem g_798 : Cond.selects RX7 yX7_tune yX7_tune ∈ GT := GT_at (i := 798) (by decide +kernel) rfl
theorem g_799 : Cond.code yX7_tune cX7_tune 4 (some .int) ∈ GT := GT_at (i := 799) (by decide +kernel) rfl
theorem g_800 : Cond.methodLink RL 240 yL_pour ∈ GT := GT_at (i := 800) (by decide +kernel) rfl
theorem g_801 : Cond.static yL_pour ∈ GT := GT_at (i := 801) (by decide +kernel) rfl
theorem g_802 : Cond.codeWith yL_pour cL_pour 3 (some .int) [(0, 5, 6, 21), (0, 5, 9, 45)] ∈ GT := GT_at (i := 802) (by decide +kernel) rfl
theorem g_803 : Cond.methodLink RL 84 yX9_pour ∈ GT := GT_at (i := 803) (by decide +kernel) rfl
theorem g_804 : Cond.instanceMethod yX9_pour ∈ GT := GT_at (i := 804) (by decide +kernel) rfl
theorem g_805 : Cond.selects RX9 yX9_pour yX9_pour ∈ GT := GT_at (i := 805) (by decide +kernel) rfl
theorem g_806 : Cond.code yX9_pour cX9_pour 2 (some .int) ∈ GT := GT_at (i := 806) (by decide +kernel) rfl
theorem g_807 : Cond.methodLink RL 238 yL_drain ∈ GT := GT_at (i := 807) (by decide +kernel) rfl
theorem g_808 : Cond.static yL_drain ∈ GT := GT_at (i := 808) (by decide +kernel) rfl
theorem g_809 : Cond.codeWith yL_drain cL_drain 4 (some .int) [(0, 6, 7, 21), (0, 6, 10, 13), (0, 6, 14, 45)] ∈ GT := GT_at (i := 809) (by decide +kernel) rfl
theorem g_810 : Cond.methodLink RL 87 yX9_drain ∈ GT := GT_at (i := 810) (by decide +kernel) rfl
theorem g_811 : Cond.instanceMethod yX9_drain ∈ GT := GT_at (i := 811) (by decide +kernel) rfl
theorem g_812 : Cond.selects RX9 yX9_drain yX9_drain ∈ GT := GT_at (i := 812) (by decide +kernel) rfl
theorem g_813 : Cond.code yX9_drain cX9_drain 3 (some .int) ∈ GT := GT_at (i := 813) (by decide +kernel) rfl
theorem g_814 : Cond.methodLink RX9 212 yX7_faultOfDraining ∈ GT := GT_at (i := 814) (by decide +kernel) rfl
theorem g_815 : Cond.instanceMethod yX7_faultOfDraining ∈ GT := GT_at (i := 815) (by decide +kernel) rfl
theorem g_816 : Cond.selects RX7 yX7_faultOfDraining yX7_faultOfDraining ∈ GT := GT_at (i := 816) (by decide +kernel) rfl
theorem g_817 : Cond.code yX7_faultOfDraining cX7_faultOfDraining 3 (some .int) ∈ GT := GT_at (i := 817) (by decide +kernel) rfl
theorem g_818 : Cond.methodLink RX9 215 yX7_takeFrames ∈ GT := GT_at (i := 818) (by decide +kernel) rfl
theorem g_819 : Cond.instanceMethod yX7_takeFrames ∈ GT := GT_at (i := 819) (by decide +kernel) rfl
theorem g_820 : Cond.selects RX7 yX7_takeFrames yX7_takeFrames ∈ GT := GT_at (i := 820) (by decide +kernel) rfl
theorem g_821 : Cond.code yX7_takeFrames cX7_takeFrames 6 (some .int) ∈ GT := GT_at (i := 821) (by decide +kernel) rfl
theorem g_822 : Cond.methodLink RX7 77 yX7_frameAt ∈ GT := GT_at (i := 822) (by decide +kernel) rfl
theorem g_823 : Cond.instanceMethod yX7_frameAt ∈ GT := GT_at (i := 823) (by decide +kernel) rfl
theorem g_824 : Cond.selects RX7 yX7_frameAt yX7_frameAt ∈ GT := GT_at (i := 824) (by decide +kernel) rfl
theorem g_825 : Cond.code yX7_frameAt cX7_frameAt 3 (some .int) ∈ GT := GT_at (i := 825) (by decide +kernel) rfl
theorem g_826 : Cond.methodLink RX7 81 yJ9_max_7cf53 ∈ GT := GT_at (i := 826) (by decide +kernel) rfl
theorem g_827 : Cond.methodLink RL 351 yL_dropsFor ∈ GT := GT_at (i := 827) (by decide +kernel) rfl
theorem g_828 : Cond.static yL_dropsFor ∈ GT := GT_at (i := 828) (by decide +kernel) rfl
theorem g_829 : Cond.codeWith yL_dropsFor cL_dropsFor 3 (some .int) [(0, 5, 6, 21)] ∈ GT := GT_at (i := 829) (by decide +kernel) rfl
theorem g_830 : Cond.methodLink RL 105 yX9_dropsFor ∈ GT := GT_at (i := 830) (by decide +kernel) rfl
theorem g_831 : Cond.instanceMethod yX9_dropsFor ∈ GT := GT_at (i := 831) (by decide +kernel) rfl
theorem g_832 : Cond.selects RX9 yX9_dropsFor yX9_dropsFor ∈ GT := GT_at (i := 832) (by decide +kernel) rfl
theorem g_833 : Cond.code yX9_dropsFor cX9_dropsFor 2 (some .int) ∈ GT := GT_at (i := 833) (by decide +kernel) rfl
theorem g_834 : Cond.methodLink RL 178 yL_append ∈ GT := GT_at (i := 834) (by decide +kernel) rfl
theorem g_835 : Cond.static yL_append ∈ GT := GT_at (i := 835) (by decide +kernel) rfl
theorem g_836 : Cond.codeWith yL_append cL_append 3 (some .int) [(0, 5, 6, 13), (0, 5, 9, 15)] ∈ GT := GT_at (i := 836) (by decide +kernel) rfl
theorem g_837 : Cond.methodLink RL 114 yX9_append ∈ GT := GT_at (i := 837) (by decide +kernel) rfl
theorem g_838 : Cond.instanceMethod yX9_append ∈ GT := GT_at (i := 838) (by decide +kernel) rfl
theorem g_839 : Cond.selects RX9 yX9_append yX9_append ∈ GT := GT_at (i := 839) (by decide +kernel) rfl
theorem g_840 : Cond.code yX9_append cX9_append 2 (some .int) ∈ GT := GT_at (i := 840) (by decide +kernel) rfl
theorem g_841 : Cond.methodLink RX9 260 yX1_faultOfCharacter ∈ GT := GT_at (i := 841) (by decide +kernel) rfl
theorem g_842 : Cond.instanceMethod yX1_faultOfCharacter ∈ GT := GT_at (i := 842) (by decide +kernel) rfl
theorem g_843 : Cond.selects RX1 yX1_faultOfCharacter yX1_faultOfCharacter ∈ GT := GT_at (i := 843) (by decide +kernel) rfl
theorem g_844 : Cond.code yX1_faultOfCharacter cX1_faultOfCharacter 2 (some .int) ∈ GT := GT_at (i := 844) (by decide +kernel) rfl
theorem n_845 : Cond.methodLinkNest RX1 31 yX9_isWithin "SongRefinery" ∈ NLW := NLW_at (i := 845) (by decide +kernel) rfl
theorem g_846 : Cond.methodLink RX9 264 yX1_putCharacter ∈ GT := GT_at (i := 846) (by decide +kernel) rfl
theorem g_847 : Cond.instanceMethod yX1_putCharacter ∈ GT := GT_at (i := 847) (by decide +kernel) rfl
theorem g_848 : Cond.selects RX1 yX1_putCharacter yX1_putCharacter ∈ GT := GT_at (i := 848) (by decide +kernel) rfl
theorem g_849 : Cond.code yX1_putCharacter cX1_putCharacter 2 (some .int) ∈ GT := GT_at (i := 849) (by decide +kernel) rfl
theorem n_850 : Cond.methodLinkNest RX1 35 yX9_write "SongRefinery" ∈ NLW := NLW_at (i := 850) (by decide +kernel) rfl
theorem g_851 : Cond.methodLink RL 365 yL_run ∈ GT := GT_at (i := 851) (by decide +kernel) rfl
theorem g_852 : Cond.static yL_run ∈ GT := GT_at (i := 852) (by decide +kernel) rfl
theorem g_853 : Cond.codeWith yL_run cL_run 2 (some .int) [(0, 4, 5, 13), (0, 4, 8, 15)] ∈ GT := GT_at (i := 853) (by decide +kernel) rfl
theorem g_854 : Cond.methodLink RL 118 yX9_run ∈ GT := GT_at (i := 854) (by decide +kernel) rfl
theorem g_855 : Cond.instanceMethod yX9_run ∈ GT := GT_at (i := 855) (by decide +kernel) rfl
theorem g_856 : Cond.selects RX9 yX9_run yX9_run ∈ GT := GT_at (i := 856) (by decide +kernel) rfl
theorem g_857 : Cond.code yX9_run cX9_run 3 (some .int) ∈ GT := GT_at (i := 857) (by decide +kernel) rfl
theorem g_858 : Cond.methodLink RX9 267 yX1_parse ∈ GT := GT_at (i := 858) (by decide +kernel) rfl
theorem g_859 : Cond.instanceMethod yX1_parse ∈ GT := GT_at (i := 859) (by decide +kernel) rfl
theorem g_860 : Cond.selects RX1 yX1_parse yX1_parse ∈ GT := GT_at (i := 860) (by decide +kernel) rfl
theorem g_861 : Cond.code yX1_parse cX1_parse 2 (some .boolean) ∈ GT := GT_at (i := 861) (by decide +kernel) rfl
theorem g_862 : Cond.methodLink RX1 43 yX1_takeCommand ∈ GT := GT_at (i := 862) (by decide +kernel) rfl
theorem g_864 : Cond.instanceMethod yX1_takeCommand ∈ GT := GT_at (i := 864) (by decide +kernel) rfl
theorem g_865 : Cond.code yX1_takeCommand cX1_takeCommand 7 (some .boolean) ∈ GT := GT_at (i := 865) (by decide +kernel) rfl
theorem n_866 : Cond.fieldLinkNest RX1 55 "SongRefinery" "WORDS" "[LSongRefinery$Word;" "SongRefinery" ∈ NLW := NLW_at (i := 866) (by decide +kernel) rfl
theorem g_868 : Cond.methodLink RX1 65 yX1_sameCharacters ∈ GT := GT_at (i := 868) (by decide +kernel) rfl
theorem g_870 : Cond.instanceMethod yX1_sameCharacters ∈ GT := GT_at (i := 870) (by decide +kernel) rfl
theorem g_871 : Cond.code yX1_sameCharacters cX1_sameCharacters 3 (some .int) ∈ GT := GT_at (i := 871) (by decide +kernel) rfl
theorem g_872 : Cond.methodLink RX1 69 yJ0_length_8abf5 ∈ GT := GT_at (i := 872) (by decide +kernel) rfl
theorem g_873 : Cond.instanceMethod yJ0_length_8abf5 ∈ GT := GT_at (i := 873) (by decide +kernel) rfl
theorem g_874 : Cond.selects RJ0 yJ0_length_8abf5 yJ0_length_8abf5 ∈ GT := GT_at (i := 874) (by decide +kernel) rfl
theorem g_875 : Cond.code yJ0_length_8abf5 cJ0_length_8abf5 1 (some .int) ∈ GT := GT_at (i := 875) (by decide +kernel) rfl
theorem g_876 : Cond.methodLink RJ0 335 yJ0_coder_7d493 ∈ GT := GT_at (i := 876) (by decide +kernel) rfl
theorem g_877 : Cond.instanceMethod yJ0_coder_7d493 ∈ GT := GT_at (i := 877) (by decide +kernel) rfl
theorem g_878 : Cond.selects RJ0 yJ0_coder_7d493 yJ0_coder_7d493 ∈ GT := GT_at (i := 878) (by decide +kernel) rfl
theorem g_879 : Cond.code yJ0_coder_7d493 cJ0_coder_7d493 1 (some .byte) ∈ GT := GT_at (i := 879) (by decide +kernel) rfl
theorem g_880 : Cond.fieldLink RJ0 38 "java/lang/String" "COMPACT_STRINGS" "Z" ∈ GT := GT_at (i := 880) (by decide +kernel) rfl
theorem g_882 : Cond.methodLink RX1 51 yX1_characterAt ∈ GT := GT_at (i := 882) (by decide +kernel) rfl
theorem g_884 : Cond.instanceMethod yX1_characterAt ∈ GT := GT_at (i := 884) (by decide +kernel) rfl
theorem g_885 : Cond.code yX1_characterAt cX1_characterAt 2 (some .int) ∈ GT := GT_at (i := 885) (by decide +kernel) rfl
theorem n_886 : Cond.methodLinkNest RX1 39 yX9_read "SongRefinery" ∈ NLW := NLW_at (i := 886) (by decide +kernel) rfl
theorem g_887 : Cond.methodLink RX1 84 yJ0_charAt_5068e ∈ GT := GT_at (i := 887) (by decide +kernel) rfl
theorem g_888 : Cond.instanceMethod yJ0_charAt_5068e ∈ GT := GT_at (i := 888) (by decide +kernel) rfl
theorem g_889 : Cond.selects RJ0 yJ0_charAt_5068e yJ0_charAt_5068e ∈ GT := GT_at (i := 889) (by decide +kernel) rfl
theorem g_890 : Cond.code yJ0_charAt_5068e cJ0_charAt_5068e 2 (some .char) ∈ GT := GT_at (i := 890) (by decide +kernel) rfl
theorem g_891 : Cond.methodLink RJ0 492 yJ0_isLatin1_aae02 ∈ GT := GT_at (i := 891) (by decide +kernel) rfl
theorem g_892 : Cond.instanceMethod yJ0_isLatin1_aae02 ∈ GT := GT_at (i := 892) (by decide +kernel) rfl
theorem g_893 : Cond.selects RJ0 yJ0_isLatin1_aae02 yJ0_isLatin1_aae02 ∈ GT := GT_at (i := 893) (by decide +kernel) rfl
theorem g_894 : Cond.code yJ0_isLatin1_aae02 cJ0_isLatin1_aae02 1 (some .boolean) ∈ GT := GT_at (i := 894) (by decide +kernel) rfl
theorem g_895 : Cond.methodLink RJ0 495 yJ1_charAt_3b067 ∈ GT := GT_at (i := 895) (by decide +kernel) rfl
theorem g_896 : Cond.static yJ1_charAt_3b067 ∈ GT := GT_at (i := 896) (by decide +kernel) rfl
theorem g_897 : Cond.code yJ1_charAt_3b067 cJ1_charAt_3b067 2 (some .char) ∈ GT := GT_at (i := 897) (by decide +kernel) rfl
theorem g_898 : Cond.methodLink RJ1 9 yJ0_checkIndex_df160 ∈ GT := GT_at (i := 898) (by decide +kernel) rfl
theorem g_899 : Cond.static yJ0_checkIndex_df160 ∈ GT := GT_at (i := 899) (by decide +kernel) rfl
theorem g_900 : Cond.code yJ0_checkIndex_df160 cJ0_checkIndex_df160 2 (none) ∈ GT := GT_at (i := 900) (by decide +kernel) rfl
theorem g_901 : Cond.fieldLink RJ0 1053 "jdk/internal/util/Preconditions" "SIOOBE_FORMATTER" "Ljava/util/function/BiFunction;" ∈ GT := GT_at (i := 901) (by decide +kernel) rfl
theorem g_903 : Cond.methodLink RJ0 1059 yJ3_checkIndex_8e157 ∈ GT := GT_at (i := 903) (by decide +kernel) rfl
theorem g_904 : Cond.static yJ3_checkIndex_8e157 ∈ GT := GT_at (i := 904) (by decide +kernel) rfl
theorem g_905 : Cond.code yJ3_checkIndex_8e157 cJ3_checkIndex_8e157 3 (some .int) ∈ GT := GT_at (i := 905) (by decide +kernel) rfl
theorem g_906 : Cond.methodLink RJ0 498 yJ2_charAt_3b067 ∈ GT := GT_at (i := 906) (by decide +kernel) rfl
theorem g_907 : Cond.static yJ2_charAt_3b067 ∈ GT := GT_at (i := 907) (by decide +kernel) rfl
theorem g_908 : Cond.code yJ2_charAt_3b067 cJ2_charAt_3b067 2 (some .char) ∈ GT := GT_at (i := 908) (by decide +kernel) rfl
theorem g_909 : Cond.methodLink RJ2 67 yJ2_checkIndex_2214a ∈ GT := GT_at (i := 909) (by decide +kernel) rfl
theorem g_910 : Cond.static yJ2_checkIndex_2214a ∈ GT := GT_at (i := 910) (by decide +kernel) rfl
theorem g_911 : Cond.code yJ2_checkIndex_2214a cJ2_checkIndex_2214a 2 (none) ∈ GT := GT_at (i := 911) (by decide +kernel) rfl
theorem g_912 : Cond.methodLink RJ2 48 yJ2_length_9d52b ∈ GT := GT_at (i := 912) (by decide +kernel) rfl
theorem g_913 : Cond.static yJ2_length_9d52b ∈ GT := GT_at (i := 913) (by decide +kernel) rfl
theorem g_914 : Cond.code yJ2_length_9d52b cJ2_length_9d52b 1 (some .int) ∈ GT := GT_at (i := 914) (by decide +kernel) rfl
theorem g_915 : Cond.methodLink RJ2 414 yJ0_checkIndex_df160 ∈ GT := GT_at (i := 915) (by decide +kernel) rfl
theorem g_916 : Cond.methodLink RJ2 71 yJ2_getChar_3b067 ∈ GT := GT_at (i := 916) (by decide +kernel) rfl
theorem g_917 : Cond.static yJ2_getChar_3b067 ∈ GT := GT_at (i := 917) (by decide +kernel) rfl
theorem g_918 : Cond.code yJ2_getChar_3b067 cJ2_getChar_3b067 2 (some .char) ∈ GT := GT_at (i := 918) (by decide +kernel) rfl
theorem g_919 : Cond.fieldLink RJ2 44 "java/lang/StringUTF16" "$assertionsDisabled" "Z" ∈ GT := GT_at (i := 919) (by decide +kernel) rfl
theorem g_921 : Cond.fieldLink RJ2 59 "java/lang/StringUTF16" "HI_BYTE_SHIFT" "I" ∈ GT := GT_at (i := 921) (by decide +kernel) rfl
theorem g_923 : Cond.fieldLink RJ2 63 "java/lang/StringUTF16" "LO_BYTE_SHIFT" "I" ∈ GT := GT_at (i := 923) (by decide +kernel) rfl
theorem g_925 : Cond.methodLink RX1 74 yX1_takeNumbers ∈ GT := GT_at (i := 925) (by decide +kernel) rfl
theorem g_927 : Cond.instanceMethod yX1_takeNumbers ∈ GT := GT_at (i := 927) (by decide +kernel) rfl
theorem g_928 : Cond.code yX1_takeNumbers cX1_takeNumbers 4 (some .boolean) ∈ GT := GT_at (i := 928) (by decide +kernel) rfl
theorem g_929 : Cond.methodLink RX1 47 yX1_takeSign ∈ GT := GT_at (i := 929) (by decide +kernel) rfl
theorem g_931 : Cond.instanceMethod yX1_takeSign ∈ GT := GT_at (i := 931) (by decide +kernel) rfl
theorem g_932 : Cond.code yX1_takeSign cX1_takeSign 2 (some .boolean) ∈ GT := GT_at (i := 932) (by decide +kernel) rfl
theorem g_933 : Cond.methodLink RX1 91 yX1_takeNumber ∈ GT := GT_at (i := 933) (by decide +kernel) rfl
theorem g_935 : Cond.instanceMethod yX1_takeNumber ∈ GT := GT_at (i := 935) (by decide +kernel) rfl
theorem g_936 : Cond.code yX1_takeNumber cX1_takeNumber 4 (some .int) ∈ GT := GT_at (i := 936) (by decide +kernel) rfl
theorem g_937 : Cond.methodLink RX1 94 yJ0_isEmpty_aae02 ∈ GT := GT_at (i := 937) (by decide +kernel) rfl
theorem g_938 : Cond.instanceMethod yJ0_isEmpty_aae02 ∈ GT := GT_at (i := 938) (by decide +kernel) rfl
theorem g_939 : Cond.selects RJ0 yJ0_isEmpty_aae02 yJ0_isEmpty_aae02 ∈ GT := GT_at (i := 939) (by decide +kernel) rfl
theorem g_940 : Cond.code yJ0_isEmpty_aae02 cJ0_isEmpty_aae02 1 (some .boolean) ∈ GT := GT_at (i := 940) (by decide +kernel) rfl
theorem g_941 : Cond.methodLink RX1 78 yJ9_max_7cf53 ∈ GT := GT_at (i := 941) (by decide +kernel) rfl
theorem g_942 : Cond.methodLink RX9 271 yX1_clear ∈ GT := GT_at (i := 942) (by decide +kernel) rfl
theorem g_943 : Cond.instanceMethod yX1_clear ∈ GT := GT_at (i := 943) (by decide +kernel) rfl
theorem g_944 : Cond.selects RX1 yX1_clear yX1_clear ∈ GT := GT_at (i := 944) (by decide +kernel) rfl
theorem g_945 : Cond.code yX1_clear cX1_clear 1 (none) ∈ GT := GT_at (i := 945) (by decide +kernel) rfl
theorem g_947 : Cond.methodLink RX9 282 yX6_copyFrom ∈ GT := GT_at (i := 947) (by decide +kernel) rfl
theorem g_948 : Cond.methodLink RX9 288 yX9_faultOfCommand ∈ GT := GT_at (i := 948) (by decide +kernel) rfl
theorem g_950 : Cond.instanceMethod yX9_faultOfCommand ∈ GT := GT_at (i := 950) (by decide +kernel) rfl
theorem g_951 : Cond.code yX9_faultOfCommand cX9_faultOfCommand 5 (some .int) ∈ GT := GT_at (i := 951) (by decide +kernel) rfl
theorem g_952 : Cond.methodLink RX9 387 yX1_numberAt ∈ GT := GT_at (i := 952) (by decide +kernel) rfl
theorem g_953 : Cond.instanceMethod yX1_numberAt ∈ GT := GT_at (i := 953) (by decide +kernel) rfl
theorem g_954 : Cond.selects RX1 yX1_numberAt yX1_numberAt ∈ GT := GT_at (i := 954) (by decide +kernel) rfl
theorem g_955 : Cond.code yX1_numberAt cX1_numberAt 3 (some .int) ∈ GT := GT_at (i := 955) (by decide +kernel) rfl
theorem g_956 : Cond.methodLink RX9 390 yX1_signAt ∈ GT := GT_at (i := 956) (by decide +kernel) rfl
theorem g_957 : Cond.instanceMethod yX1_signAt ∈ GT := GT_at (i := 957) (by decide +kernel) rfl
theorem g_958 : Cond.selects RX1 yX1_signAt yX1_signAt ∈ GT := GT_at (i := 958) (by decide +kernel) rfl
theorem g_959 : Cond.code yX1_signAt cX1_signAt 2 (some .int) ∈ GT := GT_at (i := 959) (by decide +kernel) rfl
theorem g_961 : Cond.methodLink RX9 297 yX9_carryOut ∈ GT := GT_at (i := 961) (by decide +kernel) rfl
theorem g_963 : Cond.instanceMethod yX9_carryOut ∈ GT := GT_at (i := 963) (by decide +kernel) rfl
theorem g_964 : Cond.code yX9_carryOut cX9_carryOut 5 (none) ∈ GT := GT_at (i := 964) (by decide +kernel) rfl
theorem g_965 : Cond.methodLink RL 361 yL_errorPosition ∈ GT := GT_at (i := 965) (by decide +kernel) rfl
theorem g_966 : Cond.static yL_errorPosition ∈ GT := GT_at (i := 966) (by decide +kernel) rfl
theorem g_967 : Cond.codeWith yL_errorPosition cL_errorPosition 2 (some .int) [(0, 4, 5, 45)] ∈ GT := GT_at (i := 967) (by decide +kernel) rfl
theorem g_968 : Cond.methodLink RL 122 yX9_errorPosition ∈ GT := GT_at (i := 968) (by decide +kernel) rfl
theorem g_969 : Cond.instanceMethod yX9_errorPosition ∈ GT := GT_at (i := 969) (by decide +kernel) rfl
theorem g_970 : Cond.selects RX9 yX9_errorPosition yX9_errorPosition ∈ GT := GT_at (i := 970) (by decide +kernel) rfl
theorem g_971 : Cond.code yX9_errorPosition cX9_errorPosition 1 (some .int) ∈ GT := GT_at (i := 971) (by decide +kernel) rfl
theorem g_973 : Cond.methodLink RL 363 yL_failedCommand ∈ GT := GT_at (i := 973) (by decide +kernel) rfl
theorem g_974 : Cond.static yL_failedCommand ∈ GT := GT_at (i := 974) (by decide +kernel) rfl
theorem g_975 : Cond.codeWith yL_failedCommand cL_failedCommand 2 (some .int) [(0, 4, 5, 45)] ∈ GT := GT_at (i := 975) (by decide +kernel) rfl
theorem g_976 : Cond.methodLink RL 125 yX9_failedCommand ∈ GT := GT_at (i := 976) (by decide +kernel) rfl
theorem g_977 : Cond.instanceMethod yX9_failedCommand ∈ GT := GT_at (i := 977) (by decide +kernel) rfl
theorem g_978 : Cond.selects RX9 yX9_failedCommand yX9_failedCommand ∈ GT := GT_at (i := 978) (by decide +kernel) rfl
theorem g_979 : Cond.code yX9_failedCommand cX9_failedCommand 1 (some .int) ∈ GT := GT_at (i := 979) (by decide +kernel) rfl
theorem g_981 : Cond.methodLink RL 158 yL_lineAt ∈ GT := GT_at (i := 981) (by decide +kernel) rfl
theorem g_982 : Cond.static yL_lineAt ∈ GT := GT_at (i := 982) (by decide +kernel) rfl
theorem g_983 : Cond.codeWith yL_lineAt cL_lineAt 3 (some .int) [(0, 5, 6, 21)] ∈ GT := GT_at (i := 983) (by decide +kernel) rfl
theorem g_984 : Cond.methodLink RL 131 yX9_lineAt ∈ GT := GT_at (i := 984) (by decide +kernel) rfl
theorem g_985 : Cond.instanceMethod yX9_lineAt ∈ GT := GT_at (i := 985) (by decide +kernel) rfl
theorem g_986 : Cond.selects RX9 yX9_lineAt yX9_lineAt ∈ GT := GT_at (i := 986) (by decide +kernel) rfl
theorem g_987 : Cond.code yX9_lineAt cX9_lineAt 2 (some .char) ∈ GT := GT_at (i := 987) (by decide +kernel) rfl
theorem g_989 : Cond.methodLink RX9 319 yX3_signAt ∈ GT := GT_at (i := 989) (by decide +kernel) rfl
theorem g_990 : Cond.instanceMethod yX3_signAt ∈ GT := GT_at (i := 990) (by decide +kernel) rfl
theorem g_991 : Cond.selects RX3 yX3_signAt yX3_signAt ∈ GT := GT_at (i := 991) (by decide +kernel) rfl
theorem g_992 : Cond.code yX3_signAt cX3_signAt 2 (some .int) ∈ GT := GT_at (i := 992) (by decide +kernel) rfl
theorem n_993 : Cond.methodLinkNest RX3 19 yX9_read "SongRefinery" ∈ NLW := NLW_at (i := 993) (by decide +kernel) rfl
theorem g_994 : Cond.methodLink RL 312 yL_meanLevel ∈ GT := GT_at (i := 994) (by decide +kernel) rfl
theorem g_995 : Cond.static yL_meanLevel ∈ GT := GT_at (i := 995) (by decide +kernel) rfl
theorem g_996 : Cond.codeWith yL_meanLevel cL_meanLevel 3 (some .double) [(0, 5, 6, 21), (0, 5, 11, 140)] ∈ GT := GT_at (i := 996) (by decide +kernel) rfl
theorem g_997 : Cond.classLink RL 140 "java/lang/ArithmeticException" ∈ GT := GT_at (i := 997) (by decide +kernel) rfl
theorem g_998 : Cond.instantiable "java/lang/ArithmeticException" 6 ∈ GT := GT_at (i := 998) (by decide +kernel) rfl
theorem g_999 : Cond.instanceMethod (⟨"java/lang/ArithmeticException", "<init>", "(Ljava/lang/String;)V"⟩ : MethodName) ∈ GT := GT_at (i := 999) (by decide +kernel) rfl
theorem g_1000 : Cond.code (⟨"java/lang/ArithmeticException", "<init>", "(Ljava/lang/String;)V"⟩ : MethodName) prog_17_method_2_code 2 (none) ∈ GT := GT_at (i := 1000) (by decide +kernel) rfl
theorem g_1001 : Cond.methodLink "java/lang/ArithmeticException" 7 (⟨"java/lang/RuntimeException", "<init>", "(Ljava/lang/String;)V"⟩ : MethodName) ∈ GT := GT_at (i := 1001) (by decide +kernel) rfl
theorem g_1002 : Cond.lays "java/lang/ArithmeticException" "java/lang/Throwable" "backtrace" "Ljava/lang/Object;" ∈ GT := GT_at (i := 1002) (by decide +kernel) rfl
theorem g_1003 : Cond.lays "java/lang/ArithmeticException" "java/lang/Throwable" "detailMessage" "Ljava/lang/String;" ∈ GT := GT_at (i := 1003) (by decide +kernel) rfl
theorem g_1004 : Cond.lays "java/lang/ArithmeticException" "java/lang/Throwable" "cause" "Ljava/lang/Throwable;" ∈ GT := GT_at (i := 1004) (by decide +kernel) rfl
theorem g_1005 : Cond.lays "java/lang/ArithmeticException" "java/lang/Throwable" "stackTrace" "[Ljava/lang/StackTraceElement;" ∈ GT := GT_at (i := 1005) (by decide +kernel) rfl
theorem g_1006 : Cond.lays "java/lang/ArithmeticException" "java/lang/Throwable" "depth" "I" ∈ GT := GT_at (i := 1006) (by decide +kernel) rfl
theorem g_1007 : Cond.lays "java/lang/ArithmeticException" "java/lang/Throwable" "suppressedExceptions" "Ljava/util/List;" ∈ GT := GT_at (i := 1007) (by decide +kernel) rfl
theorem g_1008 : Cond.superclass "java/lang/ArithmeticException" "java/lang/RuntimeException" ∈ GT := GT_at (i := 1008) (by decide +kernel) rfl
theorem n_1009 : Cond.castable "java/lang/ArithmeticException" "java/lang/ArithmeticException" ∈ NLW := NLW_at (i := 1009) (by decide +kernel) rfl
theorem g_1010 : Cond.selects "java/lang/ArithmeticException" (⟨"java/lang/Throwable", "fillInStackTrace", "(I)Ljava/lang/Throwable;"⟩ : MethodName) (⟨"java/lang/Throwable", "fillInStackTrace", "(I)Ljava/lang/Throwable;"⟩ : MethodName) ∈ GT := GT_at (i := 1010) (by decide +kernel) rfl
theorem g_1011 : Cond.methodLink RL 134 yX9_meanLevel ∈ GT := GT_at (i := 1011) (by decide +kernel) rfl
theorem g_1012 : Cond.instanceMethod yX9_meanLevel ∈ GT := GT_at (i := 1012) (by decide +kernel) rfl
theorem g_1013 : Cond.selects RX9 yX9_meanLevel yX9_meanLevel ∈ GT := GT_at (i := 1013) (by decide +kernel) rfl
theorem g_1014 : Cond.code yX9_meanLevel cX9_meanLevel 6 (some .double) ∈ GT := GT_at (i := 1014) (by decide +kernel) rfl
theorem g_1015 : Cond.classLink RX9 322 "java/lang/ArithmeticException" ∈ GT := GT_at (i := 1015) (by decide +kernel) rfl
theorem g_1017 : Cond.methodLink RX9 326 (⟨"java/lang/ArithmeticException", "<init>", "(Ljava/lang/String;)V"⟩ : MethodName) ∈ GT := GT_at (i := 1017) (by decide +kernel) rfl
theorem g_1020 : Cond.methodLink RL 339 yL_filledShare ∈ GT := GT_at (i := 1020) (by decide +kernel) rfl
theorem g_1021 : Cond.static yL_filledShare ∈ GT := GT_at (i := 1021) (by decide +kernel) rfl
theorem g_1022 : Cond.codeWith yL_filledShare cL_filledShare 2 (some .float) [(0, 4, 5, 140)] ∈ GT := GT_at (i := 1022) (by decide +kernel) rfl
theorem g_1023 : Cond.methodLink RL 144 yX9_filledShare ∈ GT := GT_at (i := 1023) (by decide +kernel) rfl
theorem g_1024 : Cond.instanceMethod yX9_filledShare ∈ GT := GT_at (i := 1024) (by decide +kernel) rfl
theorem g_1025 : Cond.selects RX9 yX9_filledShare yX9_filledShare ∈ GT := GT_at (i := 1025) (by decide +kernel) rfl
theorem g_1026 : Cond.code yX9_filledShare cX9_filledShare 2 (some .float) ∈ GT := GT_at (i := 1026) (by decide +kernel) rfl
theorem g_1027 : Cond.methodLink RX9 327 yX7_sumOfCapacities ∈ GT := GT_at (i := 1027) (by decide +kernel) rfl
theorem g_1028 : Cond.instanceMethod yX7_sumOfCapacities ∈ GT := GT_at (i := 1028) (by decide +kernel) rfl
theorem g_1029 : Cond.selects RX7 yX7_sumOfCapacities yX7_sumOfCapacities ∈ GT := GT_at (i := 1029) (by decide +kernel) rfl
theorem g_1030 : Cond.code yX7_sumOfCapacities cX7_sumOfCapacities 3 (some .int) ∈ GT := GT_at (i := 1030) (by decide +kernel) rfl
theorem g_1033 : Cond.methodLink RL 359 yL_undo ∈ GT := GT_at (i := 1033) (by decide +kernel) rfl
theorem g_1034 : Cond.static yL_undo ∈ GT := GT_at (i := 1034) (by decide +kernel) rfl
theorem g_1035 : Cond.codeWith yL_undo cL_undo 2 (some .int) [(0, 4, 5, 15)] ∈ GT := GT_at (i := 1035) (by decide +kernel) rfl
theorem g_1036 : Cond.methodLink RL 149 yX9_undo ∈ GT := GT_at (i := 1036) (by decide +kernel) rfl
theorem g_1037 : Cond.instanceMethod yX9_undo ∈ GT := GT_at (i := 1037) (by decide +kernel) rfl
theorem g_1038 : Cond.selects RX9 yX9_undo yX9_undo ∈ GT := GT_at (i := 1038) (by decide +kernel) rfl
theorem g_1039 : Cond.code yX9_undo cX9_undo 1 (some .int) ∈ GT := GT_at (i := 1039) (by decide +kernel) rfl
theorem g_1041 : Cond.methodLink RX9 343 yX2_popInto ∈ GT := GT_at (i := 1041) (by decide +kernel) rfl
theorem g_1042 : Cond.instanceMethod yX2_popInto ∈ GT := GT_at (i := 1042) (by decide +kernel) rfl
theorem g_1043 : Cond.selects RX2 yX2_popInto yX2_popInto ∈ GT := GT_at (i := 1043) (by decide +kernel) rfl
theorem g_1044 : Cond.code yX2_popInto cX2_popInto 2 (none) ∈ GT := GT_at (i := 1044) (by decide +kernel) rfl
theorem g_1045 : Cond.methodLink RL 355 yL_restore ∈ GT := GT_at (i := 1045) (by decide +kernel) rfl
theorem g_1046 : Cond.static yL_restore ∈ GT := GT_at (i := 1046) (by decide +kernel) rfl
theorem g_1047 : Cond.codeWith yL_restore cL_restore 2 (some .int) [(0, 4, 5, 15)] ∈ GT := GT_at (i := 1047) (by decide +kernel) rfl
theorem g_1048 : Cond.methodLink RL 152 yX9_restore ∈ GT := GT_at (i := 1048) (by decide +kernel) rfl
theorem g_1049 : Cond.instanceMethod yX9_restore ∈ GT := GT_at (i := 1049) (by decide +kernel) rfl
theorem g_1050 : Cond.selects RX9 yX9_restore yX9_restore ∈ GT := GT_at (i := 1050) (by decide +kernel) rfl
theorem g_1051 : Cond.code yX9_restore cX9_restore 1 (some .int) ∈ GT := GT_at (i := 1051) (by decide +kernel) rfl
theorem g_1053 : Cond.methodLink RX9 348 yX2_clear ∈ GT := GT_at (i := 1053) (by decide +kernel) rfl
theorem g_1054 : Cond.instanceMethod yX2_clear ∈ GT := GT_at (i := 1054) (by decide +kernel) rfl
theorem g_1055 : Cond.selects RX2 yX2_clear yX2_clear ∈ GT := GT_at (i := 1055) (by decide +kernel) rfl
theorem g_1056 : Cond.code yX2_clear cX2_clear 1 (none) ∈ GT := GT_at (i := 1056) (by decide +kernel) rfl
theorem g_1057 : Cond.methodLink RL 385 yL_acts ∈ GT := GT_at (i := 1057) (by decide +kernel) rfl
theorem g_1058 : Cond.static yL_acts ∈ GT := GT_at (i := 1058) (by decide +kernel) rfl
theorem g_1059 : Cond.code yL_acts cL_acts 7 (some .int) ∈ GT := GT_at (i := 1059) (by decide +kernel) rfl
theorem g_1060 : Cond.methodLink RL 196 yL_song ∈ GT := GT_at (i := 1060) (by decide +kernel) rfl
theorem g_1061 : Cond.static yL_song ∈ GT := GT_at (i := 1061) (by decide +kernel) rfl
theorem g_1062 : Cond.code yL_song cL_song 1 (some .int) ∈ GT := GT_at (i := 1062) (by decide +kernel) rfl
theorem g_1063 : Cond.methodLink RL 200 yX9_tankCount ∈ GT := GT_at (i := 1063) (by decide +kernel) rfl
theorem g_1064 : Cond.instanceMethod yX9_tankCount ∈ GT := GT_at (i := 1064) (by decide +kernel) rfl
theorem g_1065 : Cond.selects RX9 yX9_tankCount yX9_tankCount ∈ GT := GT_at (i := 1065) (by decide +kernel) rfl
theorem g_1066 : Cond.code yX9_tankCount cX9_tankCount 1 (some .int) ∈ GT := GT_at (i := 1066) (by decide +kernel) rfl
theorem g_1067 : Cond.methodLink RL 203 yL_some ∈ GT := GT_at (i := 1067) (by decide +kernel) rfl
theorem g_1068 : Cond.static yL_some ∈ GT := GT_at (i := 1068) (by decide +kernel) rfl
theorem g_1069 : Cond.code yL_some cL_some 2 (some .int) ∈ GT := GT_at (i := 1069) (by decide +kernel) rfl
theorem g_1070 : Cond.methodLink RL 186 yJ9_max_7cf53 ∈ GT := GT_at (i := 1070) (by decide +kernel) rfl
theorem g_1071 : Cond.methodLink RL 207 yX9_filterCount ∈ GT := GT_at (i := 1071) (by decide +kernel) rfl
theorem g_1072 : Cond.instanceMethod yX9_filterCount ∈ GT := GT_at (i := 1072) (by decide +kernel) rfl
theorem g_1073 : Cond.selects RX9 yX9_filterCount yX9_filterCount ∈ GT := GT_at (i := 1073) (by decide +kernel) rfl
theorem g_1074 : Cond.code yX9_filterCount cX9_filterCount 1 (some .int) ∈ GT := GT_at (i := 1074) (by decide +kernel) rfl
theorem g_1075 : Cond.methodLink RL 210 yL_kind ∈ GT := GT_at (i := 1075) (by decide +kernel) rfl
theorem g_1076 : Cond.static yL_kind ∈ GT := GT_at (i := 1076) (by decide +kernel) rfl
theorem g_1077 : Cond.code yL_kind cL_kind 1 (some .char) ∈ GT := GT_at (i := 1077) (by decide +kernel) rfl
theorem g_1079 : Cond.methodLink RL 175 yJ0_charAt_5068e ∈ GT := GT_at (i := 1079) (by decide +kernel) rfl
theorem g_1080 : Cond.methodLink RL 214 yL_parameter ∈ GT := GT_at (i := 1080) (by decide +kernel) rfl
theorem g_1081 : Cond.static yL_parameter ∈ GT := GT_at (i := 1081) (by decide +kernel) rfl
theorem g_1082 : Cond.code yL_parameter cL_parameter 5 (some .int) ∈ GT := GT_at (i := 1082) (by decide +kernel) rfl
theorem g_1083 : Cond.methodLink RL 193 yJ0_indexOf_0f7a4 ∈ GT := GT_at (i := 1083) (by decide +kernel) rfl
theorem g_1084 : Cond.instanceMethod yJ0_indexOf_0f7a4 ∈ GT := GT_at (i := 1084) (by decide +kernel) rfl
theorem g_1085 : Cond.selects RJ0 yJ0_indexOf_0f7a4 yJ0_indexOf_0f7a4 ∈ GT := GT_at (i := 1085) (by decide +kernel) rfl
theorem g_1086 : Cond.code yJ0_indexOf_0f7a4 cJ0_indexOf_0f7a4 2 (some .int) ∈ GT := GT_at (i := 1086) (by decide +kernel) rfl
theorem g_1087 : Cond.methodLink RJ0 633 yJ0_indexOf_7cf53 ∈ GT := GT_at (i := 1087) (by decide +kernel) rfl
theorem g_1088 : Cond.instanceMethod yJ0_indexOf_7cf53 ∈ GT := GT_at (i := 1088) (by decide +kernel) rfl
theorem g_1089 : Cond.selects RJ0 yJ0_indexOf_7cf53 yJ0_indexOf_7cf53 ∈ GT := GT_at (i := 1089) (by decide +kernel) rfl
theorem g_1090 : Cond.code yJ0_indexOf_7cf53 cJ0_indexOf_7cf53 3 (some .int) ∈ GT := GT_at (i := 1090) (by decide +kernel) rfl
theorem g_1091 : Cond.methodLink RJ0 505 yJ0_length_8abf5 ∈ GT := GT_at (i := 1091) (by decide +kernel) rfl
theorem g_1092 : Cond.methodLink RJ0 637 yJ1_indexOf_4cfef ∈ GT := GT_at (i := 1092) (by decide +kernel) rfl
theorem g_1093 : Cond.static yJ1_indexOf_4cfef ∈ GT := GT_at (i := 1093) (by decide +kernel) rfl
theorem g_1094 : Cond.code yJ1_indexOf_4cfef cJ1_indexOf_4cfef 4 (some .int) ∈ GT := GT_at (i := 1094) (by decide +kernel) rfl
theorem g_1095 : Cond.methodLink RJ1 88 yJ1_canEncode_9a6ad ∈ GT := GT_at (i := 1095) (by decide +kernel) rfl
theorem g_1096 : Cond.static yJ1_canEncode_9a6ad ∈ GT := GT_at (i := 1096) (by decide +kernel) rfl
theorem g_1097 : Cond.code yJ1_canEncode_9a6ad cJ1_canEncode_9a6ad 1 (some .boolean) ∈ GT := GT_at (i := 1097) (by decide +kernel) rfl
theorem g_1098 : Cond.methodLink RJ1 92 yJ9_max_7cf53 ∈ GT := GT_at (i := 1098) (by decide +kernel) rfl
theorem g_1099 : Cond.methodLink RJ1 38 yJ9_min_7cf53 ∈ GT := GT_at (i := 1099) (by decide +kernel) rfl
theorem g_1100 : Cond.methodLink RJ1 95 yJ1_indexOfChar_4cfef ∈ GT := GT_at (i := 1100) (by decide +kernel) rfl
theorem g_1101 : Cond.static yJ1_indexOfChar_4cfef ∈ GT := GT_at (i := 1101) (by decide +kernel) rfl
theorem g_1102 : Cond.code yJ1_indexOfChar_4cfef cJ1_indexOfChar_4cfef 6 (some .int) ∈ GT := GT_at (i := 1102) (by decide +kernel) rfl
theorem g_1103 : Cond.methodLink RJ0 640 yJ2_indexOf_4cfef ∈ GT := GT_at (i := 1103) (by decide +kernel) rfl
theorem g_1104 : Cond.static yJ2_indexOf_4cfef ∈ GT := GT_at (i := 1104) (by decide +kernel) rfl
theorem g_1105 : Cond.code yJ2_indexOf_4cfef cJ2_indexOf_4cfef 4 (some .int) ∈ GT := GT_at (i := 1105) (by decide +kernel) rfl
theorem g_1106 : Cond.methodLink RJ2 224 yJ9_max_7cf53 ∈ GT := GT_at (i := 1106) (by decide +kernel) rfl
theorem g_1107 : Cond.methodLink RJ2 183 yJ9_min_7cf53 ∈ GT := GT_at (i := 1107) (by decide +kernel) rfl
theorem g_1108 : Cond.constant RJ2 227 (65536 : Int32) ∈ GT := GT_at (i := 1108) (by decide +kernel) rfl
theorem g_1109 : Cond.methodLink RJ2 228 yJ2_indexOfChar_4cfef ∈ GT := GT_at (i := 1109) (by decide +kernel) rfl
theorem g_1110 : Cond.static yJ2_indexOfChar_4cfef ∈ GT := GT_at (i := 1110) (by decide +kernel) rfl
theorem g_1111 : Cond.code yJ2_indexOfChar_4cfef cJ2_indexOfChar_4cfef 4 (some .int) ∈ GT := GT_at (i := 1111) (by decide +kernel) rfl
theorem g_1112 : Cond.methodLink RJ2 96 yJ2_checkBoundsBeginEnd_d044e ∈ GT := GT_at (i := 1112) (by decide +kernel) rfl
theorem g_1113 : Cond.static yJ2_checkBoundsBeginEnd_d044e ∈ GT := GT_at (i := 1113) (by decide +kernel) rfl
theorem g_1114 : Cond.code yJ2_checkBoundsBeginEnd_d044e cJ2_checkBoundsBeginEnd_d044e 3 (none) ∈ GT := GT_at (i := 1114) (by decide +kernel) rfl
theorem g_1115 : Cond.methodLink RJ2 241 yJ0_checkBoundsBeginEnd_23922 ∈ GT := GT_at (i := 1115) (by decide +kernel) rfl
theorem g_1116 : Cond.static yJ0_checkBoundsBeginEnd_23922 ∈ GT := GT_at (i := 1116) (by decide +kernel) rfl
theorem g_1117 : Cond.code yJ0_checkBoundsBeginEnd_23922 cJ0_checkBoundsBeginEnd_23922 3 (none) ∈ GT := GT_at (i := 1117) (by decide +kernel) rfl
theorem g_1118 : Cond.methodLink RJ0 1062 yJ3_checkFromToIndex_8c36e ∈ GT := GT_at (i := 1118) (by decide +kernel) rfl
theorem g_1119 : Cond.static yJ3_checkFromToIndex_8c36e ∈ GT := GT_at (i := 1119) (by decide +kernel) rfl
theorem g_1120 : Cond.code yJ3_checkFromToIndex_8c36e cJ3_checkFromToIndex_8c36e 4 (some .int) ∈ GT := GT_at (i := 1120) (by decide +kernel) rfl
theorem g_1121 : Cond.methodLink RJ2 244 yJ2_indexOfCharUnsafe_4cfef ∈ GT := GT_at (i := 1121) (by decide +kernel) rfl
theorem g_1122 : Cond.static yJ2_indexOfCharUnsafe_4cfef ∈ GT := GT_at (i := 1122) (by decide +kernel) rfl
theorem g_1123 : Cond.code yJ2_indexOfCharUnsafe_4cfef cJ2_indexOfCharUnsafe_4cfef 5 (some .int) ∈ GT := GT_at (i := 1123) (by decide +kernel) rfl
theorem g_1124 : Cond.methodLink RJ2 232 yJ2_indexOfSupplementary_4cfef ∈ GT := GT_at (i := 1124) (by decide +kernel) rfl
theorem g_1125 : Cond.static yJ2_indexOfSupplementary_4cfef ∈ GT := GT_at (i := 1125) (by decide +kernel) rfl
theorem g_1126 : Cond.code yJ2_indexOfSupplementary_4cfef cJ2_indexOfSupplementary_4cfef 7 (some .int) ∈ GT := GT_at (i := 1126) (by decide +kernel) rfl
theorem g_1127 : Cond.methodLink RJ2 164 yJ11_isValidCodePoint_9a6ad ∈ GT := GT_at (i := 1127) (by decide +kernel) rfl
theorem g_1128 : Cond.static yJ11_isValidCodePoint_9a6ad ∈ GT := GT_at (i := 1128) (by decide +kernel) rfl
theorem g_1129 : Cond.code yJ11_isValidCodePoint_9a6ad cJ11_isValidCodePoint_9a6ad 2 (some .boolean) ∈ GT := GT_at (i := 1129) (by decide +kernel) rfl
theorem g_1130 : Cond.methodLink RJ2 157 yJ11_highSurrogate_5068e ∈ GT := GT_at (i := 1130) (by decide +kernel) rfl
theorem g_1131 : Cond.static yJ11_highSurrogate_5068e ∈ GT := GT_at (i := 1131) (by decide +kernel) rfl
theorem g_1132 : Cond.code yJ11_highSurrogate_5068e cJ11_highSurrogate_5068e 1 (some .char) ∈ GT := GT_at (i := 1132) (by decide +kernel) rfl
theorem g_1133 : Cond.constant RJ11 110 (55232 : Int32) ∈ GT := GT_at (i := 1133) (by decide +kernel) rfl
theorem g_1134 : Cond.methodLink RJ2 161 yJ11_lowSurrogate_5068e ∈ GT := GT_at (i := 1134) (by decide +kernel) rfl
theorem g_1135 : Cond.static yJ11_lowSurrogate_5068e ∈ GT := GT_at (i := 1135) (by decide +kernel) rfl
theorem g_1136 : Cond.code yJ11_lowSurrogate_5068e cJ11_lowSurrogate_5068e 1 (some .char) ∈ GT := GT_at (i := 1136) (by decide +kernel) rfl
theorem g_1137 : Cond.constant RJ11 76 (56320 : Int32) ∈ GT := GT_at (i := 1137) (by decide +kernel) rfl
theorem g_1138 : Cond.methodLink RL 226 yL_swapFilters ∈ GT := GT_at (i := 1138) (by decide +kernel) rfl
theorem g_1139 : Cond.static yL_swapFilters ∈ GT := GT_at (i := 1139) (by decide +kernel) rfl
theorem g_1140 : Cond.codeWith yL_swapFilters cL_swapFilters 4 (some .int) [(0, 6, 7, 21)] ∈ GT := GT_at (i := 1140) (by decide +kernel) rfl
theorem g_1141 : Cond.methodLink RL 27 yX9_swapFilters ∈ GT := GT_at (i := 1141) (by decide +kernel) rfl
theorem g_1142 : Cond.instanceMethod yX9_swapFilters ∈ GT := GT_at (i := 1142) (by decide +kernel) rfl
theorem g_1143 : Cond.selects RX9 yX9_swapFilters yX9_swapFilters ∈ GT := GT_at (i := 1143) (by decide +kernel) rfl
theorem g_1144 : Cond.code yX9_swapFilters cX9_swapFilters 3 (some .int) ∈ GT := GT_at (i := 1144) (by decide +kernel) rfl
theorem g_1145 : Cond.methodLink RX9 107 yX0_exchange ∈ GT := GT_at (i := 1145) (by decide +kernel) rfl
theorem g_1146 : Cond.instanceMethod yX0_exchange ∈ GT := GT_at (i := 1146) (by decide +kernel) rfl
theorem g_1147 : Cond.selects RX0 yX0_exchange yX0_exchange ∈ GT := GT_at (i := 1147) (by decide +kernel) rfl
theorem g_1148 : Cond.code yX0_exchange cX0_exchange 5 (none) ∈ GT := GT_at (i := 1148) (by decide +kernel) rfl
theorem g_1149 : Cond.methodLink RL 381 yL_told ∈ GT := GT_at (i := 1149) (by decide +kernel) rfl
theorem g_1150 : Cond.static yL_told ∈ GT := GT_at (i := 1150) (by decide +kernel) rfl
theorem g_1151 : Cond.code yL_told cL_told 4 (some (.object "java/lang/String")) ∈ GT := GT_at (i := 1151) (by decide +kernel) rfl
theorem g_1152 : Cond.classLink RL 155 RJ4 ∈ GT := GT_at (i := 1152) (by decide +kernel) rfl
theorem g_1153 : Cond.instantiable RJ4 4 ∈ GT := GT_at (i := 1153) (by decide +kernel) rfl
theorem g_1154 : Cond.methodLink RL 245 yL_said ∈ GT := GT_at (i := 1154) (by decide +kernel) rfl
theorem g_1155 : Cond.static yL_said ∈ GT := GT_at (i := 1155) (by decide +kernel) rfl
theorem g_1156 : Cond.code yL_said cL_said 4 (some (.object "java/lang/String")) ∈ GT := GT_at (i := 1156) (by decide +kernel) rfl
theorem g_1157 : Cond.methodLink RL 157 yJ4_init_da8c8 ∈ GT := GT_at (i := 1157) (by decide +kernel) rfl
theorem g_1158 : Cond.instanceMethod yJ4_init_da8c8 ∈ GT := GT_at (i := 1158) (by decide +kernel) rfl
theorem g_1159 : Cond.code yJ4_init_da8c8 cJ4_init_da8c8 1 (none) ∈ GT := GT_at (i := 1159) (by decide +kernel) rfl
theorem g_1160 : Cond.methodLink RJ4 1 yJ5_init_d00df ∈ GT := GT_at (i := 1160) (by decide +kernel) rfl
theorem g_1161 : Cond.instanceMethod yJ5_init_d00df ∈ GT := GT_at (i := 1161) (by decide +kernel) rfl
theorem g_1162 : Cond.code yJ5_init_d00df cJ5_init_d00df 2 (none) ∈ GT := GT_at (i := 1162) (by decide +kernel) rfl
theorem g_1163 : Cond.methodLink RJ5 3 objectInit ∈ GT := GT_at (i := 1163) (by decide +kernel) rfl
theorem g_1164 : Cond.fieldLink RJ5 18 "java/lang/String" "COMPACT_STRINGS" "Z" ∈ GT := GT_at (i := 1164) (by decide +kernel) rfl
theorem g_1165 : Cond.methodLink RJ5 26 yJ2_newBytesFor_77867 ∈ GT := GT_at (i := 1165) (by decide +kernel) rfl
theorem g_1166 : Cond.static yJ2_newBytesFor_77867 ∈ GT := GT_at (i := 1166) (by decide +kernel) rfl
theorem g_1167 : Cond.code yJ2_newBytesFor_77867 cJ2_newBytesFor_77867 1 (some (.array .byte)) ∈ GT := GT_at (i := 1167) (by decide +kernel) rfl
theorem g_1168 : Cond.methodLink RJ2 11 yJ2_newBytesLength_0f7a4 ∈ GT := GT_at (i := 1168) (by decide +kernel) rfl
theorem g_1169 : Cond.static yJ2_newBytesLength_0f7a4 ∈ GT := GT_at (i := 1169) (by decide +kernel) rfl
theorem g_1170 : Cond.code yJ2_newBytesLength_0f7a4 cJ2_newBytesLength_0f7a4 1 (some .int) ∈ GT := GT_at (i := 1170) (by decide +kernel) rfl
theorem g_1171 : Cond.constant RJ2 20 (1073741823 : Int32) ∈ GT := GT_at (i := 1171) (by decide +kernel) rfl
theorem g_1172 : Cond.fieldLink RJ5 15 "java/lang/AbstractStringBuilder" "value" "[B" ∈ GT := GT_at (i := 1172) (by decide +kernel) rfl
theorem g_1173 : Cond.fieldLink RJ5 22 "java/lang/AbstractStringBuilder" "coder" "B" ∈ GT := GT_at (i := 1173) (by decide +kernel) rfl
theorem g_1174 : Cond.fieldLink RJ0 1048 "java/lang/AbstractStringBuilder" "maybeLatin1" "Z" ∈ GT := GT_at (i := 1174) (by decide +kernel) rfl
theorem g_1175 : Cond.fieldLink RJ5 79 "java/lang/AbstractStringBuilder" "count" "I" ∈ GT := GT_at (i := 1175) (by decide +kernel) rfl
theorem g_1176 : Cond.lays "java/lang/StringBuilder" "java/lang/AbstractStringBuilder" "value" "[B" ∈ GT := GT_at (i := 1176) (by decide +kernel) rfl
theorem g_1177 : Cond.soleField "java/lang/AbstractStringBuilder" "value" ∈ GT := GT_at (i := 1177) (by decide +kernel) rfl
theorem g_1178 : Cond.lays "java/lang/StringBuilder" "java/lang/AbstractStringBuilder" "coder" "B" ∈ GT := GT_at (i := 1178) (by decide +kernel) rfl
theorem g_1179 : Cond.soleField "java/lang/AbstractStringBuilder" "coder" ∈ GT := GT_at (i := 1179) (by decide +kernel) rfl
theorem g_1180 : Cond.lays "java/lang/StringBuilder" "java/lang/AbstractStringBuilder" "maybeLatin1" "Z" ∈ GT := GT_at (i := 1180) (by decide +kernel) rfl
theorem g_1181 : Cond.soleField "java/lang/AbstractStringBuilder" "maybeLatin1" ∈ GT := GT_at (i := 1181) (by decide +kernel) rfl
theorem g_1182 : Cond.lays "java/lang/StringBuilder" "java/lang/AbstractStringBuilder" "count" "I" ∈ GT := GT_at (i := 1182) (by decide +kernel) rfl
theorem g_1183 : Cond.soleField "java/lang/AbstractStringBuilder" "count" ∈ GT := GT_at (i := 1183) (by decide +kernel) rfl
theorem g_1184 : Cond.superclass "java/lang/StringBuilder" "java/lang/AbstractStringBuilder" ∈ GT := GT_at (i := 1184) (by decide +kernel) rfl
theorem g_1185 : Cond.methodLink RL 163 yJ4_append_cf468 ∈ GT := GT_at (i := 1185) (by decide +kernel) rfl
theorem g_1186 : Cond.instanceMethod yJ4_append_cf468 ∈ GT := GT_at (i := 1186) (by decide +kernel) rfl
theorem g_1187 : Cond.selects RJ4 yJ4_append_cf468 yJ4_append_cf468 ∈ GT := GT_at (i := 1187) (by decide +kernel) rfl
theorem g_1188 : Cond.code yJ4_append_cf468 cJ4_append_cf468 2 (some (.object "java/lang/StringBuilder")) ∈ GT := GT_at (i := 1188) (by decide +kernel) rfl
theorem g_1189 : Cond.methodLink RJ4 50 yJ5_append_3fe6f ∈ GT := GT_at (i := 1189) (by decide +kernel) rfl
theorem g_1190 : Cond.instanceMethod yJ5_append_3fe6f ∈ GT := GT_at (i := 1190) (by decide +kernel) rfl
theorem g_1191 : Cond.code yJ5_append_3fe6f cJ5_append_3fe6f 2 (some (.object "java/lang/AbstractStringBuilder")) ∈ GT := GT_at (i := 1191) (by decide +kernel) rfl
theorem g_1192 : Cond.methodLink RJ5 100 yJ5_ensureCapacityInternal_d00df ∈ GT := GT_at (i := 1192) (by decide +kernel) rfl
theorem g_1194 : Cond.instanceMethod yJ5_ensureCapacityInternal_d00df ∈ GT := GT_at (i := 1194) (by decide +kernel) rfl
theorem g_1195 : Cond.code yJ5_ensureCapacityInternal_d00df cJ5_ensureCapacityInternal_d00df 3 (none) ∈ GT := GT_at (i := 1195) (by decide +kernel) rfl
theorem g_1196 : Cond.methodLink RJ5 104 yJ5_newCapacity_0f7a4 ∈ GT := GT_at (i := 1196) (by decide +kernel) rfl
theorem g_1198 : Cond.instanceMethod yJ5_newCapacity_0f7a4 ∈ GT := GT_at (i := 1198) (by decide +kernel) rfl
theorem g_1199 : Cond.code yJ5_newCapacity_0f7a4 cJ5_newCapacity_0f7a4 6 (some .int) ∈ GT := GT_at (i := 1199) (by decide +kernel) rfl
theorem g_1200 : Cond.methodLink RJ5 114 yJ8_newLength_cabcc ∈ GT := GT_at (i := 1200) (by decide +kernel) rfl
theorem g_1201 : Cond.static yJ8_newLength_cabcc ∈ GT := GT_at (i := 1201) (by decide +kernel) rfl
theorem g_1202 : Cond.code yJ8_newLength_cabcc cJ8_newLength_cabcc 4 (some .int) ∈ GT := GT_at (i := 1202) (by decide +kernel) rfl
theorem g_1203 : Cond.methodLink RJ8 194 yJ9_max_7cf53 ∈ GT := GT_at (i := 1203) (by decide +kernel) rfl
theorem g_1204 : Cond.constant RJ8 200 (2147483639 : Int32) ∈ GT := GT_at (i := 1204) (by decide +kernel) rfl
theorem g_1205 : Cond.methodLink RJ8 201 yJ8_hugeLength_7cf53 ∈ GT := GT_at (i := 1205) (by decide +kernel) rfl
theorem g_1206 : Cond.static yJ8_hugeLength_7cf53 ∈ GT := GT_at (i := 1206) (by decide +kernel) rfl
theorem g_1207 : Cond.code yJ8_hugeLength_7cf53 cJ8_hugeLength_7cf53 3 (some .int) ∈ GT := GT_at (i := 1207) (by decide +kernel) rfl
theorem g_1208 : Cond.constant RJ5 39 (2147483647 : Int32) ∈ GT := GT_at (i := 1208) (by decide +kernel) rfl
theorem g_1209 : Cond.methodLink RJ5 108 yJ7_copyOf_9075b ∈ GT := GT_at (i := 1209) (by decide +kernel) rfl
theorem g_1210 : Cond.static yJ7_copyOf_9075b ∈ GT := GT_at (i := 1210) (by decide +kernel) rfl
theorem g_1211 : Cond.code yJ7_copyOf_9075b cJ7_copyOf_9075b 3 (some (.array .byte)) ∈ GT := GT_at (i := 1211) (by decide +kernel) rfl
theorem g_1212 : Cond.methodLink RJ7 310 (⟨"[B", "clone", "()Ljava/lang/Object;"⟩ : MethodName) ∈ GT := GT_at (i := 1212) (by decide +kernel) rfl
theorem g_1213 : Cond.sameMethod "[B" "java/lang/Object" "clone" "()Ljava/lang/Object;" ∈ GT := GT_at (i := 1213) (by decide +kernel) rfl
theorem g_1214 : Cond.native (⟨"java/lang/Object", "clone", "()Ljava/lang/Object;"⟩ : MethodName) ∈ GT := GT_at (i := 1214) (by decide +kernel) rfl
theorem g_1215 : Cond.instanceMethod (⟨"java/lang/Object", "clone", "()Ljava/lang/Object;"⟩ : MethodName) ∈ GT := GT_at (i := 1215) (by decide +kernel) rfl
theorem g_1216 : Cond.selects "[B" (⟨"[B", "clone", "()Ljava/lang/Object;"⟩ : MethodName) (⟨"java/lang/Object", "clone", "()Ljava/lang/Object;"⟩ : MethodName) ∈ GT := GT_at (i := 1216) (by decide +kernel) rfl
theorem n_1217 : Cond.castable "[B" "java/lang/Cloneable" ∈ NLW := NLW_at (i := 1217) (by decide +kernel) rfl
theorem g_1218 : Cond.classLink RJ7 311 "[B" ∈ GT := GT_at (i := 1218) (by decide +kernel) rfl
theorem g_1219 : Cond.methodLink RJ7 304 yJ9_min_7cf53 ∈ GT := GT_at (i := 1219) (by decide +kernel) rfl
theorem g_1220 : Cond.methodLink RJ7 150 arraycopyName ∈ GT := GT_at (i := 1220) (by decide +kernel) rfl
theorem g_1221 : Cond.methodLink RJ5 83 yJ5_isLatin1_aae02 ∈ GT := GT_at (i := 1221) (by decide +kernel) rfl
theorem g_1222 : Cond.instanceMethod yJ5_isLatin1_aae02 ∈ GT := GT_at (i := 1222) (by decide +kernel) rfl
theorem g_1223 : Cond.sameMethod "java/lang/AbstractStringBuilder" "java/lang/AbstractStringBuilder" "isLatin1" "()Z" ∈ GT := GT_at (i := 1223) (by decide +kernel) rfl
theorem g_1224 : Cond.selects RJ4 yJ5_isLatin1_aae02 yJ5_isLatin1_aae02 ∈ GT := GT_at (i := 1224) (by decide +kernel) rfl
theorem g_1225 : Cond.code yJ5_isLatin1_aae02 cJ5_isLatin1_aae02 1 (some .boolean) ∈ GT := GT_at (i := 1225) (by decide +kernel) rfl
theorem g_1226 : Cond.methodLink RJ5 191 yJ1_canEncode_fc78d ∈ GT := GT_at (i := 1226) (by decide +kernel) rfl
theorem g_1227 : Cond.static yJ1_canEncode_fc78d ∈ GT := GT_at (i := 1227) (by decide +kernel) rfl
theorem g_1228 : Cond.code yJ1_canEncode_fc78d cJ1_canEncode_fc78d 1 (some .boolean) ∈ GT := GT_at (i := 1228) (by decide +kernel) rfl
theorem g_1229 : Cond.methodLink RJ5 195 yJ5_inflate_da8c8 ∈ GT := GT_at (i := 1229) (by decide +kernel) rfl
theorem g_1231 : Cond.instanceMethod yJ5_inflate_da8c8 ∈ GT := GT_at (i := 1231) (by decide +kernel) rfl
theorem g_1232 : Cond.code yJ5_inflate_da8c8 cJ5_inflate_da8c8 2 (none) ∈ GT := GT_at (i := 1232) (by decide +kernel) rfl
theorem g_1233 : Cond.methodLink RJ5 125 yJ1_inflate_0e8fd ∈ GT := GT_at (i := 1233) (by decide +kernel) rfl
theorem g_1234 : Cond.static yJ1_inflate_0e8fd ∈ GT := GT_at (i := 1234) (by decide +kernel) rfl
theorem g_1235 : Cond.code yJ1_inflate_0e8fd cJ1_inflate_0e8fd 5 (none) ∈ GT := GT_at (i := 1235) (by decide +kernel) rfl
theorem g_1236 : Cond.methodLink RJ1 240 yJ2_inflate_0e8fd ∈ GT := GT_at (i := 1236) (by decide +kernel) rfl
theorem g_1237 : Cond.static yJ2_inflate_0e8fd ∈ GT := GT_at (i := 1237) (by decide +kernel) rfl
theorem g_1238 : Cond.code yJ2_inflate_0e8fd cJ2_inflate_0e8fd 6 (none) ∈ GT := GT_at (i := 1238) (by decide +kernel) rfl
theorem g_1239 : Cond.methodLink RJ2 173 yJ2_checkBoundsOffCount_d044e ∈ GT := GT_at (i := 1239) (by decide +kernel) rfl
theorem g_1240 : Cond.static yJ2_checkBoundsOffCount_d044e ∈ GT := GT_at (i := 1240) (by decide +kernel) rfl
theorem g_1241 : Cond.code yJ2_checkBoundsOffCount_d044e cJ2_checkBoundsOffCount_d044e 3 (none) ∈ GT := GT_at (i := 1241) (by decide +kernel) rfl
theorem g_1242 : Cond.methodLink RJ2 419 yJ0_checkBoundsOffCount_cabcc ∈ GT := GT_at (i := 1242) (by decide +kernel) rfl
theorem g_1243 : Cond.static yJ0_checkBoundsOffCount_cabcc ∈ GT := GT_at (i := 1243) (by decide +kernel) rfl
theorem g_1244 : Cond.code yJ0_checkBoundsOffCount_cabcc cJ0_checkBoundsOffCount_cabcc 3 (some .int) ∈ GT := GT_at (i := 1244) (by decide +kernel) rfl
theorem g_1245 : Cond.methodLink RJ0 1065 yJ3_checkFromIndexSize_8c36e ∈ GT := GT_at (i := 1245) (by decide +kernel) rfl
theorem g_1246 : Cond.static yJ3_checkFromIndexSize_8c36e ∈ GT := GT_at (i := 1246) (by decide +kernel) rfl
theorem g_1247 : Cond.code yJ3_checkFromIndexSize_8c36e cJ3_checkFromIndexSize_8c36e 4 (some .int) ∈ GT := GT_at (i := 1247) (by decide +kernel) rfl
theorem g_1248 : Cond.methodLink RJ2 111 yJ2_putChar_b72d1 ∈ GT := GT_at (i := 1248) (by decide +kernel) rfl
theorem g_1249 : Cond.static yJ2_putChar_b72d1 ∈ GT := GT_at (i := 1249) (by decide +kernel) rfl
theorem g_1250 : Cond.code yJ2_putChar_b72d1 cJ2_putChar_b72d1 3 (none) ∈ GT := GT_at (i := 1250) (by decide +kernel) rfl
theorem g_1251 : Cond.methodLink RJ5 197 yJ2_putCharSB_b72d1 ∈ GT := GT_at (i := 1251) (by decide +kernel) rfl
theorem g_1252 : Cond.static yJ2_putCharSB_b72d1 ∈ GT := GT_at (i := 1252) (by decide +kernel) rfl
theorem g_1253 : Cond.code yJ2_putCharSB_b72d1 cJ2_putCharSB_b72d1 3 (none) ∈ GT := GT_at (i := 1253) (by decide +kernel) rfl
theorem g_1254 : Cond.methodLink RL 166 yJ4_toString_0e30d ∈ GT := GT_at (i := 1254) (by decide +kernel) rfl
theorem g_1255 : Cond.instanceMethod yJ4_toString_0e30d ∈ GT := GT_at (i := 1255) (by decide +kernel) rfl
theorem g_1256 : Cond.selects RJ4 yJ4_toString_0e30d yJ4_toString_0e30d ∈ GT := GT_at (i := 1256) (by decide +kernel) rfl
theorem g_1257 : Cond.code yJ4_toString_0e30d cJ4_toString_0e30d 1 (some (.object "java/lang/String")) ∈ GT := GT_at (i := 1257) (by decide +kernel) rfl
theorem g_1258 : Cond.classLink RJ4 18 RJ0 ∈ GT := GT_at (i := 1258) (by decide +kernel) rfl
theorem g_1259 : Cond.methodLink RJ4 137 yJ0_init_81219 ∈ GT := GT_at (i := 1259) (by decide +kernel) rfl
theorem g_1260 : Cond.instanceMethod yJ0_init_81219 ∈ GT := GT_at (i := 1260) (by decide +kernel) rfl
theorem g_1261 : Cond.code yJ0_init_81219 cJ0_init_81219 2 (none) ∈ GT := GT_at (i := 1261) (by decide +kernel) rfl
theorem g_1262 : Cond.methodLink RJ0 489 yJ0_init_db425 ∈ GT := GT_at (i := 1262) (by decide +kernel) rfl
theorem g_1263 : Cond.instanceMethod yJ0_init_db425 ∈ GT := GT_at (i := 1263) (by decide +kernel) rfl
theorem g_1264 : Cond.code yJ0_init_db425 cJ0_init_db425 5 (none) ∈ GT := GT_at (i := 1264) (by decide +kernel) rfl
theorem g_1265 : Cond.methodLink RJ0 1 objectInit ∈ GT := GT_at (i := 1265) (by decide +kernel) rfl
theorem g_1266 : Cond.methodLink RJ0 552 yJ5_getValue_6d5f1 ∈ GT := GT_at (i := 1266) (by decide +kernel) rfl
theorem g_1267 : Cond.instanceMethod yJ5_getValue_6d5f1 ∈ GT := GT_at (i := 1267) (by decide +kernel) rfl
theorem g_1268 : Cond.sameMethod "java/lang/AbstractStringBuilder" "java/lang/AbstractStringBuilder" "getValue" "()[B" ∈ GT := GT_at (i := 1268) (by decide +kernel) rfl
theorem g_1269 : Cond.selects RJ4 yJ5_getValue_6d5f1 yJ5_getValue_6d5f1 ∈ GT := GT_at (i := 1269) (by decide +kernel) rfl
theorem g_1270 : Cond.code yJ5_getValue_6d5f1 cJ5_getValue_6d5f1 1 (some (.array .byte)) ∈ GT := GT_at (i := 1270) (by decide +kernel) rfl
theorem g_1271 : Cond.methodLink RJ0 549 yJ5_length_8abf5 ∈ GT := GT_at (i := 1271) (by decide +kernel) rfl
theorem g_1272 : Cond.instanceMethod yJ5_length_8abf5 ∈ GT := GT_at (i := 1272) (by decide +kernel) rfl
theorem g_1273 : Cond.sameMethod "java/lang/AbstractStringBuilder" "java/lang/AbstractStringBuilder" "length" "()I" ∈ GT := GT_at (i := 1273) (by decide +kernel) rfl
theorem g_1274 : Cond.selects RJ4 yJ5_length_8abf5 yJ4_length_8abf5 ∈ GT := GT_at (i := 1274) (by decide +kernel) rfl
theorem g_1275 : Cond.instanceMethod yJ4_length_8abf5 ∈ GT := GT_at (i := 1275) (by decide +kernel) rfl
theorem g_1276 : Cond.code yJ4_length_8abf5 cJ4_length_8abf5 1 (some .int) ∈ GT := GT_at (i := 1276) (by decide +kernel) rfl
theorem g_1277 : Cond.methodLink RJ4 343 yJ5_length_8abf5 ∈ GT := GT_at (i := 1277) (by decide +kernel) rfl
theorem g_1278 : Cond.code yJ5_length_8abf5 cJ5_length_8abf5 1 (some .int) ∈ GT := GT_at (i := 1278) (by decide +kernel) rfl
theorem g_1279 : Cond.methodLink RJ0 1047 yJ5_isLatin1_aae02 ∈ GT := GT_at (i := 1279) (by decide +kernel) rfl
theorem g_1280 : Cond.methodLink RJ0 54 yJ7_copyOfRange_39247 ∈ GT := GT_at (i := 1280) (by decide +kernel) rfl
theorem g_1281 : Cond.static yJ7_copyOfRange_39247 ∈ GT := GT_at (i := 1281) (by decide +kernel) rfl
theorem g_1282 : Cond.code yJ7_copyOfRange_39247 cJ7_copyOfRange_39247 3 (some (.array .byte)) ∈ GT := GT_at (i := 1282) (by decide +kernel) rfl
theorem g_1283 : Cond.methodLink RJ7 339 yJ7_copyOfRangeByte_39247 ∈ GT := GT_at (i := 1283) (by decide +kernel) rfl
theorem g_1284 : Cond.static yJ7_copyOfRangeByte_39247 ∈ GT := GT_at (i := 1284) (by decide +kernel) rfl
theorem g_1285 : Cond.code yJ7_copyOfRangeByte_39247 cJ7_copyOfRangeByte_39247 5 (some (.array .byte)) ∈ GT := GT_at (i := 1285) (by decide +kernel) rfl
theorem g_1286 : Cond.methodLink RJ7 343 yJ7_checkLength_df160 ∈ GT := GT_at (i := 1286) (by decide +kernel) rfl
theorem g_1287 : Cond.static yJ7_checkLength_df160 ∈ GT := GT_at (i := 1287) (by decide +kernel) rfl
theorem g_1288 : Cond.code yJ7_checkLength_df160 cJ7_checkLength_df160 2 (none) ∈ GT := GT_at (i := 1288) (by decide +kernel) rfl
theorem g_1289 : Cond.classLink RJ7 43 "java/lang/IllegalArgumentException" ∈ GT := GT_at (i := 1289) (by decide +kernel) rfl
theorem g_1290 : Cond.classLink RJ7 45 RJ4 ∈ GT := GT_at (i := 1290) (by decide +kernel) rfl
theorem g_1291 : Cond.methodLink RJ7 47 yJ4_init_da8c8 ∈ GT := GT_at (i := 1291) (by decide +kernel) rfl
theorem g_1292 : Cond.methodLink RJ7 54 yJ4_append_bf812 ∈ GT := GT_at (i := 1292) (by decide +kernel) rfl
theorem g_1293 : Cond.instanceMethod yJ4_append_bf812 ∈ GT := GT_at (i := 1293) (by decide +kernel) rfl
theorem g_1294 : Cond.selects RJ4 yJ4_append_bf812 yJ4_append_bf812 ∈ GT := GT_at (i := 1294) (by decide +kernel) rfl
theorem g_1295 : Cond.code yJ4_append_bf812 cJ4_append_bf812 2 (some (.object "java/lang/StringBuilder")) ∈ GT := GT_at (i := 1295) (by decide +kernel) rfl
theorem g_1296 : Cond.methodLink RJ4 53 yJ5_append_c97b9 ∈ GT := GT_at (i := 1296) (by decide +kernel) rfl
theorem g_1297 : Cond.instanceMethod yJ5_append_c97b9 ∈ GT := GT_at (i := 1297) (by decide +kernel) rfl
theorem g_1298 : Cond.code yJ5_append_c97b9 cJ5_append_c97b9 4 (some (.object "java/lang/AbstractStringBuilder")) ∈ GT := GT_at (i := 1298) (by decide +kernel) rfl
theorem g_1299 : Cond.methodLink RJ5 245 yJ6_stringSize_0f7a4 ∈ GT := GT_at (i := 1299) (by decide +kernel) rfl
theorem g_1300 : Cond.static yJ6_stringSize_0f7a4 ∈ GT := GT_at (i := 1300) (by decide +kernel) rfl
theorem g_1301 : Cond.code yJ6_stringSize_0f7a4 cJ6_stringSize_0f7a4 4 (some .int) ∈ GT := GT_at (i := 1301) (by decide +kernel) rfl
theorem g_1302 : Cond.methodLink RJ5 248 yJ6_getChars_ba4f3 ∈ GT := GT_at (i := 1302) (by decide +kernel) rfl
theorem g_1303 : Cond.static yJ6_getChars_ba4f3 ∈ GT := GT_at (i := 1303) (by decide +kernel) rfl
theorem g_1304 : Cond.code yJ6_getChars_ba4f3 cJ6_getChars_ba4f3 7 (some .int) ∈ GT := GT_at (i := 1304) (by decide +kernel) rfl
theorem g_1305 : Cond.fieldLink RJ6 83 "java/lang/Integer" "DigitOnes" "[B" ∈ GT := GT_at (i := 1305) (by decide +kernel) rfl
theorem g_1307 : Cond.fieldLink RJ6 87 "java/lang/Integer" "DigitTens" "[B" ∈ GT := GT_at (i := 1307) (by decide +kernel) rfl
theorem g_1309 : Cond.methodLink RJ5 251 yJ2_getChars_46870 ∈ GT := GT_at (i := 1309) (by decide +kernel) rfl
theorem g_1310 : Cond.static yJ2_getChars_46870 ∈ GT := GT_at (i := 1310) (by decide +kernel) rfl
theorem g_1311 : Cond.code yJ2_getChars_46870 cJ2_getChars_46870 5 (some .int) ∈ GT := GT_at (i := 1311) (by decide +kernel) rfl
theorem g_1312 : Cond.methodLink RJ2 393 yJ2_getChars_ba4f3 ∈ GT := GT_at (i := 1312) (by decide +kernel) rfl
theorem g_1313 : Cond.static yJ2_getChars_ba4f3 ∈ GT := GT_at (i := 1313) (by decide +kernel) rfl
theorem g_1314 : Cond.code yJ2_getChars_ba4f3 cJ2_getChars_ba4f3 7 (some .int) ∈ GT := GT_at (i := 1314) (by decide +kernel) rfl
theorem g_1315 : Cond.fieldLink RJ2 403 "java/lang/Integer" "DigitOnes" "[B" ∈ GT := GT_at (i := 1315) (by decide +kernel) rfl
theorem g_1316 : Cond.fieldLink RJ2 407 "java/lang/Integer" "DigitTens" "[B" ∈ GT := GT_at (i := 1316) (by decide +kernel) rfl
theorem g_1318 : Cond.methodLink RJ7 50 yJ4_append_15ec4 ∈ GT := GT_at (i := 1318) (by decide +kernel) rfl
theorem g_1319 : Cond.instanceMethod yJ4_append_15ec4 ∈ GT := GT_at (i := 1319) (by decide +kernel) rfl
theorem g_1320 : Cond.selects RJ4 yJ4_append_15ec4 yJ4_append_15ec4 ∈ GT := GT_at (i := 1320) (by decide +kernel) rfl
theorem g_1321 : Cond.code yJ4_append_15ec4 cJ4_append_15ec4 2 (some (.object "java/lang/StringBuilder")) ∈ GT := GT_at (i := 1321) (by decide +kernel) rfl
theorem g_1322 : Cond.methodLink RJ4 29 yJ5_append_cf1ce ∈ GT := GT_at (i := 1322) (by decide +kernel) rfl
theorem g_1323 : Cond.instanceMethod yJ5_append_cf1ce ∈ GT := GT_at (i := 1323) (by decide +kernel) rfl
theorem g_1324 : Cond.code yJ5_append_cf1ce cJ5_append_cf1ce 3 (some (.object "java/lang/AbstractStringBuilder")) ∈ GT := GT_at (i := 1324) (by decide +kernel) rfl
theorem g_1325 : Cond.methodLink RJ5 204 yJ5_appendNull_278bc ∈ GT := GT_at (i := 1325) (by decide +kernel) rfl
theorem g_1327 : Cond.instanceMethod yJ5_appendNull_278bc ∈ GT := GT_at (i := 1327) (by decide +kernel) rfl
theorem g_1328 : Cond.code yJ5_appendNull_278bc cJ5_appendNull_278bc 3 (some (.object "java/lang/AbstractStringBuilder")) ∈ GT := GT_at (i := 1328) (by decide +kernel) rfl
theorem g_1329 : Cond.methodLink RJ5 226 yJ2_putCharsAt_cd4e5 ∈ GT := GT_at (i := 1329) (by decide +kernel) rfl
theorem g_1330 : Cond.static yJ2_putCharsAt_cd4e5 ∈ GT := GT_at (i := 1330) (by decide +kernel) rfl
theorem g_1331 : Cond.code yJ2_putCharsAt_cd4e5 cJ2_putCharsAt_cd4e5 7 (some .int) ∈ GT := GT_at (i := 1331) (by decide +kernel) rfl
theorem g_1332 : Cond.methodLink RJ5 32 yJ0_length_8abf5 ∈ GT := GT_at (i := 1332) (by decide +kernel) rfl
theorem g_1333 : Cond.methodLink RJ5 208 yJ5_putStringAt_47b60 ∈ GT := GT_at (i := 1333) (by decide +kernel) rfl
theorem g_1335 : Cond.instanceMethod yJ5_putStringAt_47b60 ∈ GT := GT_at (i := 1335) (by decide +kernel) rfl
theorem g_1336 : Cond.code yJ5_putStringAt_47b60 cJ5_putStringAt_47b60 3 (none) ∈ GT := GT_at (i := 1336) (by decide +kernel) rfl
theorem g_1337 : Cond.methodLink RJ5 397 yJ5_inflateIfNeededFor_a7421 ∈ GT := GT_at (i := 1337) (by decide +kernel) rfl
theorem g_1339 : Cond.instanceMethod yJ5_inflateIfNeededFor_a7421 ∈ GT := GT_at (i := 1339) (by decide +kernel) rfl
theorem g_1340 : Cond.code yJ5_inflateIfNeededFor_a7421 cJ5_inflateIfNeededFor_a7421 2 (none) ∈ GT := GT_at (i := 1340) (by decide +kernel) rfl
theorem g_1341 : Cond.methodLink RJ5 40 yJ0_coder_7d493 ∈ GT := GT_at (i := 1341) (by decide +kernel) rfl
theorem g_1342 : Cond.methodLink RJ5 399 yJ0_getBytes_840e7 ∈ GT := GT_at (i := 1342) (by decide +kernel) rfl
theorem g_1343 : Cond.instanceMethod yJ0_getBytes_840e7 ∈ GT := GT_at (i := 1343) (by decide +kernel) rfl
theorem g_1344 : Cond.selects RJ0 yJ0_getBytes_840e7 yJ0_getBytes_840e7 ∈ GT := GT_at (i := 1344) (by decide +kernel) rfl
theorem g_1345 : Cond.code yJ0_getBytes_840e7 cJ0_getBytes_840e7 4 (none) ∈ GT := GT_at (i := 1345) (by decide +kernel) rfl
theorem g_1346 : Cond.methodLink RJ0 212 arraycopyName ∈ GT := GT_at (i := 1346) (by decide +kernel) rfl
theorem g_1347 : Cond.methodLink RJ0 106 yJ1_inflate_0e8fd ∈ GT := GT_at (i := 1347) (by decide +kernel) rfl
theorem g_1348 : Cond.methodLink RJ7 61 yJ4_toString_0e30d ∈ GT := GT_at (i := 1348) (by decide +kernel) rfl
theorem g_1349 : Cond.methodLink RJ7 65 (⟨"java/lang/IllegalArgumentException", "<init>", "(Ljava/lang/String;)V"⟩ : MethodName) ∈ GT := GT_at (i := 1349) (by decide +kernel) rfl
theorem g_1350 : Cond.methodLink RJ0 1051 yJ2_compress_39247 ∈ GT := GT_at (i := 1350) (by decide +kernel) rfl
theorem g_1351 : Cond.static yJ2_compress_39247 ∈ GT := GT_at (i := 1351) (by decide +kernel) rfl
theorem g_1352 : Cond.code yJ2_compress_39247 cJ2_compress_39247 6 (some (.array .byte)) ∈ GT := GT_at (i := 1352) (by decide +kernel) rfl
theorem g_1353 : Cond.methodLink RJ2 123 yJ2_compress_5af95 ∈ GT := GT_at (i := 1353) (by decide +kernel) rfl
theorem g_1354 : Cond.static yJ2_compress_5af95 ∈ GT := GT_at (i := 1354) (by decide +kernel) rfl
theorem g_1355 : Cond.code yJ2_compress_5af95 cJ2_compress_5af95 7 (some .int) ∈ GT := GT_at (i := 1355) (by decide +kernel) rfl
theorem g_1356 : Cond.methodLink RJ2 126 yJ7_copyOfRange_39247 ∈ GT := GT_at (i := 1356) (by decide +kernel) rfl
theorem g_1357 : Cond.methodLink RJ0 47 yJ2_coderFromArrayLen_85cad ∈ GT := GT_at (i := 1357) (by decide +kernel) rfl
theorem g_1358 : Cond.static yJ2_coderFromArrayLen_85cad ∈ GT := GT_at (i := 1358) (by decide +kernel) rfl
theorem g_1359 : Cond.code yJ2_coderFromArrayLen_85cad cJ2_coderFromArrayLen_85cad 2 (some .byte) ∈ GT := GT_at (i := 1359) (by decide +kernel) rfl
theorem g_1360 : Cond.fieldLink RJ0 9 "java/lang/String" "value" "[B" ∈ GT := GT_at (i := 1360) (by decide +kernel) rfl
theorem g_1361 : Cond.fieldLink RJ0 15 "java/lang/String" "coder" "B" ∈ GT := GT_at (i := 1361) (by decide +kernel) rfl
theorem g_1362 : Cond.lays "java/lang/String" "java/lang/String" "hash" "I" ∈ GT := GT_at (i := 1362) (by decide +kernel) rfl
theorem g_1363 : Cond.soleField "java/lang/String" "hash" ∈ GT := GT_at (i := 1363) (by decide +kernel) rfl
theorem g_1364 : Cond.lays "java/lang/String" "java/lang/String" "hashIsZero" "Z" ∈ GT := GT_at (i := 1364) (by decide +kernel) rfl
theorem g_1365 : Cond.soleField "java/lang/String" "hashIsZero" ∈ GT := GT_at (i := 1365) (by decide +kernel) rfl
theorem g_1366 : Cond.superclass "java/lang/String" "java/lang/Object" ∈ GT := GT_at (i := 1366) (by decide +kernel) rfl
theorem g_1367 : Cond.methodLink RL 249 yJ4_init_a7421 ∈ GT := GT_at (i := 1367) (by decide +kernel) rfl
theorem g_1368 : Cond.instanceMethod yJ4_init_a7421 ∈ GT := GT_at (i := 1368) (by decide +kernel) rfl
theorem g_1369 : Cond.code yJ4_init_a7421 cJ4_init_a7421 2 (none) ∈ GT := GT_at (i := 1369) (by decide +kernel) rfl
theorem g_1370 : Cond.methodLink RJ4 7 yJ5_init_a7421 ∈ GT := GT_at (i := 1370) (by decide +kernel) rfl
theorem g_1371 : Cond.instanceMethod yJ5_init_a7421 ∈ GT := GT_at (i := 1371) (by decide +kernel) rfl
theorem g_1372 : Cond.code yJ5_init_a7421 cJ5_init_a7421 5 (none) ∈ GT := GT_at (i := 1372) (by decide +kernel) rfl
theorem g_1373 : Cond.constant RJ5 38 (2147483631 : Int32) ∈ GT := GT_at (i := 1373) (by decide +kernel) rfl
theorem g_1374 : Cond.methodLink RJ5 43 yJ5_append_cf1ce ∈ GT := GT_at (i := 1374) (by decide +kernel) rfl
theorem g_1375 : Cond.instanceMethod yJ4_append_cf1ce ∈ GT := GT_at (i := 1375) (by decide +kernel) rfl
theorem g_1376 : Cond.code yJ4_append_cf1ce cJ4_append_cf1ce 2 (some (.object "java/lang/AbstractStringBuilder")) ∈ GT := GT_at (i := 1376) (by decide +kernel) rfl
theorem g_1377 : Cond.methodLink RJ4 23 yJ4_append_15ec4 ∈ GT := GT_at (i := 1377) (by decide +kernel) rfl
theorem g_1378 : Cond.methodLink RL 252 yL_describeTank ∈ GT := GT_at (i := 1378) (by decide +kernel) rfl
theorem g_1379 : Cond.static yL_describeTank ∈ GT := GT_at (i := 1379) (by decide +kernel) rfl
theorem g_1380 : Cond.codeWith yL_describeTank cL_describeTank 3 (some .int) [(0, 5, 6, 21)] ∈ GT := GT_at (i := 1380) (by decide +kernel) rfl
theorem g_1381 : Cond.methodLink RL 128 yX9_describeTank ∈ GT := GT_at (i := 1381) (by decide +kernel) rfl
theorem g_1382 : Cond.instanceMethod yX9_describeTank ∈ GT := GT_at (i := 1382) (by decide +kernel) rfl
theorem g_1383 : Cond.selects RX9 yX9_describeTank yX9_describeTank ∈ GT := GT_at (i := 1383) (by decide +kernel) rfl
theorem g_1384 : Cond.code yX9_describeTank cX9_describeTank 3 (some .int) ∈ GT := GT_at (i := 1384) (by decide +kernel) rfl
theorem g_1385 : Cond.methodLink RX9 219 yX7_faultOfTank ∈ GT := GT_at (i := 1385) (by decide +kernel) rfl
theorem g_1386 : Cond.methodLink RX9 234 yX7_frameAt ∈ GT := GT_at (i := 1386) (by decide +kernel) rfl
theorem g_1387 : Cond.methodLink RL 254 yJ4_append_15ec4 ∈ GT := GT_at (i := 1387) (by decide +kernel) rfl
theorem g_1388 : Cond.methodLink RL 257 yL_noteCount ∈ GT := GT_at (i := 1388) (by decide +kernel) rfl
theorem g_1389 : Cond.static yL_noteCount ∈ GT := GT_at (i := 1389) (by decide +kernel) rfl
theorem g_1390 : Cond.codeWith yL_noteCount cL_noteCount 3 (some .int) [(0, 5, 6, 21)] ∈ GT := GT_at (i := 1390) (by decide +kernel) rfl
theorem g_1391 : Cond.methodLink RL 47 yX9_noteCount ∈ GT := GT_at (i := 1391) (by decide +kernel) rfl
theorem g_1392 : Cond.instanceMethod yX9_noteCount ∈ GT := GT_at (i := 1392) (by decide +kernel) rfl
theorem g_1393 : Cond.selects RX9 yX9_noteCount yX9_noteCount ∈ GT := GT_at (i := 1393) (by decide +kernel) rfl
theorem g_1394 : Cond.code yX9_noteCount cX9_noteCount 2 (some .int) ∈ GT := GT_at (i := 1394) (by decide +kernel) rfl
theorem g_1395 : Cond.methodLink RX9 144 yX5_notesOf ∈ GT := GT_at (i := 1395) (by decide +kernel) rfl
theorem g_1396 : Cond.methodLink RL 259 yJ4_append_bf812 ∈ GT := GT_at (i := 1396) (by decide +kernel) rfl
theorem g_1397 : Cond.methodLink RL 262 yL_songLength ∈ GT := GT_at (i := 1397) (by decide +kernel) rfl
theorem g_1398 : Cond.static yL_songLength ∈ GT := GT_at (i := 1398) (by decide +kernel) rfl
theorem g_1399 : Cond.codeWith yL_songLength cL_songLength 3 (some .int) [(0, 5, 6, 21)] ∈ GT := GT_at (i := 1399) (by decide +kernel) rfl
theorem g_1400 : Cond.methodLink RL 50 yX9_songLength ∈ GT := GT_at (i := 1400) (by decide +kernel) rfl
theorem g_1401 : Cond.instanceMethod yX9_songLength ∈ GT := GT_at (i := 1401) (by decide +kernel) rfl
theorem g_1402 : Cond.selects RX9 yX9_songLength yX9_songLength ∈ GT := GT_at (i := 1402) (by decide +kernel) rfl
theorem g_1403 : Cond.code yX9_songLength cX9_songLength 2 (some .int) ∈ GT := GT_at (i := 1403) (by decide +kernel) rfl
theorem g_1404 : Cond.methodLink RL 264 yL_rawSample ∈ GT := GT_at (i := 1404) (by decide +kernel) rfl
theorem g_1405 : Cond.static yL_rawSample ∈ GT := GT_at (i := 1405) (by decide +kernel) rfl
theorem g_1406 : Cond.codeWith yL_rawSample cL_rawSample 4 (some .int) [(0, 6, 7, 21), (0, 6, 10, 45)] ∈ GT := GT_at (i := 1406) (by decide +kernel) rfl
theorem g_1407 : Cond.methodLink RL 53 yX9_rawSample ∈ GT := GT_at (i := 1407) (by decide +kernel) rfl
theorem g_1408 : Cond.instanceMethod yX9_rawSample ∈ GT := GT_at (i := 1408) (by decide +kernel) rfl
theorem g_1409 : Cond.selects RX9 yX9_rawSample yX9_rawSample ∈ GT := GT_at (i := 1409) (by decide +kernel) rfl
theorem g_1410 : Cond.code yX9_rawSample cX9_rawSample 3 (some .int) ∈ GT := GT_at (i := 1410) (by decide +kernel) rfl
theorem g_1411 : Cond.methodLink RX9 150 yX5_faultOfSample ∈ GT := GT_at (i := 1411) (by decide +kernel) rfl
theorem g_1412 : Cond.instanceMethod yX5_faultOfSample ∈ GT := GT_at (i := 1412) (by decide +kernel) rfl
theorem g_1413 : Cond.selects RX5 yX5_faultOfSample yX5_faultOfSample ∈ GT := GT_at (i := 1413) (by decide +kernel) rfl
theorem g_1414 : Cond.code yX5_faultOfSample cX5_faultOfSample 3 (some .int) ∈ GT := GT_at (i := 1414) (by decide +kernel) rfl
theorem g_1415 : Cond.methodLink RX5 46 yX5_hasSample ∈ GT := GT_at (i := 1415) (by decide +kernel) rfl
theorem g_1416 : Cond.instanceMethod yX5_hasSample ∈ GT := GT_at (i := 1416) (by decide +kernel) rfl
theorem g_1417 : Cond.selects RX5 yX5_hasSample yX5_hasSample ∈ GT := GT_at (i := 1417) (by decide +kernel) rfl
theorem g_1418 : Cond.code yX5_hasSample cX5_hasSample 3 (some .boolean) ∈ GT := GT_at (i := 1418) (by decide +kernel) rfl
theorem g_1419 : Cond.methodLink RX9 153 yX5_rawAt ∈ GT := GT_at (i := 1419) (by decide +kernel) rfl
theorem g_1420 : Cond.methodLink RL 266 yX9_storedTotal ∈ GT := GT_at (i := 1420) (by decide +kernel) rfl
theorem g_1421 : Cond.instanceMethod yX9_storedTotal ∈ GT := GT_at (i := 1421) (by decide +kernel) rfl
theorem g_1422 : Cond.selects RX9 yX9_storedTotal yX9_storedTotal ∈ GT := GT_at (i := 1422) (by decide +kernel) rfl
theorem g_1423 : Cond.code yX9_storedTotal cX9_storedTotal 1 (some .int) ∈ GT := GT_at (i := 1423) (by decide +kernel) rfl
theorem g_1424 : Cond.methodLink RL 269 yX9_droppedTotal ∈ GT := GT_at (i := 1424) (by decide +kernel) rfl
theorem g_1425 : Cond.instanceMethod yX9_droppedTotal ∈ GT := GT_at (i := 1425) (by decide +kernel) rfl
theorem g_1426 : Cond.selects RX9 yX9_droppedTotal yX9_droppedTotal ∈ GT := GT_at (i := 1426) (by decide +kernel) rfl
theorem g_1427 : Cond.code yX9_droppedTotal cX9_droppedTotal 1 (some .int) ∈ GT := GT_at (i := 1427) (by decide +kernel) rfl
theorem g_1428 : Cond.methodLink RL 272 yX9_drainedTotal ∈ GT := GT_at (i := 1428) (by decide +kernel) rfl
theorem g_1429 : Cond.instanceMethod yX9_drainedTotal ∈ GT := GT_at (i := 1429) (by decide +kernel) rfl
theorem g_1430 : Cond.selects RX9 yX9_drainedTotal yX9_drainedTotal ∈ GT := GT_at (i := 1430) (by decide +kernel) rfl
theorem g_1431 : Cond.code yX9_drainedTotal cX9_drainedTotal 1 (some .int) ∈ GT := GT_at (i := 1431) (by decide +kernel) rfl
theorem g_1432 : Cond.methodLink RL 371 yL_stock ∈ GT := GT_at (i := 1432) (by decide +kernel) rfl
theorem g_1433 : Cond.static yL_stock ∈ GT := GT_at (i := 1433) (by decide +kernel) rfl
theorem g_1434 : Cond.code yL_stock cL_stock 2 (some .int) ∈ GT := GT_at (i := 1434) (by decide +kernel) rfl
theorem g_1435 : Cond.methodLink RL 389 yL_samples ∈ GT := GT_at (i := 1435) (by decide +kernel) rfl
theorem g_1436 : Cond.static yL_samples ∈ GT := GT_at (i := 1436) (by decide +kernel) rfl
theorem g_1437 : Cond.code yL_samples cL_samples 17 (some .boolean) ∈ GT := GT_at (i := 1437) (by decide +kernel) rfl
theorem g_1438 : Cond.methodLink RL 286 yL_filtered ∈ GT := GT_at (i := 1438) (by decide +kernel) rfl
theorem g_1439 : Cond.static yL_filtered ∈ GT := GT_at (i := 1439) (by decide +kernel) rfl
theorem g_1440 : Cond.code yL_filtered cL_filtered 6 (some (.array .int)) ∈ GT := GT_at (i := 1440) (by decide +kernel) rfl
theorem g_1441 : Cond.methodLink RL 278 yL_filterKind ∈ GT := GT_at (i := 1441) (by decide +kernel) rfl
theorem g_1442 : Cond.static yL_filterKind ∈ GT := GT_at (i := 1442) (by decide +kernel) rfl
theorem g_1443 : Cond.codeWith yL_filterKind cL_filterKind 3 (some .int) [(0, 5, 6, 21)] ∈ GT := GT_at (i := 1443) (by decide +kernel) rfl
theorem g_1444 : Cond.methodLink RL 31 yX9_filterKind ∈ GT := GT_at (i := 1444) (by decide +kernel) rfl
theorem g_1445 : Cond.instanceMethod yX9_filterKind ∈ GT := GT_at (i := 1445) (by decide +kernel) rfl
theorem g_1446 : Cond.selects RX9 yX9_filterKind yX9_filterKind ∈ GT := GT_at (i := 1446) (by decide +kernel) rfl
theorem g_1447 : Cond.code yX9_filterKind cX9_filterKind 2 (some .char) ∈ GT := GT_at (i := 1447) (by decide +kernel) rfl
theorem g_1448 : Cond.methodLink RL 280 yL_filterParameter ∈ GT := GT_at (i := 1448) (by decide +kernel) rfl
theorem g_1449 : Cond.static yL_filterParameter ∈ GT := GT_at (i := 1449) (by decide +kernel) rfl
theorem g_1450 : Cond.codeWith yL_filterParameter cL_filterParameter 3 (some .int) [(0, 5, 6, 21)] ∈ GT := GT_at (i := 1450) (by decide +kernel) rfl
theorem g_1451 : Cond.methodLink RL 35 yX9_filterParameter ∈ GT := GT_at (i := 1451) (by decide +kernel) rfl
theorem g_1452 : Cond.instanceMethod yX9_filterParameter ∈ GT := GT_at (i := 1452) (by decide +kernel) rfl
theorem g_1453 : Cond.selects RX9 yX9_filterParameter yX9_filterParameter ∈ GT := GT_at (i := 1453) (by decide +kernel) rfl
theorem g_1454 : Cond.code yX9_filterParameter cX9_filterParameter 2 (some .int) ∈ GT := GT_at (i := 1454) (by decide +kernel) rfl
theorem g_1455 : Cond.methodLink RL 282 yL_given ∈ GT := GT_at (i := 1455) (by decide +kernel) rfl
theorem g_1456 : Cond.static yL_given ∈ GT := GT_at (i := 1456) (by decide +kernel) rfl
theorem g_1457 : Cond.code yL_given cL_given 7 (some .int) ∈ GT := GT_at (i := 1457) (by decide +kernel) rfl
theorem g_1458 : Cond.methodLink RL 275 yJ9_min_7cf53 ∈ GT := GT_at (i := 1458) (by decide +kernel) rfl
theorem g_1459 : Cond.methodLink RL 290 yJ9_abs_0f7a4 ∈ GT := GT_at (i := 1459) (by decide +kernel) rfl
theorem g_1460 : Cond.methodLink RL 293 yJ6_signum_0f7a4 ∈ GT := GT_at (i := 1460) (by decide +kernel) rfl
theorem g_1461 : Cond.static yJ6_signum_0f7a4 ∈ GT := GT_at (i := 1461) (by decide +kernel) rfl
theorem g_1462 : Cond.code yJ6_signum_0f7a4 cJ6_signum_0f7a4 1 (some .int) ∈ GT := GT_at (i := 1462) (by decide +kernel) rfl
theorem g_1463 : Cond.methodLink RL 298 yL_sample ∈ GT := GT_at (i := 1463) (by decide +kernel) rfl
theorem g_1464 : Cond.static yL_sample ∈ GT := GT_at (i := 1464) (by decide +kernel) rfl
theorem g_1465 : Cond.codeWith yL_sample cL_sample 4 (some .int) [(0, 6, 7, 21), (0, 6, 10, 45)] ∈ GT := GT_at (i := 1465) (by decide +kernel) rfl
theorem g_1466 : Cond.methodLink RL 56 yX9_sample ∈ GT := GT_at (i := 1466) (by decide +kernel) rfl
theorem g_1467 : Cond.instanceMethod yX9_sample ∈ GT := GT_at (i := 1467) (by decide +kernel) rfl
theorem g_1468 : Cond.selects RX9 yX9_sample yX9_sample ∈ GT := GT_at (i := 1468) (by decide +kernel) rfl
theorem g_1469 : Cond.code yX9_sample cX9_sample 3 (some .int) ∈ GT := GT_at (i := 1469) (by decide +kernel) rfl
theorem g_1470 : Cond.methodLink RX9 156 yX9_filteredOrZero ∈ GT := GT_at (i := 1470) (by decide +kernel) rfl
theorem g_1472 : Cond.instanceMethod yX9_filteredOrZero ∈ GT := GT_at (i := 1472) (by decide +kernel) rfl
theorem g_1473 : Cond.code yX9_filteredOrZero cX9_filteredOrZero 3 (some .int) ∈ GT := GT_at (i := 1473) (by decide +kernel) rfl
theorem g_1474 : Cond.methodLink RX9 166 yX5_hasSample ∈ GT := GT_at (i := 1474) (by decide +kernel) rfl
theorem g_1475 : Cond.methodLink RL 300 yL_sampleByFilter ∈ GT := GT_at (i := 1475) (by decide +kernel) rfl
theorem g_1476 : Cond.static yL_sampleByFilter ∈ GT := GT_at (i := 1476) (by decide +kernel) rfl
theorem g_1477 : Cond.codeWith yL_sampleByFilter cL_sampleByFilter 4 (some .int) [(0, 6, 7, 21), (0, 6, 10, 45)] ∈ GT := GT_at (i := 1477) (by decide +kernel) rfl
theorem g_1478 : Cond.methodLink RL 59 yX9_sampleByFilter ∈ GT := GT_at (i := 1478) (by decide +kernel) rfl
theorem g_1479 : Cond.instanceMethod yX9_sampleByFilter ∈ GT := GT_at (i := 1479) (by decide +kernel) rfl
theorem g_1480 : Cond.selects RX9 yX9_sampleByFilter yX9_sampleByFilter ∈ GT := GT_at (i := 1480) (by decide +kernel) rfl
theorem g_1481 : Cond.code yX9_sampleByFilter cX9_sampleByFilter 3 (some .int) ∈ GT := GT_at (i := 1481) (by decide +kernel) rfl
theorem g_1482 : Cond.methodLink RL 302 yL_mixedSample ∈ GT := GT_at (i := 1482) (by decide +kernel) rfl
theorem g_1483 : Cond.static yL_mixedSample ∈ GT := GT_at (i := 1483) (by decide +kernel) rfl
theorem g_1484 : Cond.codeWith yL_mixedSample cL_mixedSample 5 (some .int) [(0, 7, 8, 21), (0, 7, 12, 45)] ∈ GT := GT_at (i := 1484) (by decide +kernel) rfl
theorem g_1485 : Cond.methodLink RL 62 yX9_mixedSample ∈ GT := GT_at (i := 1485) (by decide +kernel) rfl
theorem g_1486 : Cond.instanceMethod yX9_mixedSample ∈ GT := GT_at (i := 1486) (by decide +kernel) rfl
theorem g_1487 : Cond.selects RX9 yX9_mixedSample yX9_mixedSample ∈ GT := GT_at (i := 1487) (by decide +kernel) rfl
theorem g_1488 : Cond.code yX9_mixedSample cX9_mixedSample 4 (some .int) ∈ GT := GT_at (i := 1488) (by decide +kernel) rfl
theorem g_1490 : Cond.methodLink RL 310 yL_signChanges ∈ GT := GT_at (i := 1490) (by decide +kernel) rfl
theorem g_1491 : Cond.static yL_signChanges ∈ GT := GT_at (i := 1491) (by decide +kernel) rfl
theorem g_1492 : Cond.codeWith yL_signChanges cL_signChanges 3 (some .int) [(0, 5, 6, 21)] ∈ GT := GT_at (i := 1492) (by decide +kernel) rfl
theorem g_1493 : Cond.methodLink RL 75 yX9_signChanges ∈ GT := GT_at (i := 1493) (by decide +kernel) rfl
theorem g_1494 : Cond.instanceMethod yX9_signChanges ∈ GT := GT_at (i := 1494) (by decide +kernel) rfl
theorem g_1495 : Cond.selects RX9 yX9_signChanges yX9_signChanges ∈ GT := GT_at (i := 1495) (by decide +kernel) rfl
theorem g_1496 : Cond.code yX9_signChanges cX9_signChanges 7 (some .int) ∈ GT := GT_at (i := 1496) (by decide +kernel) rfl
theorem g_1497 : Cond.methodLink RX9 190 yX9_signOf ∈ GT := GT_at (i := 1497) (by decide +kernel) rfl
theorem g_1498 : Cond.static yX9_signOf ∈ GT := GT_at (i := 1498) (by decide +kernel) rfl
theorem g_1499 : Cond.code yX9_signOf cX9_signOf 1 (some .int) ∈ GT := GT_at (i := 1499) (by decide +kernel) rfl
theorem g_1500 : Cond.methodLink RL 315 yL_frameCount ∈ GT := GT_at (i := 1500) (by decide +kernel) rfl
theorem g_1501 : Cond.static yL_frameCount ∈ GT := GT_at (i := 1501) (by decide +kernel) rfl
theorem g_1502 : Cond.codeWith yL_frameCount cL_frameCount 3 (some .int) [(0, 5, 6, 21)] ∈ GT := GT_at (i := 1502) (by decide +kernel) rfl
theorem g_1503 : Cond.methodLink RL 102 yX9_frameCount ∈ GT := GT_at (i := 1503) (by decide +kernel) rfl
theorem g_1504 : Cond.instanceMethod yX9_frameCount ∈ GT := GT_at (i := 1504) (by decide +kernel) rfl
theorem g_1505 : Cond.selects RX9 yX9_frameCount yX9_frameCount ∈ GT := GT_at (i := 1505) (by decide +kernel) rfl
theorem g_1506 : Cond.code yX9_frameCount cX9_frameCount 2 (some .int) ∈ GT := GT_at (i := 1506) (by decide +kernel) rfl
theorem g_1507 : Cond.methodLink RL 393 yL_tanks ∈ GT := GT_at (i := 1507) (by decide +kernel) rfl
theorem g_1508 : Cond.static yL_tanks ∈ GT := GT_at (i := 1508) (by decide +kernel) rfl
theorem g_1509 : Cond.code yL_tanks cL_tanks 8 (some .boolean) ∈ GT := GT_at (i := 1509) (by decide +kernel) rfl
theorem g_1510 : Cond.methodLink RL 317 yL_level ∈ GT := GT_at (i := 1510) (by decide +kernel) rfl
theorem g_1511 : Cond.static yL_level ∈ GT := GT_at (i := 1511) (by decide +kernel) rfl
theorem g_1512 : Cond.codeWith yL_level cL_level 3 (some .int) [(0, 5, 6, 21)] ∈ GT := GT_at (i := 1512) (by decide +kernel) rfl
theorem g_1513 : Cond.methodLink RL 96 yX9_level ∈ GT := GT_at (i := 1513) (by decide +kernel) rfl
theorem g_1514 : Cond.instanceMethod yX9_level ∈ GT := GT_at (i := 1514) (by decide +kernel) rfl
theorem g_1515 : Cond.selects RX9 yX9_level yX9_level ∈ GT := GT_at (i := 1515) (by decide +kernel) rfl
theorem g_1516 : Cond.code yX9_level cX9_level 2 (some .int) ∈ GT := GT_at (i := 1516) (by decide +kernel) rfl
theorem g_1518 : Cond.methodLink RL 321 yL_capacity ∈ GT := GT_at (i := 1518) (by decide +kernel) rfl
theorem g_1519 : Cond.static yL_capacity ∈ GT := GT_at (i := 1519) (by decide +kernel) rfl
theorem g_1520 : Cond.codeWith yL_capacity cL_capacity 3 (some .int) [(0, 5, 6, 21)] ∈ GT := GT_at (i := 1520) (by decide +kernel) rfl
theorem g_1521 : Cond.methodLink RL 90 yX9_capacity ∈ GT := GT_at (i := 1521) (by decide +kernel) rfl
theorem g_1522 : Cond.instanceMethod yX9_capacity ∈ GT := GT_at (i := 1522) (by decide +kernel) rfl
theorem g_1523 : Cond.selects RX9 yX9_capacity yX9_capacity ∈ GT := GT_at (i := 1523) (by decide +kernel) rfl
theorem g_1524 : Cond.code yX9_capacity cX9_capacity 2 (some .int) ∈ GT := GT_at (i := 1524) (by decide +kernel) rfl
theorem g_1525 : Cond.methodLink RL 323 yL_tuning ∈ GT := GT_at (i := 1525) (by decide +kernel) rfl
theorem g_1526 : Cond.static yL_tuning ∈ GT := GT_at (i := 1526) (by decide +kernel) rfl
theorem g_1527 : Cond.codeWith yL_tuning cL_tuning 3 (some .int) [(0, 5, 6, 21)] ∈ GT := GT_at (i := 1527) (by decide +kernel) rfl
theorem g_1528 : Cond.methodLink RL 93 yX9_tuning ∈ GT := GT_at (i := 1528) (by decide +kernel) rfl
theorem g_1529 : Cond.instanceMethod yX9_tuning ∈ GT := GT_at (i := 1529) (by decide +kernel) rfl
theorem g_1530 : Cond.selects RX9 yX9_tuning yX9_tuning ∈ GT := GT_at (i := 1530) (by decide +kernel) rfl
theorem g_1531 : Cond.code yX9_tuning cX9_tuning 2 (some .int) ∈ GT := GT_at (i := 1531) (by decide +kernel) rfl
theorem g_1534 : Cond.methodLink RL 329 yL_frameLoudness ∈ GT := GT_at (i := 1534) (by decide +kernel) rfl
theorem g_1535 : Cond.static yL_frameLoudness ∈ GT := GT_at (i := 1535) (by decide +kernel) rfl
theorem g_1536 : Cond.codeWith yL_frameLoudness cL_frameLoudness 4 (some .int) [(0, 6, 7, 21), (0, 6, 10, 45)] ∈ GT := GT_at (i := 1536) (by decide +kernel) rfl
theorem g_1537 : Cond.methodLink RL 99 yX9_frameLoudness ∈ GT := GT_at (i := 1537) (by decide +kernel) rfl
theorem g_1538 : Cond.instanceMethod yX9_frameLoudness ∈ GT := GT_at (i := 1538) (by decide +kernel) rfl
theorem g_1539 : Cond.selects RX9 yX9_frameLoudness yX9_frameLoudness ∈ GT := GT_at (i := 1539) (by decide +kernel) rfl
theorem g_1540 : Cond.code yX9_frameLoudness cX9_frameLoudness 3 (some .int) ∈ GT := GT_at (i := 1540) (by decide +kernel) rfl
theorem g_1541 : Cond.methodLink RX9 231 yX7_faultOfFrame ∈ GT := GT_at (i := 1541) (by decide +kernel) rfl
theorem g_1542 : Cond.instanceMethod yX7_faultOfFrame ∈ GT := GT_at (i := 1542) (by decide +kernel) rfl
theorem g_1543 : Cond.selects RX7 yX7_faultOfFrame yX7_faultOfFrame ∈ GT := GT_at (i := 1543) (by decide +kernel) rfl
theorem g_1544 : Cond.code yX7_faultOfFrame cX7_faultOfFrame 3 (some .int) ∈ GT := GT_at (i := 1544) (by decide +kernel) rfl
theorem g_1545 : Cond.methodLink RL 331 yL_tankAtRank ∈ GT := GT_at (i := 1545) (by decide +kernel) rfl
theorem g_1546 : Cond.static yL_tankAtRank ∈ GT := GT_at (i := 1546) (by decide +kernel) rfl
theorem g_1547 : Cond.codeWith yL_tankAtRank cL_tankAtRank 3 (some .int) [(0, 5, 6, 45)] ∈ GT := GT_at (i := 1547) (by decide +kernel) rfl
theorem g_1548 : Cond.methodLink RL 111 yX9_tankAtRank ∈ GT := GT_at (i := 1548) (by decide +kernel) rfl
theorem g_1549 : Cond.instanceMethod yX9_tankAtRank ∈ GT := GT_at (i := 1549) (by decide +kernel) rfl
theorem g_1550 : Cond.selects RX9 yX9_tankAtRank yX9_tankAtRank ∈ GT := GT_at (i := 1550) (by decide +kernel) rfl
theorem g_1551 : Cond.code yX9_tankAtRank cX9_tankAtRank 3 (some .int) ∈ GT := GT_at (i := 1551) (by decide +kernel) rfl
theorem g_1552 : Cond.methodLink RX9 246 yX7_tankBehind ∈ GT := GT_at (i := 1552) (by decide +kernel) rfl
theorem g_1553 : Cond.instanceMethod yX7_tankBehind ∈ GT := GT_at (i := 1553) (by decide +kernel) rfl
theorem g_1554 : Cond.selects RX7 yX7_tankBehind yX7_tankBehind ∈ GT := GT_at (i := 1554) (by decide +kernel) rfl
theorem g_1555 : Cond.code yX7_tankBehind cX7_tankBehind 3 (some .int) ∈ GT := GT_at (i := 1555) (by decide +kernel) rfl
theorem g_1556 : Cond.methodLink RX7 86 yX7_tanksAheadOf ∈ GT := GT_at (i := 1556) (by decide +kernel) rfl
theorem g_1558 : Cond.instanceMethod yX7_tanksAheadOf ∈ GT := GT_at (i := 1558) (by decide +kernel) rfl
theorem g_1559 : Cond.code yX7_tanksAheadOf cX7_tanksAheadOf 4 (some .int) ∈ GT := GT_at (i := 1559) (by decide +kernel) rfl
theorem g_1560 : Cond.methodLink RX7 89 yX7_isAhead ∈ GT := GT_at (i := 1560) (by decide +kernel) rfl
theorem g_1562 : Cond.instanceMethod yX7_isAhead ∈ GT := GT_at (i := 1562) (by decide +kernel) rfl
theorem g_1563 : Cond.code yX7_isAhead cX7_isAhead 3 (some .boolean) ∈ GT := GT_at (i := 1563) (by decide +kernel) rfl
theorem g_1565 : Cond.methodLink RL 333 yJ0_equals_9ea2d ∈ GT := GT_at (i := 1565) (by decide +kernel) rfl
theorem g_1566 : Cond.instanceMethod yJ0_equals_9ea2d ∈ GT := GT_at (i := 1566) (by decide +kernel) rfl
theorem g_1567 : Cond.selects RJ0 yJ0_equals_9ea2d yJ0_equals_9ea2d ∈ GT := GT_at (i := 1567) (by decide +kernel) rfl
theorem g_1568 : Cond.code yJ0_equals_9ea2d cJ0_equals_9ea2d 3 (some .boolean) ∈ GT := GT_at (i := 1568) (by decide +kernel) rfl
theorem g_1569 : Cond.classLink RJ0 10 RJ0 ∈ GT := GT_at (i := 1569) (by decide +kernel) rfl
theorem g_1570 : Cond.methodLink RJ0 541 yJ1_equals_b5fdf ∈ GT := GT_at (i := 1570) (by decide +kernel) rfl
theorem g_1571 : Cond.static yJ1_equals_b5fdf ∈ GT := GT_at (i := 1571) (by decide +kernel) rfl
theorem g_1572 : Cond.code yJ1_equals_b5fdf cJ1_equals_b5fdf 3 (some .boolean) ∈ GT := GT_at (i := 1572) (by decide +kernel) rfl
theorem g_1574 : Cond.methodLink RL 397 yL_foretold ∈ GT := GT_at (i := 1574) (by decide +kernel) rfl
theorem g_1575 : Cond.static yL_foretold ∈ GT := GT_at (i := 1575) (by decide +kernel) rfl
theorem g_1576 : Cond.code yL_foretold cL_foretold 14 (some .boolean) ∈ GT := GT_at (i := 1576) (by decide +kernel) rfl
theorem g_1577 : Cond.methodLink RL 345 yX9_save ∈ GT := GT_at (i := 1577) (by decide +kernel) rfl
theorem g_1578 : Cond.instanceMethod yX9_save ∈ GT := GT_at (i := 1578) (by decide +kernel) rfl
theorem g_1579 : Cond.selects RX9 yX9_save yX9_save ∈ GT := GT_at (i := 1579) (by decide +kernel) rfl
theorem g_1580 : Cond.code yX9_save cX9_save 1 (some .int) ∈ GT := GT_at (i := 1580) (by decide +kernel) rfl
theorem g_1581 : Cond.methodLink RL 348 yL_frames ∈ GT := GT_at (i := 1581) (by decide +kernel) rfl
theorem g_1582 : Cond.static yL_frames ∈ GT := GT_at (i := 1582) (by decide +kernel) rfl
theorem g_1583 : Cond.code yL_frames cL_frames 5 (some (.array .int)) ∈ GT := GT_at (i := 1583) (by decide +kernel) rfl
theorem g_1584 : Cond.methodLink RL 353 yL_dropsByLevels ∈ GT := GT_at (i := 1584) (by decide +kernel) rfl
theorem g_1585 : Cond.static yL_dropsByLevels ∈ GT := GT_at (i := 1585) (by decide +kernel) rfl
theorem g_1586 : Cond.codeWith yL_dropsByLevels cL_dropsByLevels 3 (some .int) [(0, 5, 6, 21)] ∈ GT := GT_at (i := 1586) (by decide +kernel) rfl
theorem g_1587 : Cond.methodLink RL 108 yX9_dropsByLevels ∈ GT := GT_at (i := 1587) (by decide +kernel) rfl
theorem g_1588 : Cond.instanceMethod yX9_dropsByLevels ∈ GT := GT_at (i := 1588) (by decide +kernel) rfl
theorem g_1589 : Cond.selects RX9 yX9_dropsByLevels yX9_dropsByLevels ∈ GT := GT_at (i := 1589) (by decide +kernel) rfl
theorem g_1590 : Cond.code yX9_dropsByLevels cX9_dropsByLevels 2 (some .int) ∈ GT := GT_at (i := 1590) (by decide +kernel) rfl
theorem g_1591 : Cond.sameMethod "java/lang/Throwable" "java/lang/Throwable" "fillInStackTrace" "(I)Ljava/lang/Throwable;" ∈ GT := GT_at (i := 1591) (by decide +kernel) rfl
theorem g_1592 : Cond.sameMethod "java/lang/AbstractStringBuilder" "java/lang/AbstractStringBuilder" "append" "(C)Ljava/lang/AbstractStringBuilder;" ∈ GT := GT_at (i := 1592) (by decide +kernel) rfl
theorem g_1593 : Cond.sameMethod "java/lang/AbstractStringBuilder" "java/lang/AbstractStringBuilder" "ensureCapacityInternal" "(I)V" ∈ GT := GT_at (i := 1593) (by decide +kernel) rfl
theorem g_1594 : Cond.sameMethod "java/lang/AbstractStringBuilder" "java/lang/AbstractStringBuilder" "newCapacity" "(I)I" ∈ GT := GT_at (i := 1594) (by decide +kernel) rfl
theorem g_1595 : Cond.sameMethod "java/lang/AbstractStringBuilder" "java/lang/AbstractStringBuilder" "inflate" "()V" ∈ GT := GT_at (i := 1595) (by decide +kernel) rfl
theorem g_1596 : Cond.sameMethod "java/lang/AbstractStringBuilder" "java/lang/AbstractStringBuilder" "append" "(I)Ljava/lang/AbstractStringBuilder;" ∈ GT := GT_at (i := 1596) (by decide +kernel) rfl
theorem g_1597 : Cond.sameMethod "java/lang/AbstractStringBuilder" "java/lang/AbstractStringBuilder" "append" "(Ljava/lang/String;)Ljava/lang/AbstractStringBuilder;" ∈ GT := GT_at (i := 1597) (by decide +kernel) rfl
theorem g_1598 : Cond.sameMethod "java/lang/AbstractStringBuilder" "java/lang/AbstractStringBuilder" "appendNull" "()Ljava/lang/AbstractStringBuilder;" ∈ GT := GT_at (i := 1598) (by decide +kernel) rfl
theorem g_1599 : Cond.sameMethod "java/lang/AbstractStringBuilder" "java/lang/AbstractStringBuilder" "putStringAt" "(ILjava/lang/String;)V" ∈ GT := GT_at (i := 1599) (by decide +kernel) rfl
theorem g_1600 : Cond.sameMethod "java/lang/AbstractStringBuilder" "java/lang/AbstractStringBuilder" "inflateIfNeededFor" "(Ljava/lang/String;)V" ∈ GT := GT_at (i := 1600) (by decide +kernel) rfl
theorem g_1601 : Cond.selects RJ4 yJ5_append_cf1ce yJ4_append_cf1ce ∈ GT := GT_at (i := 1601) (by decide +kernel) rfl
theorem n_1602 : Cond.castable "java/lang/ArrayIndexOutOfBoundsException" "java/lang/IndexOutOfBoundsException" ∈ NLW := NLW_at (i := 1602) (by decide +kernel) rfl
theorem n_1603 : Cond.castable "SongRefinery" "java/lang/Object" ∈ NLW := NLW_at (i := 1603) (by decide +kernel) rfl
theorem n_1604 : Cond.castable "SongRefinery$State" "java/lang/Object" ∈ NLW := NLW_at (i := 1604) (by decide +kernel) rfl
theorem n_1605 : Cond.castable "SongRefinery$Chain" "java/lang/Object" ∈ NLW := NLW_at (i := 1605) (by decide +kernel) rfl
theorem n_1606 : Cond.castable "SongRefinery$Songs" "java/lang/Object" ∈ NLW := NLW_at (i := 1606) (by decide +kernel) rfl
theorem n_1607 : Cond.castable "SongRefinery$Tanks" "java/lang/Object" ∈ NLW := NLW_at (i := 1607) (by decide +kernel) rfl
theorem n_1608 : Cond.castable "SongRefinery$History" "java/lang/Object" ∈ NLW := NLW_at (i := 1608) (by decide +kernel) rfl
theorem n_1609 : Cond.castable "SongRefinery$Refining" "java/lang/Object" ∈ NLW := NLW_at (i := 1609) (by decide +kernel) rfl
theorem n_1610 : Cond.castable "SongRefinery$CommandText" "java/lang/Object" ∈ NLW := NLW_at (i := 1610) (by decide +kernel) rfl
theorem n_1611 : Cond.castable "SongRefinery$Line" "java/lang/Object" ∈ NLW := NLW_at (i := 1611) (by decide +kernel) rfl
theorem n_1612 : Cond.castable "java/lang/IllegalStateException" "java/lang/Object" ∈ NLW := NLW_at (i := 1612) (by decide +kernel) rfl
theorem n_1613 : Cond.castable "java/util/NoSuchElementException" "java/lang/Object" ∈ NLW := NLW_at (i := 1613) (by decide +kernel) rfl
theorem n_1614 : Cond.castable "SongRefinery$Word" "java/lang/Object" ∈ NLW := NLW_at (i := 1614) (by decide +kernel) rfl
theorem n_1615 : Cond.castable "java/lang/IllegalArgumentException" "java/lang/Object" ∈ NLW := NLW_at (i := 1615) (by decide +kernel) rfl
theorem n_1616 : Cond.castable "java/lang/ArrayIndexOutOfBoundsException" "java/lang/Object" ∈ NLW := NLW_at (i := 1616) (by decide +kernel) rfl
theorem n_1617 : Cond.castable "java/lang/IndexOutOfBoundsException" "java/lang/Object" ∈ NLW := NLW_at (i := 1617) (by decide +kernel) rfl
theorem n_1618 : Cond.castable "java/lang/ArithmeticException" "java/lang/Object" ∈ NLW := NLW_at (i := 1618) (by decide +kernel) rfl
theorem n_1619 : Cond.castable "SongRefineryLaw$Bits" "java/lang/Object" ∈ NLW := NLW_at (i := 1619) (by decide +kernel) rfl
theorem n_1620 : Cond.castable "java/lang/StringBuilder" "java/lang/Object" ∈ NLW := NLW_at (i := 1620) (by decide +kernel) rfl
theorem n_1621 : Cond.castable "java/lang/String" "java/lang/Object" ∈ NLW := NLW_at (i := 1621) (by decide +kernel) rfl
theorem n_1622 : Cond.castable "java/lang/Throwable" "java/lang/Object" ∈ NLW := NLW_at (i := 1622) (by decide +kernel) rfl
theorem g_1623 : Cond.fieldLink RX1 59 "SongRefinery$Word" "key" "Ljava/lang/String;" ∈ GT := GT_at (i := 1623) (by decide +kernel) rfl
theorem g_1624 : Cond.fieldLink RX1 88 "SongRefinery$Word" "form" "Ljava/lang/String;" ∈ GT := GT_at (i := 1624) (by decide +kernel) rfl
theorem g_1625 : Cond.fieldLink RX1 97 "SongRefinery$Word" "sign" "I" ∈ GT := GT_at (i := 1625) (by decide +kernel) rfl
