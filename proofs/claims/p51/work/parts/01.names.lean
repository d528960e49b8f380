-- ===== PART A: goes FIRST, ahead of the names: the tables' words, and 'selects' of the private methods out of them =====
/-- a private method of a class that the tables say can be made, by its rows of tables_1 -/
def lw_okq (q : MethodName × Nat) : Prop := (q.1.cls ≠ "java/lang/invoke/MethodHandle" ∧ q.1.cls ≠ "java/lang/invoke/VarHandle") ∧ Cond.instantiable q.1.cls q.2 ∈ tables_1 ∧ Cond.privateMethod q.1 ∈ tables_1 ∧ Cond.instanceMethod q.1 ∈ tables_1
theorem lw_p0 : lw_okq (⟨"SongRefinery", "sumOfSquares", "(I)J"⟩, 12) := ⟨⟨by decide +kernel, by decide +kernel⟩, List.mem_of_getElem? (i := 34) (by decide +kernel), List.mem_of_getElem? (i := 255) (by decide +kernel), List.mem_of_getElem? (i := 256) (by decide +kernel)⟩
theorem lw_p1 : lw_okq (⟨"SongRefinery", "sendSong", "(I)I"⟩, 12) := ⟨⟨by decide +kernel, by decide +kernel⟩, List.mem_of_getElem? (i := 34) (by decide +kernel), List.mem_of_getElem? (i := 259) (by decide +kernel), List.mem_of_getElem? (i := 260) (by decide +kernel)⟩
theorem lw_p2 : lw_okq (⟨"SongRefinery$Refining", "pass", "(LSongRefinery$Chain;III)I"⟩, 3) := ⟨⟨by decide +kernel, by decide +kernel⟩, List.mem_of_getElem? (i := 155) (by decide +kernel), List.mem_of_getElem? (i := 281) (by decide +kernel), List.mem_of_getElem? (i := 282) (by decide +kernel)⟩
theorem lw_p3 : lw_okq (⟨"SongRefinery$Refining", "recall", "(II)I"⟩, 3) := ⟨⟨by decide +kernel, by decide +kernel⟩, List.mem_of_getElem? (i := 155) (by decide +kernel), List.mem_of_getElem? (i := 294) (by decide +kernel), List.mem_of_getElem? (i := 295) (by decide +kernel)⟩
theorem lw_p4 : lw_okq (⟨"SongRefinery", "bothWaysAgree", "(I)Z"⟩, 12) := ⟨⟨by decide +kernel, by decide +kernel⟩, List.mem_of_getElem? (i := 34) (by decide +kernel), List.mem_of_getElem? (i := 340) (by decide +kernel), List.mem_of_getElem? (i := 341) (by decide +kernel)⟩
theorem lw_p5 : lw_okq (⟨"SongRefinery$Refining", "passAll", "(III)V"⟩, 3) := ⟨⟨by decide +kernel, by decide +kernel⟩, List.mem_of_getElem? (i := 155) (by decide +kernel), List.mem_of_getElem? (i := 349) (by decide +kernel), List.mem_of_getElem? (i := 350) (by decide +kernel)⟩
theorem lw_p6 : lw_okq (⟨"SongRefinery$Refining", "givenAt", "(III)I"⟩, 3) := ⟨⟨by decide +kernel, by decide +kernel⟩, List.mem_of_getElem? (i := 155) (by decide +kernel), List.mem_of_getElem? (i := 353) (by decide +kernel), List.mem_of_getElem? (i := 354) (by decide +kernel)⟩
theorem lw_p7 : lw_okq (⟨"SongRefinery", "dropsOnCopy", "(I)I"⟩, 12) := ⟨⟨by decide +kernel, by decide +kernel⟩, List.mem_of_getElem? (i := 34) (by decide +kernel), List.mem_of_getElem? (i := 361) (by decide +kernel), List.mem_of_getElem? (i := 362) (by decide +kernel)⟩
theorem lw_p8 : lw_okq (⟨"SongRefinery", "pourSong", "(LSongRefinery$State;LSongRefinery$Tanks;I)I"⟩, 12) := ⟨⟨by decide +kernel, by decide +kernel⟩, List.mem_of_getElem? (i := 34) (by decide +kernel), List.mem_of_getElem? (i := 380) (by decide +kernel), List.mem_of_getElem? (i := 381) (by decide +kernel)⟩
theorem lw_p9 : lw_okq (⟨"SongRefinery$Tanks", "accepts", "(II)Z"⟩, 8) := ⟨⟨by decide +kernel, by decide +kernel⟩, List.mem_of_getElem? (i := 86) (by decide +kernel), List.mem_of_getElem? (i := 395) (by decide +kernel), List.mem_of_getElem? (i := 396) (by decide +kernel)⟩
theorem lw_p10 : lw_okq (⟨"SongRefinery$Tanks", "roomOf", "(I)I"⟩, 8) := ⟨⟨by decide +kernel, by decide +kernel⟩, List.mem_of_getElem? (i := 86) (by decide +kernel), List.mem_of_getElem? (i := 412) (by decide +kernel), List.mem_of_getElem? (i := 413) (by decide +kernel)⟩
theorem lw_p11 : lw_okq (⟨"SongRefinery$Tanks", "setFrame", "(III)V"⟩, 8) := ⟨⟨by decide +kernel, by decide +kernel⟩, List.mem_of_getElem? (i := 86) (by decide +kernel), List.mem_of_getElem? (i := 416) (by decide +kernel), List.mem_of_getElem? (i := 417) (by decide +kernel)⟩
theorem lw_p12 : lw_okq (⟨"SongRefinery", "dropsFromLevels", "(I)I"⟩, 12) := ⟨⟨by decide +kernel, by decide +kernel⟩, List.mem_of_getElem? (i := 34) (by decide +kernel), List.mem_of_getElem? (i := 421) (by decide +kernel), List.mem_of_getElem? (i := 422) (by decide +kernel)⟩
theorem lw_p13 : lw_okq (⟨"SongRefinery", "roomiestFor", "(I)I"⟩, 12) := ⟨⟨by decide +kernel, by decide +kernel⟩, List.mem_of_getElem? (i := 34) (by decide +kernel), List.mem_of_getElem? (i := 428) (by decide +kernel), List.mem_of_getElem? (i := 429) (by decide +kernel)⟩
theorem lw_p14 : lw_okq (⟨"java/lang/Throwable", "fillInStackTrace", "(I)Ljava/lang/Throwable;"⟩, 6) := ⟨⟨by decide +kernel, by decide +kernel⟩, List.mem_of_getElem? (i := 519) (by decide +kernel), List.mem_of_getElem? (i := 517) (by decide +kernel), List.mem_of_getElem? (i := 518) (by decide +kernel)⟩
theorem lw_p15 : lw_okq (⟨"SongRefinery$History", "stateAt", "(I)LSongRefinery$State;"⟩, 3) := ⟨⟨by decide +kernel, by decide +kernel⟩, List.mem_of_getElem? (i := 136) (by decide +kernel), List.mem_of_getElem? (i := 601) (by decide +kernel), List.mem_of_getElem? (i := 602) (by decide +kernel)⟩
def lw_privs_1 : List (MethodName × Nat) := [(⟨"SongRefinery", "sumOfSquares", "(I)J"⟩, 12), (⟨"SongRefinery", "sendSong", "(I)I"⟩, 12), (⟨"SongRefinery$Refining", "pass", "(LSongRefinery$Chain;III)I"⟩, 3), (⟨"SongRefinery$Refining", "recall", "(II)I"⟩, 3), (⟨"SongRefinery", "bothWaysAgree", "(I)Z"⟩, 12), (⟨"SongRefinery$Refining", "passAll", "(III)V"⟩, 3), (⟨"SongRefinery$Refining", "givenAt", "(III)I"⟩, 3), (⟨"SongRefinery", "dropsOnCopy", "(I)I"⟩, 12), (⟨"SongRefinery", "pourSong", "(LSongRefinery$State;LSongRefinery$Tanks;I)I"⟩, 12), (⟨"SongRefinery$Tanks", "accepts", "(II)Z"⟩, 8), (⟨"SongRefinery$Tanks", "roomOf", "(I)I"⟩, 8), (⟨"SongRefinery$Tanks", "setFrame", "(III)V"⟩, 8), (⟨"SongRefinery", "dropsFromLevels", "(I)I"⟩, 12), (⟨"SongRefinery", "roomiestFor", "(I)I"⟩, 12), (⟨"java/lang/Throwable", "fillInStackTrace", "(I)Ljava/lang/Throwable;"⟩, 6), (⟨"SongRefinery$History", "stateAt", "(I)LSongRefinery$State;"⟩, 3)]
theorem lw_r1 : ∀ q ∈ lw_privs_1, lw_okq q := List.forall_mem_cons.mpr ⟨lw_p0, List.forall_mem_cons.mpr ⟨lw_p1, List.forall_mem_cons.mpr ⟨lw_p2, List.forall_mem_cons.mpr ⟨lw_p3, List.forall_mem_cons.mpr ⟨lw_p4, List.forall_mem_cons.mpr ⟨lw_p5, List.forall_mem_cons.mpr ⟨lw_p6, List.forall_mem_cons.mpr ⟨lw_p7, List.forall_mem_cons.mpr ⟨lw_p8, List.forall_mem_cons.mpr ⟨lw_p9, List.forall_mem_cons.mpr ⟨lw_p10, List.forall_mem_cons.mpr ⟨lw_p11, List.forall_mem_cons.mpr ⟨lw_p12, List.forall_mem_cons.mpr ⟨lw_p13, List.forall_mem_cons.mpr ⟨lw_p14, List.forall_mem_cons.mpr ⟨lw_p15, fun _ h => absurd h List.not_mem_nil⟩⟩⟩⟩⟩⟩⟩⟩⟩⟩⟩⟩⟩⟩⟩⟩
theorem lw_p16 : lw_okq (⟨"SongRefinery$Chain", "setFilter", "(III)V"⟩, 3) := ⟨⟨by decide +kernel, by decide +kernel⟩, List.mem_of_getElem? (i := 48) (by decide +kernel), List.mem_of_getElem? (i := 628) (by decide +kernel), List.mem_of_getElem? (i := 629) (by decide +kernel)⟩
theorem lw_p17 : lw_okq (⟨"SongRefinery$CommandText", "takeCommand", "()Z"⟩, 6) := ⟨⟨by decide +kernel, by decide +kernel⟩, List.mem_of_getElem? (i := 173) (by decide +kernel), List.mem_of_getElem? (i := 835) (by decide +kernel), List.mem_of_getElem? (i := 836) (by decide +kernel)⟩
theorem lw_p18 : lw_okq (⟨"SongRefinery$CommandText", "sameCharacters", "(Ljava/lang/String;)I"⟩, 6) := ⟨⟨by decide +kernel, by decide +kernel⟩, List.mem_of_getElem? (i := 173) (by decide +kernel), List.mem_of_getElem? (i := 841) (by decide +kernel), List.mem_of_getElem? (i := 842) (by decide +kernel)⟩
theorem lw_p19 : lw_okq (⟨"SongRefinery$CommandText", "characterAt", "(I)I"⟩, 6) := ⟨⟨by decide +kernel, by decide +kernel⟩, List.mem_of_getElem? (i := 173) (by decide +kernel), List.mem_of_getElem? (i := 855) (by decide +kernel), List.mem_of_getElem? (i := 856) (by decide +kernel)⟩
theorem lw_p20 : lw_okq (⟨"SongRefinery$CommandText", "takeNumbers", "(LSongRefinery$Word;)Z"⟩, 6) := ⟨⟨by decide +kernel, by decide +kernel⟩, List.mem_of_getElem? (i := 173) (by decide +kernel), List.mem_of_getElem? (i := 898) (by decide +kernel), List.mem_of_getElem? (i := 899) (by decide +kernel)⟩
theorem lw_p21 : lw_okq (⟨"SongRefinery$CommandText", "takeSign", "(C)Z"⟩, 6) := ⟨⟨by decide +kernel, by decide +kernel⟩, List.mem_of_getElem? (i := 173) (by decide +kernel), List.mem_of_getElem? (i := 902) (by decide +kernel), List.mem_of_getElem? (i := 903) (by decide +kernel)⟩
theorem lw_p22 : lw_okq (⟨"SongRefinery$CommandText", "takeNumber", "(I)I"⟩, 6) := ⟨⟨by decide +kernel, by decide +kernel⟩, List.mem_of_getElem? (i := 173) (by decide +kernel), List.mem_of_getElem? (i := 906) (by decide +kernel), List.mem_of_getElem? (i := 907) (by decide +kernel)⟩
theorem lw_p23 : lw_okq (⟨"SongRefinery", "faultOfCommand", "(LSongRefinery$State;I)I"⟩, 12) := ⟨⟨by decide +kernel, by decide +kernel⟩, List.mem_of_getElem? (i := 34) (by decide +kernel), List.mem_of_getElem? (i := 921) (by decide +kernel), List.mem_of_getElem? (i := 922) (by decide +kernel)⟩
theorem lw_p24 : lw_okq (⟨"SongRefinery", "carryOut", "(LSongRefinery$State;I)V"⟩, 12) := ⟨⟨by decide +kernel, by decide +kernel⟩, List.mem_of_getElem? (i := 34) (by decide +kernel), List.mem_of_getElem? (i := 934) (by decide +kernel), List.mem_of_getElem? (i := 935) (by decide +kernel)⟩
theorem lw_p25 : lw_okq (⟨"SongRefinery", "filteredOrZero", "(II)I"⟩, 12) := ⟨⟨by decide +kernel, by decide +kernel⟩, List.mem_of_getElem? (i := 34) (by decide +kernel), List.mem_of_getElem? (i := 1443) (by decide +kernel), List.mem_of_getElem? (i := 1444) (by decide +kernel)⟩
theorem lw_p26 : lw_okq (⟨"SongRefinery$Tanks", "tanksAheadOf", "(I)I"⟩, 8) := ⟨⟨by decide +kernel, by decide +kernel⟩, List.mem_of_getElem? (i := 86) (by decide +kernel), List.mem_of_getElem? (i := 1529) (by decide +kernel), List.mem_of_getElem? (i := 1530) (by decide +kernel)⟩
theorem lw_p27 : lw_okq (⟨"SongRefinery$Tanks", "isAhead", "(II)Z"⟩, 8) := ⟨⟨by decide +kernel, by decide +kernel⟩, List.mem_of_getElem? (i := 86) (by decide +kernel), List.mem_of_getElem? (i := 1533) (by decide +kernel), List.mem_of_getElem? (i := 1534) (by decide +kernel)⟩
def lw_privs_2 : List (MethodName × Nat) := [(⟨"SongRefinery$Chain", "setFilter", "(III)V"⟩, 3), (⟨"SongRefinery$CommandText", "takeCommand", "()Z"⟩, 6), (⟨"SongRefinery$CommandText", "sameCharacters", "(Ljava/lang/String;)I"⟩, 6), (⟨"SongRefinery$CommandText", "characterAt", "(I)I"⟩, 6), (⟨"SongRefinery$CommandText", "takeNumbers", "(LSongRefinery$Word;)Z"⟩, 6), (⟨"SongRefinery$CommandText", "takeSign", "(C)Z"⟩, 6), (⟨"SongRefinery$CommandText", "takeNumber", "(I)I"⟩, 6), (⟨"SongRefinery", "faultOfCommand", "(LSongRefinery$State;I)I"⟩, 12), (⟨"SongRefinery", "carryOut", "(LSongRefinery$State;I)V"⟩, 12), (⟨"SongRefinery", "filteredOrZero", "(II)I"⟩, 12), (⟨"SongRefinery$Tanks", "tanksAheadOf", "(I)I"⟩, 8), (⟨"SongRefinery$Tanks", "isAhead", "(II)Z"⟩, 8)]
theorem lw_r2 : ∀ q ∈ lw_privs_2, lw_okq q := List.forall_mem_cons.mpr ⟨lw_p16, List.forall_mem_cons.mpr ⟨lw_p17, List.forall_mem_cons.mpr ⟨lw_p18, List.forall_mem_cons.mpr ⟨lw_p19, List.forall_mem_cons.mpr ⟨lw_p20, List.forall_mem_cons.mpr ⟨lw_p21, List.forall_mem_cons.mpr ⟨lw_p22, List.forall_mem_cons.mpr ⟨lw_p23, List.forall_mem_cons.mpr ⟨lw_p24, List.forall_mem_cons.mpr ⟨lw_p25, List.forall_mem_cons.mpr ⟨lw_p26, List.forall_mem_cons.mpr ⟨lw_p27, fun _ h => absurd h List.not_mem_nil⟩⟩⟩⟩⟩⟩⟩⟩⟩⟩⟩⟩
def lw_privs : List (MethodName × Nat) := lw_privs_1 ++ (lw_privs_2)
def lw_tbl : List Cond := k2_sels lw_privs ++ tables_1
theorem lw_privs_ok : ∀ q ∈ lw_privs, lw_okq q := by
  show ∀ q ∈ lw_privs_1 ++ (lw_privs_2), lw_okq q
  exact List.forall_mem_append.mpr ⟨lw_r1, lw_r2⟩
/-- the streams that the claim lets the run draw from -/
abbrev lw_cs : List Choice := [Jvm.Choice.named "NaN.bits"]
theorem lw_bits : nanBits ∈ lw_cs := by first | decide | exact List.mem_cons_self | simp [lw_cs, nanBits]

def RX0 : String := "SongRefinery$Chain"
def TX0 : u_T := fun k => match k with
  | 0 => ("SongRefinery$Chain", "kinds", "[I", true)
  | 1 => ("SongRefinery$Chain", "parameters", "[I", true)
  | _ => ("SongRefinery$Chain", "count", "I", false)
def tyX0 : Nat → FieldType := fun k => match k with
  | 0 => .array .int
  | 1 => .array .int
  | _ => .int
abbrev wsX00 : List Cond := u_ws RX0 TX0 3
theorem nmX0 : ∀ a, a < 3 → ∀ b, b < 3 → a ≠ b → (TX0 a).2.1 ≠ (TX0 b).2.1 := by decide +kernel
theorem tyX0_ok : ∀ k, k < 3 → parseFieldDescriptor (TX0 k).2.2.1 = some (tyX0 k) := by decide +kernel
abbrev cX0_init : ByteArray := prog_2_method_1_code
def yX0_init : MethodName := ⟨RX0, "<init>", "()V"⟩
abbrev cX0_copyFrom : ByteArray := prog_2_method_2_code
def yX0_copyFrom : MethodName := ⟨RX0, "copyFrom", "(LSongRefinery$Chain;)V"⟩
abbrev cX0_kindAt : ByteArray := prog_2_method_3_code
def yX0_kindAt : MethodName := ⟨RX0, "kindAt", "(I)I"⟩
abbrev cX0_parameterAt : ByteArray := prog_2_method_4_code
def yX0_parameterAt : MethodName := ⟨RX0, "parameterAt", "(I)I"⟩
abbrev cX0_faultOfPosition : ByteArray := prog_2_method_5_code
def yX0_faultOfPosition : MethodName := ⟨RX0, "faultOfPosition", "(I)I"⟩
abbrev cX0_faultOfNewPosition : ByteArray := prog_2_method_6_code
def yX0_faultOfNewPosition : MethodName := ⟨RX0, "faultOfNewPosition", "(I)I"⟩
abbrev cX0_faultOfNewFilter : ByteArray := prog_2_method_7_code
def yX0_faultOfNewFilter : MethodName := ⟨RX0, "faultOfNewFilter", "(II)I"⟩
abbrev cX0_isKindWith : ByteArray := prog_2_method_8_code
def yX0_isKindWith : MethodName := ⟨RX0, "isKindWith", "(II)Z"⟩
abbrev cX0_setFilter : ByteArray := prog_2_method_9_code
def yX0_setFilter : MethodName := ⟨RX0, "setFilter", "(III)V"⟩
abbrev cX0_putFilter : ByteArray := prog_2_method_10_code
def yX0_putFilter : MethodName := ⟨RX0, "putFilter", "(III)I"⟩
abbrev cX0_takeFilter : ByteArray := prog_2_method_11_code
def yX0_takeFilter : MethodName := ⟨RX0, "takeFilter", "(I)I"⟩
abbrev cX0_exchange : ByteArray := prog_2_method_12_code
def yX0_exchange : MethodName := ⟨RX0, "exchange", "(II)V"⟩
def RX1 : String := "SongRefinery$CommandText"
def TX1 : u_T := fun k => match k with
  | 0 => ("SongRefinery$CommandText", "characters", "[I", true)
  | 1 => ("SongRefinery$CommandText", "length", "I", false)
  | 2 => ("SongRefinery$CommandText", "signs", "[I", true)
  | 3 => ("SongRefinery$CommandText", "numbers", "[I", true)
  | 4 => ("SongRefinery$CommandText", "commands", "I", false)
  | _ => ("SongRefinery$CommandText", "place", "I", false)
def tyX1 : Nat → FieldType := fun k => match k with
  | 0 => .array .int
  | 1 => .int
  | 2 => .array .int
  | 3 => .array .int
  | 4 => .int
  | _ => .int
abbrev wsX10 : List Cond := u_ws RX1 TX1 6
theorem nmX1 : ∀ a, a < 6 → ∀ b, b < 6 → a ≠ b → (TX1 a).2.1 ≠ (TX1 b).2.1 := by decide +kernel
theorem tyX1_ok : ∀ k, k < 6 → parseFieldDescriptor (TX1 k).2.2.1 = some (tyX1 k) := by decide +kernel
abbrev cX1_init : ByteArray := prog_3_method_1_code
def yX1_init : MethodName := ⟨RX1, "<init>", "()V"⟩
abbrev cX1_faultOfCharacter : ByteArray := prog_3_method_2_code
def yX1_faultOfCharacter : MethodName := ⟨RX1, "faultOfCharacter", "(C)I"⟩
abbrev cX1_putCharacter : ByteArray := prog_3_method_3_code
def yX1_putCharacter : MethodName := ⟨RX1, "putCharacter", "(C)I"⟩
abbrev cX1_clear : ByteArray := prog_3_method_4_code
def yX1_clear : MethodName := ⟨RX1, "clear", "()V"⟩
abbrev cX1_signAt : ByteArray := prog_3_method_5_code
def yX1_signAt : MethodName := ⟨RX1, "signAt", "(I)I"⟩
abbrev cX1_numberAt : ByteArray := prog_3_method_6_code
def yX1_numberAt : MethodName := ⟨RX1, "numberAt", "(II)I"⟩
abbrev cX1_parse : ByteArray := prog_3_method_7_code
def yX1_parse : MethodName := ⟨RX1, "parse", "()Z"⟩
abbrev cX1_characterAt : ByteArray := prog_3_method_8_code
def yX1_characterAt : MethodName := ⟨RX1, "characterAt", "(I)I"⟩
abbrev cX1_takeSign : ByteArray := prog_3_method_9_code
def yX1_takeSign : MethodName := ⟨RX1, "takeSign", "(C)Z"⟩
abbrev cX1_takeCommand : ByteArray := prog_3_method_10_code
def yX1_takeCommand : MethodName := ⟨RX1, "takeCommand", "()Z"⟩
abbrev cX1_sameCharacters : ByteArray := prog_3_method_11_code
def yX1_sameCharacters : MethodName := ⟨RX1, "sameCharacters", "(Ljava/lang/String;)I"⟩
abbrev cX1_takeNumbers : ByteArray := prog_3_method_12_code
def yX1_takeNumbers : MethodName := ⟨RX1, "takeNumbers", "(LSongRefinery$Word;)Z"⟩
abbrev cX1_takeNumber : ByteArray := prog_3_method_13_code
def yX1_takeNumber : MethodName := ⟨RX1, "takeNumber", "(I)I"⟩
def RX2 : String := "SongRefinery$History"
def TX2 : u_T := fun k => match k with
  | 0 => ("SongRefinery$History", "ring", "[LSongRefinery$State;", true)
  | 1 => ("SongRefinery$History", "next", "I", false)
  | _ => ("SongRefinery$History", "count", "I", false)
def tyX2 : Nat → FieldType := fun k => match k with
  | 0 => .array (.object "SongRefinery$State")
  | 1 => .int
  | _ => .int
abbrev wsX20 : List Cond := u_ws RX2 TX2 3
theorem nmX2 : ∀ a, a < 3 → ∀ b, b < 3 → a ≠ b → (TX2 a).2.1 ≠ (TX2 b).2.1 := by decide +kernel
theorem tyX2_ok : ∀ k, k < 3 → parseFieldDescriptor (TX2 k).2.2.1 = some (tyX2 k) := by decide +kernel
abbrev cX2_init : ByteArray := prog_4_method_1_code
def yX2_init : MethodName := ⟨RX2, "<init>", "()V"⟩
abbrev cX2_stateAt : ByteArray := prog_4_method_2_code
def yX2_stateAt : MethodName := ⟨RX2, "stateAt", "(I)LSongRefinery$State;"⟩
abbrev cX2_push : ByteArray := prog_4_method_3_code
def yX2_push : MethodName := ⟨RX2, "push", "(LSongRefinery$State;)V"⟩
abbrev cX2_popInto : ByteArray := prog_4_method_4_code
def yX2_popInto : MethodName := ⟨RX2, "popInto", "(LSongRefinery$State;)V"⟩
abbrev cX2_clear : ByteArray := prog_4_method_5_code
def yX2_clear : MethodName := ⟨RX2, "clear", "()V"⟩
def RX3 : String := "SongRefinery$Line"
def TX3 : u_T := fun k => match k with
  | 0 => ("SongRefinery$Line", "signs", "[I", true)
  | _ => ("SongRefinery$Line", "length", "I", false)
def tyX3 : Nat → FieldType := fun k => match k with
  | 0 => .array .int
  | _ => .int
abbrev wsX30 : List Cond := u_ws RX3 TX3 2
theorem nmX3 : ∀ a, a < 2 → ∀ b, b < 2 → a ≠ b → (TX3 a).2.1 ≠ (TX3 b).2.1 := by decide +kernel
theorem tyX3_ok : ∀ k, k < 2 → parseFieldDescriptor (TX3 k).2.2.1 = some (tyX3 k) := by decide +kernel
abbrev cX3_init : ByteArray := prog_5_method_1_code
def yX3_init : MethodName := ⟨RX3, "<init>", "()V"⟩
abbrev cX3_clear : ByteArray := prog_5_method_2_code
def yX3_clear : MethodName := ⟨RX3, "clear", "()V"⟩
abbrev cX3_signAt : ByteArray := prog_5_method_3_code
def yX3_signAt : MethodName := ⟨RX3, "signAt", "(I)I"⟩
abbrev cX3_putSign : ByteArray := prog_5_method_4_code
def yX3_putSign : MethodName := ⟨RX3, "putSign", "(I)V"⟩
abbrev cX3_putNumber : ByteArray := prog_5_method_5_code
def yX3_putNumber : MethodName := ⟨RX3, "putNumber", "(I)V"⟩
def RX4 : String := "SongRefinery$Refining"
def TX4 : u_T := fun k => match k with
  | 0 => ("SongRefinery$Refining", "memory", "[I", true)
  | 1 => ("SongRefinery$Refining", "row", "[I", true)
  | _ => ("SongRefinery$Refining", "rowByFilter", "[I", true)
def tyX4 : Nat → FieldType := fun k => match k with
  | 0 => .array .int
  | 1 => .array .int
  | _ => .array .int
abbrev wsX40 : List Cond := u_ws RX4 TX4 3
theorem nmX4 : ∀ a, a < 3 → ∀ b, b < 3 → a ≠ b → (TX4 a).2.1 ≠ (TX4 b).2.1 := by decide +kernel
theorem tyX4_ok : ∀ k, k < 3 → parseFieldDescriptor (TX4 k).2.2.1 = some (tyX4 k) := by decide +kernel
abbrev cX4_init : ByteArray := prog_6_method_1_code
def yX4_init : MethodName := ⟨RX4, "<init>", "()V"⟩
abbrev cX4_given : ByteArray := prog_6_method_2_code
def yX4_given : MethodName := ⟨RX4, "given", "(I)I"⟩
abbrev cX4_givenByFilter : ByteArray := prog_6_method_3_code
def yX4_givenByFilter : MethodName := ⟨RX4, "givenByFilter", "(I)I"⟩
abbrev cX4_send : ByteArray := prog_6_method_4_code
def yX4_send : MethodName := ⟨RX4, "send", "(LSongRefinery$State;II)V"⟩
abbrev cX4_pass : ByteArray := prog_6_method_5_code
def yX4_pass : MethodName := ⟨RX4, "pass", "(LSongRefinery$Chain;III)I"⟩
abbrev cX4_recall : ByteArray := prog_6_method_6_code
def yX4_recall : MethodName := ⟨RX4, "recall", "(II)I"⟩
abbrev cX4_changed : ByteArray := prog_6_method_7_code
def yX4_changed : MethodName := ⟨RX4, "changed", "(III)I"⟩
abbrev cX4_sendByFilter : ByteArray := prog_6_method_8_code
def yX4_sendByFilter : MethodName := ⟨RX4, "sendByFilter", "(LSongRefinery$State;I)V"⟩
abbrev cX4_passAll : ByteArray := prog_6_method_9_code
def yX4_passAll : MethodName := ⟨RX4, "passAll", "(III)V"⟩
abbrev cX4_givenAt : ByteArray := prog_6_method_10_code
def yX4_givenAt : MethodName := ⟨RX4, "givenAt", "(III)I"⟩
abbrev cX4_loudnessOf : ByteArray := prog_6_method_11_code
def yX4_loudnessOf : MethodName := ⟨RX4, "loudnessOf", "(II)I"⟩
def RX5 : String := "SongRefinery$Songs"
def TX5 : u_T := fun k => match k with
  | 0 => ("SongRefinery$Songs", "samples", "[I", true)
  | 1 => ("SongRefinery$Songs", "noteLengths", "[I", true)
  | 2 => ("SongRefinery$Songs", "sampleCounts", "[I", true)
  | _ => ("SongRefinery$Songs", "noteCounts", "[I", true)
def tyX5 : Nat → FieldType := fun k => match k with
  | 0 => .array .int
  | 1 => .array .int
  | 2 => .array .int
  | _ => .array .int
abbrev wsX50 : List Cond := u_ws RX5 TX5 4
theorem nmX5 : ∀ a, a < 4 → ∀ b, b < 4 → a ≠ b → (TX5 a).2.1 ≠ (TX5 b).2.1 := by decide +kernel
theorem tyX5_ok : ∀ k, k < 4 → parseFieldDescriptor (TX5 k).2.2.1 = some (tyX5 k) := by decide +kernel
abbrev cX5_init : ByteArray := prog_7_method_1_code
def yX5_init : MethodName := ⟨RX5, "<init>", "()V"⟩
abbrev cX5_copyFrom : ByteArray := prog_7_method_2_code
def yX5_copyFrom : MethodName := ⟨RX5, "copyFrom", "(LSongRefinery$Songs;)V"⟩
abbrev cX5_samplesOf : ByteArray := prog_7_method_3_code
def yX5_samplesOf : MethodName := ⟨RX5, "samplesOf", "(I)I"⟩
abbrev cX5_notesOf : ByteArray := prog_7_method_4_code
def yX5_notesOf : MethodName := ⟨RX5, "notesOf", "(I)I"⟩
abbrev cX5_framesOf : ByteArray := prog_7_method_5_code
def yX5_framesOf : MethodName := ⟨RX5, "framesOf", "(I)I"⟩
abbrev cX5_hasSample : ByteArray := prog_7_method_6_code
def yX5_hasSample : MethodName := ⟨RX5, "hasSample", "(II)Z"⟩
abbrev cX5_rawAt : ByteArray := prog_7_method_7_code
def yX5_rawAt : MethodName := ⟨RX5, "rawAt", "(II)I"⟩
abbrev cX5_faultOfSong : ByteArray := prog_7_method_8_code
def yX5_faultOfSong : MethodName := ⟨RX5, "faultOfSong", "(I)I"⟩
abbrev cX5_faultOfPlaying : ByteArray := prog_7_method_9_code
def yX5_faultOfPlaying : MethodName := ⟨RX5, "faultOfPlaying", "(I)I"⟩
abbrev cX5_faultOfSample : ByteArray := prog_7_method_10_code
def yX5_faultOfSample : MethodName := ⟨RX5, "faultOfSample", "(II)I"⟩
abbrev cX5_faultOfNewNote : ByteArray := prog_7_method_11_code
def yX5_faultOfNewNote : MethodName := ⟨RX5, "faultOfNewNote", "(IIII)I"⟩
abbrev cX5_putNote : ByteArray := prog_7_method_12_code
def yX5_putNote : MethodName := ⟨RX5, "putNote", "(IIII)I"⟩
abbrev cX5_takeNote : ByteArray := prog_7_method_13_code
def yX5_takeNote : MethodName := ⟨RX5, "takeNote", "(I)I"⟩
def RX6 : String := "SongRefinery$State"
def TX6 : u_T := fun k => match k with
  | 0 => ("SongRefinery$State", "chain", "LSongRefinery$Chain;", true)
  | 1 => ("SongRefinery$State", "songs", "LSongRefinery$Songs;", true)
  | _ => ("SongRefinery$State", "tanks", "LSongRefinery$Tanks;", true)
def tyX6 : Nat → FieldType := fun k => match k with
  | 0 => .object "SongRefinery$Chain"
  | 1 => .object "SongRefinery$Songs"
  | _ => .object "SongRefinery$Tanks"
abbrev wsX60 : List Cond := u_ws RX6 TX6 3
theorem nmX6 : ∀ a, a < 3 → ∀ b, b < 3 → a ≠ b → (TX6 a).2.1 ≠ (TX6 b).2.1 := by decide +kernel
theorem tyX6_ok : ∀ k, k < 3 → parseFieldDescriptor (TX6 k).2.2.1 = some (tyX6 k) := by decide +kernel
abbrev cX6_init : ByteArray := prog_8_method_1_code
def yX6_init : MethodName := ⟨RX6, "<init>", "()V"⟩
abbrev cX6_copyFrom : ByteArray := prog_8_method_2_code
def yX6_copyFrom : MethodName := ⟨RX6, "copyFrom", "(LSongRefinery$State;)V"⟩
def RX7 : String := "SongRefinery$Tanks"
def TX7 : u_T := fun k => match k with
  | 0 => ("SongRefinery$Tanks", "capacities", "[I", true)
  | 1 => ("SongRefinery$Tanks", "tunings", "[I", true)
  | 2 => ("SongRefinery$Tanks", "levels", "[I", true)
  | 3 => ("SongRefinery$Tanks", "frames", "[I", true)
  | 4 => ("SongRefinery$Tanks", "count", "I", false)
  | 5 => ("SongRefinery$Tanks", "stored", "I", false)
  | 6 => ("SongRefinery$Tanks", "dropped", "I", false)
  | _ => ("SongRefinery$Tanks", "drained", "I", false)
def tyX7 : Nat → FieldType := fun k => match k with
  | 0 => .array .int
  | 1 => .array .int
  | 2 => .array .int
  | 3 => .array .int
  | 4 => .int
  | 5 => .int
  | 6 => .int
  | _ => .int
abbrev wsX70 : List Cond := u_ws RX7 TX7 8
theorem nmX7 : ∀ a, a < 8 → ∀ b, b < 8 → a ≠ b → (TX7 a).2.1 ≠ (TX7 b).2.1 := by decide +kernel
theorem tyX7_ok : ∀ k, k < 8 → parseFieldDescriptor (TX7 k).2.2.1 = some (tyX7 k) := by decide +kernel
abbrev cX7_init : ByteArray := prog_9_method_1_code
def yX7_init : MethodName := ⟨RX7, "<init>", "()V"⟩
abbrev cX7_copyFrom : ByteArray := prog_9_method_2_code
def yX7_copyFrom : MethodName := ⟨RX7, "copyFrom", "(LSongRefinery$Tanks;)V"⟩
abbrev cX7_capacityOf : ByteArray := prog_9_method_3_code
def yX7_capacityOf : MethodName := ⟨RX7, "capacityOf", "(I)I"⟩
abbrev cX7_tuningOf : ByteArray := prog_9_method_4_code
def yX7_tuningOf : MethodName := ⟨RX7, "tuningOf", "(I)I"⟩
abbrev cX7_levelOf : ByteArray := prog_9_method_5_code
def yX7_levelOf : MethodName := ⟨RX7, "levelOf", "(I)I"⟩
abbrev cX7_frameAt : ByteArray := prog_9_method_6_code
def yX7_frameAt : MethodName := ⟨RX7, "frameAt", "(II)I"⟩
abbrev cX7_setFrame : ByteArray := prog_9_method_7_code
def yX7_setFrame : MethodName := ⟨RX7, "setFrame", "(III)V"⟩
abbrev cX7_faultOfTank : ByteArray := prog_9_method_8_code
def yX7_faultOfTank : MethodName := ⟨RX7, "faultOfTank", "(I)I"⟩
abbrev cX7_faultOfNewTank : ByteArray := prog_9_method_9_code
def yX7_faultOfNewTank : MethodName := ⟨RX7, "faultOfNewTank", "(I)I"⟩
abbrev cX7_faultOfNewTuning : ByteArray := prog_9_method_10_code
def yX7_faultOfNewTuning : MethodName := ⟨RX7, "faultOfNewTuning", "(II)I"⟩
abbrev cX7_faultOfDraining : ByteArray := prog_9_method_11_code
def yX7_faultOfDraining : MethodName := ⟨RX7, "faultOfDraining", "(II)I"⟩
abbrev cX7_faultOfFrame : ByteArray := prog_9_method_12_code
def yX7_faultOfFrame : MethodName := ⟨RX7, "faultOfFrame", "(II)I"⟩
abbrev cX7_putTank : ByteArray := prog_9_method_13_code
def yX7_putTank : MethodName := ⟨RX7, "putTank", "(I)I"⟩
abbrev cX7_tune : ByteArray := prog_9_method_14_code
def yX7_tune : MethodName := ⟨RX7, "tune", "(II)I"⟩
abbrev cX7_store : ByteArray := prog_9_method_15_code
def yX7_store : MethodName := ⟨RX7, "store", "(I)Z"⟩
abbrev cX7_accepts : ByteArray := prog_9_method_16_code
def yX7_accepts : MethodName := ⟨RX7, "accepts", "(II)Z"⟩
abbrev cX7_roomOf : ByteArray := prog_9_method_17_code
def yX7_roomOf : MethodName := ⟨RX7, "roomOf", "(I)I"⟩
abbrev cX7_takeFrames : ByteArray := prog_9_method_18_code
def yX7_takeFrames : MethodName := ⟨RX7, "takeFrames", "(II)I"⟩
abbrev cX7_tankBehind : ByteArray := prog_9_method_19_code
def yX7_tankBehind : MethodName := ⟨RX7, "tankBehind", "(I)I"⟩
abbrev cX7_tanksAheadOf : ByteArray := prog_9_method_20_code
def yX7_tanksAheadOf : MethodName := ⟨RX7, "tanksAheadOf", "(I)I"⟩
abbrev cX7_isAhead : ByteArray := prog_9_method_21_code
def yX7_isAhead : MethodName := ⟨RX7, "isAhead", "(II)Z"⟩
abbrev cX7_sumOfLevels : ByteArray := prog_9_method_22_code
def yX7_sumOfLevels : MethodName := ⟨RX7, "sumOfLevels", "()I"⟩
abbrev cX7_sumOfCapacities : ByteArray := prog_9_method_23_code
def yX7_sumOfCapacities : MethodName := ⟨RX7, "sumOfCapacities", "()I"⟩
def RX8 : String := "SongRefinery$Word"
def TX8 : u_T := fun k => match k with
  | _ => ("", "", "", false)
def tyX8 : Nat → FieldType := fun k => match k with
  | _ => .int
abbrev wsX80 : List Cond := u_ws RX8 TX8 0
theorem nmX8 : ∀ a, a < 0 → ∀ b, b < 0 → a ≠ b → (TX8 a).2.1 ≠ (TX8 b).2.1 := by decide +kernel
theorem tyX8_ok : ∀ k, k < 0 → parseFieldDescriptor (TX8 k).2.2.1 = some (tyX8 k) := by decide +kernel
def RX9 : String := "SongRefinery"
def TX9 : u_T := fun k => match k with
  | 0 => ("SongRefinery", "now", "LSongRefinery$State;", true)
  | 1 => ("SongRefinery", "trial", "LSongRefinery$State;", true)
  | 2 => ("SongRefinery", "snapshot", "LSongRefinery$State;", true)
  | 3 => ("SongRefinery", "history", "LSongRefinery$History;", true)
  | 4 => ("SongRefinery", "refining", "LSongRefinery$Refining;", true)
  | 5 => ("SongRefinery", "tanksCopy", "LSongRefinery$Tanks;", true)
  | 6 => ("SongRefinery", "rooms", "[I", true)
  | 7 => ("SongRefinery", "text", "LSongRefinery$CommandText;", true)
  | 8 => ("SongRefinery", "line", "LSongRefinery$Line;", true)
  | 9 => ("SongRefinery", "hasSnapshot", "Z", false)
  | 10 => ("SongRefinery", "lastErrorPosition", "I", false)
  | _ => ("SongRefinery", "lastFailedCommand", "I", false)
def tyX9 : Nat → FieldType := fun k => match k with
  | 0 => .object "SongRefinery$State"
  | 1 => .object "SongRefinery$State"
  | 2 => .object "SongRefinery$State"
  | 3 => .object "SongRefinery$History"
  | 4 => .object "SongRefinery$Refining"
  | 5 => .object "SongRefinery$Tanks"
  | 6 => .array .int
  | 7 => .object "SongRefinery$CommandText"
  | 8 => .object "SongRefinery$Line"
  | 9 => .boolean
  | 10 => .int
  | _ => .int
abbrev wsX90 : List Cond := u_ws RX9 TX9 12
theorem nmX9 : ∀ a, a < 12 → ∀ b, b < 12 → a ≠ b → (TX9 a).2.1 ≠ (TX9 b).2.1 := by decide +kernel
theorem tyX9_ok : ∀ k, k < 12 → parseFieldDescriptor (TX9 k).2.2.1 = some (tyX9 k) := by decide +kernel
abbrev cX9_init : ByteArray := prog_1_method_1_code
def yX9_init : MethodName := ⟨RX9, "<init>", "()V"⟩
abbrev cX9_addFilter : ByteArray := prog_1_method_2_code
def yX9_addFilter : MethodName := ⟨RX9, "addFilter", "(CI)I"⟩
abbrev cX9_insertFilter : ByteArray := prog_1_method_3_code
def yX9_insertFilter : MethodName := ⟨RX9, "insertFilter", "(ICI)I"⟩
abbrev cX9_removeFilter : ByteArray := prog_1_method_4_code
def yX9_removeFilter : MethodName := ⟨RX9, "removeFilter", "(I)I"⟩
abbrev cX9_swapFilters : ByteArray := prog_1_method_5_code
def yX9_swapFilters : MethodName := ⟨RX9, "swapFilters", "(II)I"⟩
abbrev cX9_filterCount : ByteArray := prog_1_method_6_code
def yX9_filterCount : MethodName := ⟨RX9, "filterCount", "()I"⟩
abbrev cX9_filterKind : ByteArray := prog_1_method_7_code
def yX9_filterKind : MethodName := ⟨RX9, "filterKind", "(I)C"⟩
abbrev cX9_filterParameter : ByteArray := prog_1_method_8_code
def yX9_filterParameter : MethodName := ⟨RX9, "filterParameter", "(I)I"⟩
abbrev cX9_addNote : ByteArray := prog_1_method_9_code
def yX9_addNote : MethodName := ⟨RX9, "addNote", "(IIII)I"⟩
abbrev cX9_removeNote : ByteArray := prog_1_method_10_code
def yX9_removeNote : MethodName := ⟨RX9, "removeNote", "(I)I"⟩
abbrev cX9_noteCount : ByteArray := prog_1_method_11_code
def yX9_noteCount : MethodName := ⟨RX9, "noteCount", "(I)I"⟩
abbrev cX9_songLength : ByteArray := prog_1_method_12_code
def yX9_songLength : MethodName := ⟨RX9, "songLength", "(I)I"⟩
abbrev cX9_rawSample : ByteArray := prog_1_method_13_code
def yX9_rawSample : MethodName := ⟨RX9, "rawSample", "(II)I"⟩
abbrev cX9_sample : ByteArray := prog_1_method_14_code
def yX9_sample : MethodName := ⟨RX9, "sample", "(II)I"⟩
abbrev cX9_sampleByFilter : ByteArray := prog_1_method_15_code
def yX9_sampleByFilter : MethodName := ⟨RX9, "sampleByFilter", "(II)I"⟩
abbrev cX9_mixedSample : ByteArray := prog_1_method_16_code
def yX9_mixedSample : MethodName := ⟨RX9, "mixedSample", "(III)I"⟩
abbrev cX9_peak : ByteArray := prog_1_method_17_code
def yX9_peak : MethodName := ⟨RX9, "peak", "(I)I"⟩
abbrev cX9_energy : ByteArray := prog_1_method_18_code
def yX9_energy : MethodName := ⟨RX9, "energy", "(I)J"⟩
abbrev cX9_signChanges : ByteArray := prog_1_method_19_code
def yX9_signChanges : MethodName := ⟨RX9, "signChanges", "(I)I"⟩
abbrev cX9_strongestSong : ByteArray := prog_1_method_20_code
def yX9_strongestSong : MethodName := ⟨RX9, "strongestSong", "()I"⟩
abbrev cX9_addTank : ByteArray := prog_1_method_21_code
def yX9_addTank : MethodName := ⟨RX9, "addTank", "(I)I"⟩
abbrev cX9_setTuning : ByteArray := prog_1_method_22_code
def yX9_setTuning : MethodName := ⟨RX9, "setTuning", "(II)I"⟩
abbrev cX9_pour : ByteArray := prog_1_method_23_code
def yX9_pour : MethodName := ⟨RX9, "pour", "(I)I"⟩
abbrev cX9_drain : ByteArray := prog_1_method_24_code
def yX9_drain : MethodName := ⟨RX9, "drain", "(II)I"⟩
abbrev cX9_tankCount : ByteArray := prog_1_method_25_code
def yX9_tankCount : MethodName := ⟨RX9, "tankCount", "()I"⟩
abbrev cX9_capacity : ByteArray := prog_1_method_26_code
def yX9_capacity : MethodName := ⟨RX9, "capacity", "(I)I"⟩
abbrev cX9_tuning : ByteArray := prog_1_method_27_code
def yX9_tuning : MethodName := ⟨RX9, "tuning", "(I)I"⟩
abbrev cX9_level : ByteArray := prog_1_method_28_code
def yX9_level : MethodName := ⟨RX9, "level", "(I)I"⟩
abbrev cX9_frameLoudness : ByteArray := prog_1_method_29_code
def yX9_frameLoudness : MethodName := ⟨RX9, "frameLoudness", "(II)I"⟩
abbrev cX9_frameCount : ByteArray := prog_1_method_30_code
def yX9_frameCount : MethodName := ⟨RX9, "frameCount", "(I)I"⟩
abbrev cX9_dropsFor : ByteArray := prog_1_method_31_code
def yX9_dropsFor : MethodName := ⟨RX9, "dropsFor", "(I)I"⟩
abbrev cX9_dropsByLevels : ByteArray := prog_1_method_32_code
def yX9_dropsByLevels : MethodName := ⟨RX9, "dropsByLevels", "(I)I"⟩
abbrev cX9_tankAtRank : ByteArray := prog_1_method_33_code
def yX9_tankAtRank : MethodName := ⟨RX9, "tankAtRank", "(I)I"⟩
abbrev cX9_storedTotal : ByteArray := prog_1_method_34_code
def yX9_storedTotal : MethodName := ⟨RX9, "storedTotal", "()I"⟩
abbrev cX9_droppedTotal : ByteArray := prog_1_method_35_code
def yX9_droppedTotal : MethodName := ⟨RX9, "droppedTotal", "()I"⟩
abbrev cX9_drainedTotal : ByteArray := prog_1_method_36_code
def yX9_drainedTotal : MethodName := ⟨RX9, "drainedTotal", "()I"⟩
abbrev cX9_append : ByteArray := prog_1_method_37_code
def yX9_append : MethodName := ⟨RX9, "append", "(C)I"⟩
abbrev cX9_run : ByteArray := prog_1_method_38_code
def yX9_run : MethodName := ⟨RX9, "run", "()I"⟩
abbrev cX9_errorPosition : ByteArray := prog_1_method_39_code
def yX9_errorPosition : MethodName := ⟨RX9, "errorPosition", "()I"⟩
abbrev cX9_failedCommand : ByteArray := prog_1_method_40_code
def yX9_failedCommand : MethodName := ⟨RX9, "failedCommand", "()I"⟩
abbrev cX9_describeChain : ByteArray := prog_1_method_41_code
def yX9_describeChain : MethodName := ⟨RX9, "describeChain", "()I"⟩
abbrev cX9_describeTank : ByteArray := prog_1_method_42_code
def yX9_describeTank : MethodName := ⟨RX9, "describeTank", "(I)I"⟩
abbrev cX9_lineAt : ByteArray := prog_1_method_43_code
def yX9_lineAt : MethodName := ⟨RX9, "lineAt", "(I)C"⟩
abbrev cX9_meanLevel : ByteArray := prog_1_method_44_code
def yX9_meanLevel : MethodName := ⟨RX9, "meanLevel", "(I)D"⟩
abbrev cX9_filledShare : ByteArray := prog_1_method_45_code
def yX9_filledShare : MethodName := ⟨RX9, "filledShare", "()F"⟩
abbrev cX9_isConsistent : ByteArray := prog_1_method_46_code
def yX9_isConsistent : MethodName := ⟨RX9, "isConsistent", "()Z"⟩
abbrev cX9_undo : ByteArray := prog_1_method_47_code
def yX9_undo : MethodName := ⟨RX9, "undo", "()I"⟩
abbrev cX9_save : ByteArray := prog_1_method_48_code
def yX9_save : MethodName := ⟨RX9, "save", "()I"⟩
abbrev cX9_restore : ByteArray := prog_1_method_49_code
def yX9_restore : MethodName := ⟨RX9, "restore", "()I"⟩
abbrev cX9_throwFault : ByteArray := prog_1_method_50_code
def yX9_throwFault : MethodName := ⟨RX9, "throwFault", "(I)V"⟩
abbrev cX9_read : ByteArray := prog_1_method_51_code
def yX9_read : MethodName := ⟨RX9, "read", "([II)I"⟩
abbrev cX9_write : ByteArray := prog_1_method_52_code
def yX9_write : MethodName := ⟨RX9, "write", "([III)V"⟩
abbrev cX9_copyRow : ByteArray := prog_1_method_53_code
def yX9_copyRow : MethodName := ⟨RX9, "copyRow", "([I[I)V"⟩
abbrev cX9_isWithin : ByteArray := prog_1_method_54_code
def yX9_isWithin : MethodName := ⟨RX9, "isWithin", "(III)Z"⟩
abbrev cX9_sendSong : ByteArray := prog_1_method_55_code
def yX9_sendSong : MethodName := ⟨RX9, "sendSong", "(I)I"⟩
abbrev cX9_filteredOrZero : ByteArray := prog_1_method_56_code
def yX9_filteredOrZero : MethodName := ⟨RX9, "filteredOrZero", "(II)I"⟩
abbrev cX9_signOf : ByteArray := prog_1_method_57_code
def yX9_signOf : MethodName := ⟨RX9, "signOf", "(I)I"⟩
abbrev cX9_sumOfSquares : ByteArray := prog_1_method_58_code
def yX9_sumOfSquares : MethodName := ⟨RX9, "sumOfSquares", "(I)J"⟩
abbrev cX9_bothWaysAgree : ByteArray := prog_1_method_59_code
def yX9_bothWaysAgree : MethodName := ⟨RX9, "bothWaysAgree", "(I)Z"⟩
abbrev cX9_pourSong : ByteArray := prog_1_method_60_code
def yX9_pourSong : MethodName := ⟨RX9, "pourSong", "(LSongRefinery$State;LSongRefinery$Tanks;I)I"⟩
abbrev cX9_dropsOnCopy : ByteArray := prog_1_method_61_code
def yX9_dropsOnCopy : MethodName := ⟨RX9, "dropsOnCopy", "(I)I"⟩
abbrev cX9_dropsFromLevels : ByteArray := prog_1_method_62_code
def yX9_dropsFromLevels : MethodName := ⟨RX9, "dropsFromLevels", "(I)I"⟩
abbrev cX9_roomiestFor : ByteArray := prog_1_method_63_code
def yX9_roomiestFor : MethodName := ⟨RX9, "roomiestFor", "(I)I"⟩
abbrev cX9_faultOfCommand : ByteArray := prog_1_method_64_code
def yX9_faultOfCommand : MethodName := ⟨RX9, "faultOfCommand", "(LSongRefinery$State;I)I"⟩
abbrev cX9_carryOut : ByteArray := prog_1_method_65_code
def yX9_carryOut : MethodName := ⟨RX9, "carryOut", "(LSongRefinery$State;I)V"⟩
def RX10 : String := "SongRefineryLaw$Bits"
def TX10 : u_T := fun k => match k with
  | _ => ("SongRefineryLaw$Bits", "bits", "I", false)
def tyX10 : Nat → FieldType := fun k => match k with
  | _ => .int
abbrev wsX100 : List Cond := u_ws RX10 TX10 1
theorem nmX10 : ∀ a, a < 1 → ∀ b, b < 1 → a ≠ b → (TX10 a).2.1 ≠ (TX10 b).2.1 := by decide +kernel
theorem tyX10_ok : ∀ k, k < 1 → parseFieldDescriptor (TX10 k).2.2.1 = some (tyX10 k) := by decide +kernel
abbrev cX10_init : ByteArray := prog_12_method_1_code
def yX10_init : MethodName := ⟨RX10, "<init>", "(I)V"⟩
abbrev cX10_next : ByteArray := prog_12_method_2_code
def yX10_next : MethodName := ⟨RX10, "next", "(I)I"⟩
def RX11 : String := "SongRefineryModel"
def TX11 : u_T := fun k => match k with
  | _ => ("", "", "", false)
def tyX11 : Nat → FieldType := fun k => match k with
  | _ => .int
abbrev wsX110 : List Cond := u_ws RX11 TX11 0
theorem nmX11 : ∀ a, a < 0 → ∀ b, b < 0 → a ≠ b → (TX11 a).2.1 ≠ (TX11 b).2.1 := by decide +kernel
theorem tyX11_ok : ∀ k, k < 0 → parseFieldDescriptor (TX11 k).2.2.1 = some (tyX11 k) := by decide +kernel
def RJx145de : String := "java/io/Serializable"
def TJx145de : u_T := fun k => match k with
  | _ => ("", "", "", false)
def tyJx145de : Nat → FieldType := fun k => match k with
  | _ => .int
abbrev wsJx145de0 : List Cond := u_ws RJx145de TJx145de 0
theorem nmJx145de : ∀ a, a < 0 → ∀ b, b < 0 → a ≠ b → (TJx145de a).2.1 ≠ (TJx145de b).2.1 := by decide +kernel
theorem tyJx145de_ok : ∀ k, k < 0 → parseFieldDescriptor (TJx145de k).2.2.1 = some (tyJx145de k) := by decide +kernel
def RJ5 : String := "java/lang/AbstractStringBuilder"
def TJ5 : u_T := fun k => match k with
  | _ => ("", "", "", false)
def tyJ5 : Nat → FieldType := fun k => match k with
  | _ => .int
abbrev wsJ50 : List Cond := u_ws RJ5 TJ5 0
theorem nmJ5 : ∀ a, a < 0 → ∀ b, b < 0 → a ≠ b → (TJ5 a).2.1 ≠ (TJ5 b).2.1 := by decide +kernel
theorem tyJ5_ok : ∀ k, k < 0 → parseFieldDescriptor (TJ5 k).2.2.1 = some (tyJ5 k) := by decide +kernel
abbrev cJ5_init_d00df : ByteArray := prog_15_method_2_code
def yJ5_init_d00df : MethodName := ⟨RJ5, "<init>", "(I)V"⟩
abbrev cJ5_init_a7421 : ByteArray := prog_15_method_3_code
def yJ5_init_a7421 : MethodName := ⟨RJ5, "<init>", "(Ljava/lang/String;)V"⟩
abbrev cJ5_length_8abf5 : ByteArray := prog_15_method_6_code
def yJ5_length_8abf5 : MethodName := ⟨RJ5, "length", "()I"⟩
abbrev cJ5_ensureCapacityInternal_d00df : ByteArray := prog_15_method_9_code
def yJ5_ensureCapacityInternal_d00df : MethodName := ⟨RJ5, "ensureCapacityInternal", "(I)V"⟩
abbrev cJ5_newCapacity_0f7a4 : ByteArray := prog_15_method_10_code
def yJ5_newCapacity_0f7a4 : MethodName := ⟨RJ5, "newCapacity", "(I)I"⟩
abbrev cJ5_inflate_da8c8 : ByteArray := prog_15_method_11_code
def yJ5_inflate_da8c8 : MethodName := ⟨RJ5, "inflate", "()V"⟩
abbrev cJ5_append_cf1ce : ByteArray := prog_15_method_22_code
def yJ5_append_cf1ce : MethodName := ⟨RJ5, "append", "(Ljava/lang/String;)Ljava/lang/AbstractStringBuilder;"⟩
abbrev cJ5_appendNull_278bc : ByteArray := prog_15_method_26_code
def yJ5_appendNull_278bc : MethodName := ⟨RJ5, "appendNull", "()Ljava/lang/AbstractStringBuilder;"⟩
abbrev cJ5_append_3fe6f : ByteArray := prog_15_method_31_code
def yJ5_append_3fe6f : MethodName := ⟨RJ5, "append", "(C)Ljava/lang/AbstractStringBuilder;"⟩
abbrev cJ5_append_c97b9 : ByteArray := prog_15_method_32_code
def yJ5_append_c97b9 : MethodName := ⟨RJ5, "append", "(I)Ljava/lang/AbstractStringBuilder;"⟩
abbrev cJ5_getValue_6d5f1 : ByteArray := prog_15_method_64_code
def yJ5_getValue_6d5f1 : MethodName := ⟨RJ5, "getValue", "()[B"⟩
abbrev cJ5_isLatin1_aae02 : ByteArray := prog_15_method_68_code
def yJ5_isLatin1_aae02 : MethodName := ⟨RJ5, "isLatin1", "()Z"⟩
abbrev cJ5_inflateIfNeededFor_a7421 : ByteArray := prog_15_method_71_code
def yJ5_inflateIfNeededFor_a7421 : MethodName := ⟨RJ5, "inflateIfNeededFor", "(Ljava/lang/String;)V"⟩
abbrev cJ5_putStringAt_47b60 : ByteArray := prog_15_method_73_code
def yJ5_putStringAt_47b60 : MethodName := ⟨RJ5, "putStringAt", "(ILjava/lang/String;)V"⟩
def RJx2cfe8 : String := "java/lang/Appendable"
def TJx2cfe8 : u_T := fun k => match k with
  | _ => ("", "", "", false)
def tyJx2cfe8 : Nat → FieldType := fun k => match k with
  | _ => .int
abbrev wsJx2cfe80 : List Cond := u_ws RJx2cfe8 TJx2cfe8 0
theorem nmJx2cfe8 : ∀ a, a < 0 → ∀ b, b < 0 → a ≠ b → (TJx2cfe8 a).2.1 ≠ (TJx2cfe8 b).2.1 := by decide +kernel
theorem tyJx2cfe8_ok : ∀ k, k < 0 → parseFieldDescriptor (TJx2cfe8 k).2.2.1 = some (tyJx2cfe8 k) := by decide +kernel
def RJx00060 : String := "java/lang/ArrayIndexOutOfBoundsException"
def TJx00060 : u_T := fun k => match k with
  | 0 => ("java/lang/Throwable", "backtrace", "Ljava/lang/Object;", false)
  | 1 => ("java/lang/Throwable", "detailMessage", "Ljava/lang/String;", false)
  | 2 => ("java/lang/Throwable", "cause", "Ljava/lang/Throwable;", false)
  | 3 => ("java/lang/Throwable", "stackTrace", "[Ljava/lang/StackTraceElement;", false)
  | 4 => ("java/lang/Throwable", "depth", "I", false)
  | _ => ("java/lang/Throwable", "suppressedExceptions", "Ljava/util/List;", false)
def tyJx00060 : Nat → FieldType := fun k => match k with
  | 0 => .object "java/lang/Object"
  | 1 => .object "java/lang/String"
  | 2 => .object "java/lang/Throwable"
  | 3 => .array (.object "java/lang/StackTraceElement")
  | 4 => .int
  | _ => .object "java/util/List"
abbrev wsJx000600 : List Cond := u_ws RJx00060 TJx00060 6
theorem nmJx00060 : ∀ a, a < 6 → ∀ b, b < 6 → a ≠ b → (TJx00060 a).2.1 ≠ (TJx00060 b).2.1 := by decide +kernel
theorem tyJx00060_ok : ∀ k, k < 6 → parseFieldDescriptor (TJx00060 k).2.2.1 = some (tyJx00060 k) := by decide +kernel
abbrev cJx00060_init_a7421 : ByteArray := prog_18_method_2_code
def yJx00060_init_a7421 : MethodName := ⟨RJx00060, "<init>", "(Ljava/lang/String;)V"⟩
def RJx9f9b0 : String := "java/lang/CharSequence"
def TJx9f9b0 : u_T := fun k => match k with
  | _ => ("", "", "", false)
def tyJx9f9b0 : Nat → FieldType := fun k => match k with
  | _ => .int
abbrev wsJx9f9b00 : List Cond := u_ws RJx9f9b0 TJx9f9b0 0
theorem nmJx9f9b0 : ∀ a, a < 0 → ∀ b, b < 0 → a ≠ b → (TJx9f9b0 a).2.1 ≠ (TJx9f9b0 b).2.1 := by decide +kernel
theorem tyJx9f9b0_ok : ∀ k, k < 0 → parseFieldDescriptor (TJx9f9b0 k).2.2.1 = some (tyJx9f9b0 k) := by decide +kernel
def RJ11 : String := "java/lang/Character"
def TJ11 : u_T := fun k => match k with
  | _ => ("", "", "", false)
def tyJ11 : Nat → FieldType := fun k => match k with
  | _ => .int
abbrev wsJ110 : List Cond := u_ws RJ11 TJ11 0
theorem nmJ11 : ∀ a, a < 0 → ∀ b, b < 0 → a ≠ b → (TJ11 a).2.1 ≠ (TJ11 b).2.1 := by decide +kernel
theorem tyJ11_ok : ∀ k, k < 0 → parseFieldDescriptor (TJ11 k).2.2.1 = some (tyJ11 k) := by decide +kernel
abbrev cJ11_isValidCodePoint_9a6ad : ByteArray := prog_20_method_11_code
def yJ11_isValidCodePoint_9a6ad : MethodName := ⟨RJ11, "isValidCodePoint", "(I)Z"⟩
abbrev cJ11_highSurrogate_5068e : ByteArray := prog_20_method_28_code
def yJ11_highSurrogate_5068e : MethodName := ⟨RJ11, "highSurrogate", "(I)C"⟩
abbrev cJ11_lowSurrogate_5068e : ByteArray := prog_20_method_29_code
def yJ11_lowSurrogate_5068e : MethodName := ⟨RJ11, "lowSurrogate", "(I)C"⟩
def RJx8e188 : String := "java/lang/Cloneable"
def TJx8e188 : u_T := fun k => match k with
  | _ => ("", "", "", false)
def tyJx8e188 : Nat → FieldType := fun k => match k with
  | _ => .int
abbrev wsJx8e1880 : List Cond := u_ws RJx8e188 TJx8e188 0
theorem nmJx8e188 : ∀ a, a < 0 → ∀ b, b < 0 → a ≠ b → (TJx8e188 a).2.1 ≠ (TJx8e188 b).2.1 := by decide +kernel
theorem tyJx8e188_ok : ∀ k, k < 0 → parseFieldDescriptor (TJx8e188 k).2.2.1 = some (tyJx8e188 k) := by decide +kernel
def RJxb160c : String := "java/lang/Comparable"
def TJxb160c : u_T := fun k => match k with
  | _ => ("", "", "", false)
def tyJxb160c : Nat → FieldType := fun k => match k with
  | _ => .int
abbrev wsJxb160c0 : List Cond := u_ws RJxb160c TJxb160c 0
theorem nmJxb160c : ∀ a, a < 0 → ∀ b, b < 0 → a ≠ b → (TJxb160c a).2.1 ≠ (TJxb160c b).2.1 := by decide +kernel
theorem tyJxb160c_ok : ∀ k, k < 0 → parseFieldDescriptor (TJxb160c k).2.2.1 = some (tyJxb160c k) := by decide +kernel
def RJx29ce0 : String := "java/lang/Enum"
def TJx29ce0 : u_T := fun k => match k with
  | _ => ("", "", "", false)
def tyJx29ce0 : Nat → FieldType := fun k => match k with
  | _ => .int
abbrev wsJx29ce00 : List Cond := u_ws RJx29ce0 TJx29ce0 0
theorem nmJx29ce0 : ∀ a, a < 0 → ∀ b, b < 0 → a ≠ b → (TJx29ce0 a).2.1 ≠ (TJx29ce0 b).2.1 := by decide +kernel
theorem tyJx29ce0_ok : ∀ k, k < 0 → parseFieldDescriptor (TJx29ce0 k).2.2.1 = some (tyJx29ce0 k) := by decide +kernel
def RJ6 : String := "java/lang/Integer"
def TJ6 : u_T := fun k => match k with
  | _ => ("", "", "", false)
def tyJ6 : Nat → FieldType := fun k => match k with
  | _ => .int
abbrev wsJ60 : List Cond := u_ws RJ6 TJ6 0
theorem nmJ6 : ∀ a, a < 0 → ∀ b, b < 0 → a ≠ b → (TJ6 a).2.1 ≠ (TJ6 b).2.1 := by decide +kernel
theorem tyJ6_ok : ∀ k, k < 0 → parseFieldDescriptor (TJ6 k).2.2.1 = some (tyJ6 k) := by decide +kernel
abbrev cJ6_getChars_ba4f3 : ByteArray := prog_28_method_12_code
def yJ6_getChars_ba4f3 : MethodName := ⟨RJ6, "getChars", "(II[B)I"⟩
abbrev cJ6_stringSize_0f7a4 : ByteArray := prog_28_method_13_code
def yJ6_stringSize_0f7a4 : MethodName := ⟨RJ6, "stringSize", "(I)I"⟩
abbrev cJ6_signum_0f7a4 : ByteArray := prog_28_method_56_code
def yJ6_signum_0f7a4 : MethodName := ⟨RJ6, "signum", "(I)I"⟩
def RJ9 : String := "java/lang/Math"
def TJ9 : u_T := fun k => match k with
  | _ => ("", "", "", false)
def tyJ9 : Nat → FieldType := fun k => match k with
  | _ => .int
abbrev wsJ90 : List Cond := u_ws RJ9 TJ9 0
theorem nmJ9 : ∀ a, a < 0 → ∀ b, b < 0 → a ≠ b → (TJ9 a).2.1 ≠ (TJ9 b).2.1 := by decide +kernel
theorem tyJ9_ok : ∀ k, k < 0 → parseFieldDescriptor (TJ9 k).2.2.1 = some (tyJ9 k) := by decide +kernel
abbrev cJ9_abs_0f7a4 : ByteArray := prog_29_method_59_code
def yJ9_abs_0f7a4 : MethodName := ⟨RJ9, "abs", "(I)I"⟩
abbrev cJ9_max_7cf53 : ByteArray := prog_29_method_65_code
def yJ9_max_7cf53 : MethodName := ⟨RJ9, "max", "(II)I"⟩
abbrev cJ9_min_7cf53 : ByteArray := prog_29_method_69_code
def yJ9_min_7cf53 : MethodName := ⟨RJ9, "min", "(II)I"⟩
def RJxd2413 : String := "java/lang/Number"
def TJxd2413 : u_T := fun k => match k with
  | _ => ("", "", "", false)
def tyJxd2413 : Nat → FieldType := fun k => match k with
  | _ => .int
abbrev wsJxd24130 : List Cond := u_ws RJxd2413 TJxd2413 0
theorem nmJxd2413 : ∀ a, a < 0 → ∀ b, b < 0 → a ≠ b → (TJxd2413 a).2.1 ≠ (TJxd2413 b).2.1 := by decide +kernel
theorem tyJxd2413_ok : ∀ k, k < 0 → parseFieldDescriptor (TJxd2413 k).2.2.1 = some (tyJxd2413 k) := by decide +kernel
def RJ0 : String := "java/lang/String"
def TJ0 : u_T := fun k => match k with
  | 0 => ("java/lang/String", "value", "[B", true)
  | 1 => ("java/lang/String", "coder", "B", true)
  | 2 => ("java/lang/String", "hash", "I", false)
  | _ => ("java/lang/String", "hashIsZero", "Z", false)
def tyJ0 : Nat → FieldType := fun k => match k with
  | 0 => .array .byte
  | 1 => .byte
  | 2 => .int
  | _ => .boolean
abbrev wsJ00 : List Cond := u_ws RJ0 TJ0 4
theorem nmJ0 : ∀ a, a < 4 → ∀ b, b < 4 → a ≠ b → (TJ0 a).2.1 ≠ (TJ0 b).2.1 := by decide +kernel
theorem tyJ0_ok : ∀ k, k < 4 → parseFieldDescriptor (TJ0 k).2.2.1 = some (tyJ0 k) := by decide +kernel
abbrev cJ0_init_81219 : ByteArray := prog_32_method_53_code
def yJ0_init_81219 : MethodName := ⟨RJ0, "<init>", "(Ljava/lang/StringBuilder;)V"⟩
abbrev cJ0_length_8abf5 : ByteArray := prog_32_method_54_code
def yJ0_length_8abf5 : MethodName := ⟨RJ0, "length", "()I"⟩
abbrev cJ0_isEmpty_aae02 : ByteArray := prog_32_method_55_code
def yJ0_isEmpty_aae02 : MethodName := ⟨RJ0, "isEmpty", "()Z"⟩
abbrev cJ0_charAt_5068e : ByteArray := prog_32_method_56_code
def yJ0_charAt_5068e : MethodName := ⟨RJ0, "charAt", "(I)C"⟩
abbrev cJ0_equals_9ea2d : ByteArray := prog_32_method_66_code
def yJ0_equals_9ea2d : MethodName := ⟨RJ0, "equals", "(Ljava/lang/Object;)Z"⟩
abbrev cJ0_indexOf_0f7a4 : ByteArray := prog_32_method_79_code
def yJ0_indexOf_0f7a4 : MethodName := ⟨RJ0, "indexOf", "(I)I"⟩
abbrev cJ0_indexOf_7cf53 : ByteArray := prog_32_method_80_code
def yJ0_indexOf_7cf53 : MethodName := ⟨RJ0, "indexOf", "(II)I"⟩
abbrev cJ0_getBytes_840e7 : ByteArray := prog_32_method_147_code
def yJ0_getBytes_840e7 : MethodName := ⟨RJ0, "getBytes", "([BIB)V"⟩
abbrev cJ0_init_db425 : ByteArray := prog_32_method_150_code
def yJ0_init_db425 : MethodName := ⟨RJ0, "<init>", "(Ljava/lang/AbstractStringBuilder;Ljava/lang/Void;)V"⟩
abbrev cJ0_coder_7d493 : ByteArray := prog_32_method_152_code
def yJ0_coder_7d493 : MethodName := ⟨RJ0, "coder", "()B"⟩
abbrev cJ0_isLatin1_aae02 : ByteArray := prog_32_method_154_code
def yJ0_isLatin1_aae02 : MethodName := ⟨RJ0, "isLatin1", "()Z"⟩
abbrev cJ0_checkIndex_df160 : ByteArray := prog_32_method_155_code
def yJ0_checkIndex_df160 : MethodName := ⟨RJ0, "checkIndex", "(II)V"⟩
abbrev cJ0_checkBoundsOffCount_cabcc : ByteArray := prog_32_method_157_code
def yJ0_checkBoundsOffCount_cabcc : MethodName := ⟨RJ0, "checkBoundsOffCount", "(III)I"⟩
abbrev cJ0_checkBoundsBeginEnd_23922 : ByteArray := prog_32_method_158_code
def yJ0_checkBoundsBeginEnd_23922 : MethodName := ⟨RJ0, "checkBoundsBeginEnd", "(III)V"⟩
def RJ4 : String := "java/lang/StringBuilder"
def TJ4 : u_T := fun k => match k with
  | 0 => ("java/lang/AbstractStringBuilder", "value", "[B", false)
  | 1 => ("java/lang/AbstractStringBuilder", "coder", "B", false)
  | 2 => ("java/lang/AbstractStringBuilder", "maybeLatin1", "Z", false)
  | _ => ("java/lang/AbstractStringBuilder", "count", "I", false)
def tyJ4 : Nat → FieldType := fun k => match k with
  | 0 => .array .byte
  | 1 => .byte
  | 2 => .boolean
  | _ => .int
abbrev wsJ40 : List Cond := u_ws RJ4 TJ4 4
theorem nmJ4 : ∀ a, a < 4 → ∀ b, b < 4 → a ≠ b → (TJ4 a).2.1 ≠ (TJ4 b).2.1 := by decide +kernel
theorem tyJ4_ok : ∀ k, k < 4 → parseFieldDescriptor (TJ4 k).2.2.1 = some (tyJ4 k) := by decide +kernel
abbrev cJ4_init_da8c8 : ByteArray := prog_33_method_1_code
def yJ4_init_da8c8 : MethodName := ⟨RJ4, "<init>", "()V"⟩
abbrev cJ4_init_a7421 : ByteArray := prog_33_method_3_code
def yJ4_init_a7421 : MethodName := ⟨RJ4, "<init>", "(Ljava/lang/String;)V"⟩
abbrev cJ4_append_15ec4 : ByteArray := prog_33_method_7_code
def yJ4_append_15ec4 : MethodName := ⟨RJ4, "append", "(Ljava/lang/String;)Ljava/lang/StringBuilder;"⟩
abbrev cJ4_append_cf468 : ByteArray := prog_33_method_14_code
def yJ4_append_cf468 : MethodName := ⟨RJ4, "append", "(C)Ljava/lang/StringBuilder;"⟩
abbrev cJ4_append_bf812 : ByteArray := prog_33_method_15_code
def yJ4_append_bf812 : MethodName := ⟨RJ4, "append", "(I)Ljava/lang/StringBuilder;"⟩
abbrev cJ4_toString_0e30d : ByteArray := prog_33_method_42_code
def yJ4_toString_0e30d : MethodName := ⟨RJ4, "toString", "()Ljava/lang/String;"⟩
abbrev cJ4_append_cf1ce : ByteArray := prog_33_method_80_code
def yJ4_append_cf1ce : MethodName := ⟨RJ4, "append", "(Ljava/lang/String;)Ljava/lang/AbstractStringBuilder;"⟩
abbrev cJ4_length_8abf5 : ByteArray := prog_33_method_93_code
def yJ4_length_8abf5 : MethodName := ⟨RJ4, "length", "()I"⟩
def RJ1 : String := "java/lang/StringLatin1"
def TJ1 : u_T := fun k => match k with
  | _ => ("", "", "", false)
def tyJ1 : Nat → FieldType := fun k => match k with
  | _ => .int
abbrev wsJ10 : List Cond := u_ws RJ1 TJ1 0
theorem nmJ1 : ∀ a, a < 0 → ∀ b, b < 0 → a ≠ b → (TJ1 a).2.1 ≠ (TJ1 b).2.1 := by decide +kernel
theorem tyJ1_ok : ∀ k, k < 0 → parseFieldDescriptor (TJ1 k).2.2.1 = some (tyJ1 k) := by decide +kernel
abbrev cJ1_charAt_3b067 : ByteArray := prog_34_method_2_code
def yJ1_charAt_3b067 : MethodName := ⟨RJ1, "charAt", "([BI)C"⟩
abbrev cJ1_canEncode_fc78d : ByteArray := prog_34_method_3_code
def yJ1_canEncode_fc78d : MethodName := ⟨RJ1, "canEncode", "(C)Z"⟩
abbrev cJ1_canEncode_9a6ad : ByteArray := prog_34_method_4_code
def yJ1_canEncode_9a6ad : MethodName := ⟨RJ1, "canEncode", "(I)Z"⟩
abbrev cJ1_equals_b5fdf : ByteArray := prog_34_method_13_code
def yJ1_equals_b5fdf : MethodName := ⟨RJ1, "equals", "([B[B)Z"⟩
abbrev cJ1_indexOf_4cfef : ByteArray := prog_34_method_22_code
def yJ1_indexOf_4cfef : MethodName := ⟨RJ1, "indexOf", "([BIII)I"⟩
abbrev cJ1_indexOfChar_4cfef : ByteArray := prog_34_method_23_code
def yJ1_indexOfChar_4cfef : MethodName := ⟨RJ1, "indexOfChar", "([BIII)I"⟩
abbrev cJ1_inflate_0e8fd : ByteArray := prog_34_method_50_code
def yJ1_inflate_0e8fd : MethodName := ⟨RJ1, "inflate", "([BI[BII)V"⟩
def RJ2 : String := "java/lang/StringUTF16"
def TJ2 : u_T := fun k => match k with
  | _ => ("", "", "", false)
def tyJ2 : Nat → FieldType := fun k => match k with
  | _ => .int
abbrev wsJ20 : List Cond := u_ws RJ2 TJ2 0
theorem nmJ2 : ∀ a, a < 0 → ∀ b, b < 0 → a ≠ b → (TJ2 a).2.1 ≠ (TJ2 b).2.1 := by decide +kernel
theorem tyJ2_ok : ∀ k, k < 0 → parseFieldDescriptor (TJ2 k).2.2.1 = some (tyJ2 k) := by decide +kernel
abbrev cJ2_newBytesFor_77867 : ByteArray := prog_35_method_2_code
def yJ2_newBytesFor_77867 : MethodName := ⟨RJ2, "newBytesFor", "(I)[B"⟩
abbrev cJ2_newBytesLength_0f7a4 : ByteArray := prog_35_method_3_code
def yJ2_newBytesLength_0f7a4 : MethodName := ⟨RJ2, "newBytesLength", "(I)I"⟩
abbrev cJ2_putChar_b72d1 : ByteArray := prog_35_method_4_code
def yJ2_putChar_b72d1 : MethodName := ⟨RJ2, "putChar", "([BII)V"⟩
abbrev cJ2_getChar_3b067 : ByteArray := prog_35_method_5_code
def yJ2_getChar_3b067 : MethodName := ⟨RJ2, "getChar", "([BI)C"⟩
abbrev cJ2_length_9d52b : ByteArray := prog_35_method_6_code
def yJ2_length_9d52b : MethodName := ⟨RJ2, "length", "([B)I"⟩
abbrev cJ2_coderFromArrayLen_85cad : ByteArray := prog_35_method_15_code
def yJ2_coderFromArrayLen_85cad : MethodName := ⟨RJ2, "coderFromArrayLen", "([BI)B"⟩
abbrev cJ2_compress_39247 : ByteArray := prog_35_method_17_code
def yJ2_compress_39247 : MethodName := ⟨RJ2, "compress", "([BII)[B"⟩
abbrev cJ2_compress_5af95 : ByteArray := prog_35_method_22_code
def yJ2_compress_5af95 : MethodName := ⟨RJ2, "compress", "([BI[BII)I"⟩
abbrev cJ2_indexOf_4cfef : ByteArray := prog_35_method_40_code
def yJ2_indexOf_4cfef : MethodName := ⟨RJ2, "indexOf", "([BIII)I"⟩
abbrev cJ2_indexOfChar_4cfef : ByteArray := prog_35_method_47_code
def yJ2_indexOfChar_4cfef : MethodName := ⟨RJ2, "indexOfChar", "([BIII)I"⟩
abbrev cJ2_indexOfCharUnsafe_4cfef : ByteArray := prog_35_method_48_code
def yJ2_indexOfCharUnsafe_4cfef : MethodName := ⟨RJ2, "indexOfCharUnsafe", "([BIII)I"⟩
abbrev cJ2_indexOfSupplementary_4cfef : ByteArray := prog_35_method_49_code
def yJ2_indexOfSupplementary_4cfef : MethodName := ⟨RJ2, "indexOfSupplementary", "([BIII)I"⟩
abbrev cJ2_putCharSB_b72d1 : ByteArray := prog_35_method_71_code
def yJ2_putCharSB_b72d1 : MethodName := ⟨RJ2, "putCharSB", "([BII)V"⟩
abbrev cJ2_getChars_46870 : ByteArray := prog_35_method_77_code
def yJ2_getChars_46870 : MethodName := ⟨RJ2, "getChars", "(III[B)I"⟩
abbrev cJ2_putCharsAt_cd4e5 : ByteArray := prog_35_method_81_code
def yJ2_putCharsAt_cd4e5 : MethodName := ⟨RJ2, "putCharsAt", "([BICCCC)I"⟩
abbrev cJ2_charAt_3b067 : ByteArray := prog_35_method_83_code
def yJ2_charAt_3b067 : MethodName := ⟨RJ2, "charAt", "([BI)C"⟩
abbrev cJ2_inflate_0e8fd : ByteArray := prog_35_method_86_code
def yJ2_inflate_0e8fd : MethodName := ⟨RJ2, "inflate", "([BI[BII)V"⟩
abbrev cJ2_getChars_ba4f3 : ByteArray := prog_35_method_89_code
def yJ2_getChars_ba4f3 : MethodName := ⟨RJ2, "getChars", "(II[B)I"⟩
abbrev cJ2_checkIndex_2214a : ByteArray := prog_35_method_91_code
def yJ2_checkIndex_2214a : MethodName := ⟨RJ2, "checkIndex", "(I[B)V"⟩
abbrev cJ2_checkBoundsBeginEnd_d044e : ByteArray := prog_35_method_93_code
def yJ2_checkBoundsBeginEnd_d044e : MethodName := ⟨RJ2, "checkBoundsBeginEnd", "(II[B)V"⟩
abbrev cJ2_checkBoundsOffCount_d044e : ByteArray := prog_35_method_94_code
def yJ2_checkBoundsOffCount_d044e : MethodName := ⟨RJ2, "checkBoundsOffCount", "(II[B)V"⟩
def RJ10 : String := "java/lang/System"
def TJ10 : u_T := fun k => match k with
  | _ => ("", "", "", false)
def tyJ10 : Nat → FieldType := fun k => match k with
  | _ => .int
abbrev wsJ100 : List Cond := u_ws RJ10 TJ10 0
theorem nmJ10 : ∀ a, a < 0 → ∀ b, b < 0 → a ≠ b → (TJ10 a).2.1 ≠ (TJ10 b).2.1 := by decide +kernel
theorem tyJ10_ok : ∀ k, k < 0 → parseFieldDescriptor (TJ10 k).2.2.1 = some (tyJ10 k) := by decide +kernel
def RJxfd54e : String := "java/lang/constant/Constable"
def TJxfd54e : u_T := fun k => match k with
  | _ => ("", "", "", false)
def tyJxfd54e : Nat → FieldType := fun k => match k with
  | _ => .int
abbrev wsJxfd54e0 : List Cond := u_ws RJxfd54e TJxfd54e 0
theorem nmJxfd54e : ∀ a, a < 0 → ∀ b, b < 0 → a ≠ b → (TJxfd54e a).2.1 ≠ (TJxfd54e b).2.1 := by decide +kernel
theorem tyJxfd54e_ok : ∀ k, k < 0 → parseFieldDescriptor (TJxfd54e k).2.2.1 = some (tyJxfd54e k) := by decide +kernel
def RJx3cf43 : String := "java/lang/constant/ConstantDesc"
def TJx3cf43 : u_T := fun k => match k with
  | _ => ("", "", "", false)
def tyJx3cf43 : Nat → FieldType := fun k => match k with
  | _ => .int
abbrev wsJx3cf430 : List Cond := u_ws RJx3cf43 TJx3cf43 0
theorem nmJx3cf43 : ∀ a, a < 0 → ∀ b, b < 0 → a ≠ b → (TJx3cf43 a).2.1 ≠ (TJx3cf43 b).2.1 := by decide +kernel
theorem tyJx3cf43_ok : ∀ k, k < 0 → parseFieldDescriptor (TJx3cf43 k).2.2.1 = some (tyJx3cf43 k) := by decide +kernel
def RJ7 : String := "java/util/Arrays"
def TJ7 : u_T := fun k => match k with
  | _ => ("", "", "", false)
def tyJ7 : Nat → FieldType := fun k => match k with
  | _ => .int
abbrev wsJ70 : List Cond := u_ws RJ7 TJ7 0
theorem nmJ7 : ∀ a, a < 0 → ∀ b, b < 0 → a ≠ b → (TJ7 a).2.1 ≠ (TJ7 b).2.1 := by decide +kernel
theorem tyJ7_ok : ∀ k, k < 0 → parseFieldDescriptor (TJ7 k).2.2.1 = some (tyJ7 k) := by decide +kernel
abbrev cJ7_fill_53178 : ByteArray := prog_40_method_103_code
def yJ7_fill_53178 : MethodName := ⟨RJ7, "fill", "([II)V"⟩
abbrev cJ7_copyOf_9075b : ByteArray := prog_40_method_121_code
def yJ7_copyOf_9075b : MethodName := ⟨RJ7, "copyOf", "([BI)[B"⟩
abbrev cJ7_checkLength_df160 : ByteArray := prog_40_method_131_code
def yJ7_checkLength_df160 : MethodName := ⟨RJ7, "checkLength", "(II)V"⟩
abbrev cJ7_copyOfRange_39247 : ByteArray := prog_40_method_132_code
def yJ7_copyOfRange_39247 : MethodName := ⟨RJ7, "copyOfRange", "([BII)[B"⟩
abbrev cJ7_copyOfRangeByte_39247 : ByteArray := prog_40_method_133_code
def yJ7_copyOfRangeByte_39247 : MethodName := ⟨RJ7, "copyOfRangeByte", "([BII)[B"⟩
def RJ8 : String := "jdk/internal/util/ArraysSupport"
def TJ8 : u_T := fun k => match k with
  | _ => ("", "", "", false)
def tyJ8 : Nat → FieldType := fun k => match k with
  | _ => .int
abbrev wsJ80 : List Cond := u_ws RJ8 TJ8 0
theorem nmJ8 : ∀ a, a < 0 → ∀ b, b < 0 → a ≠ b → (TJ8 a).2.1 ≠ (TJ8 b).2.1 := by decide +kernel
theorem tyJ8_ok : ∀ k, k < 0 → parseFieldDescriptor (TJ8 k).2.2.1 = some (tyJ8 k) := by decide +kernel
abbrev cJ8_newLength_cabcc : ByteArray := prog_42_method_27_code
def yJ8_newLength_cabcc : MethodName := ⟨RJ8, "newLength", "(III)I"⟩
abbrev cJ8_hugeLength_7cf53 : ByteArray := prog_42_method_28_code
def yJ8_hugeLength_7cf53 : MethodName := ⟨RJ8, "hugeLength", "(II)I"⟩
def RJ3 : String := "jdk/internal/util/Preconditions"
def TJ3 : u_T := fun k => match k with
  | _ => ("", "", "", false)
def tyJ3 : Nat → FieldType := fun k => match k with
  | _ => .int
abbrev wsJ30 : List Cond := u_ws RJ3 TJ3 0
theorem nmJ3 : ∀ a, a < 0 → ∀ b, b < 0 → a ≠ b → (TJ3 a).2.1 ≠ (TJ3 b).2.1 := by decide +kernel
theorem tyJ3_ok : ∀ k, k < 0 → parseFieldDescriptor (TJ3 k).2.2.1 = some (tyJ3 k) := by decide +kernel
abbrev cJ3_checkIndex_8e157 : ByteArray := prog_43_method_11_code
def yJ3_checkIndex_8e157 : MethodName := ⟨RJ3, "checkIndex", "(IILjava/util/function/BiFunction;)I"⟩
abbrev cJ3_checkFromToIndex_8c36e : ByteArray := prog_43_method_12_code
def yJ3_checkFromToIndex_8c36e : MethodName := ⟨RJ3, "checkFromToIndex", "(IIILjava/util/function/BiFunction;)I"⟩
abbrev cJ3_checkFromIndexSize_8c36e : ByteArray := prog_43_method_13_code
def yJ3_checkFromIndexSize_8c36e : MethodName := ⟨RJ3, "checkFromIndexSize", "(IIILjava/util/function/BiFunction;)I"⟩
def RL : String := "SongRefineryLaw"
abbrev cL_cell : ByteArray := method_2_code
def yL_cell : MethodName := ⟨RL, "cell", "([II)I"⟩
abbrev cL_addFilter : ByteArray := method_3_code
def yL_addFilter : MethodName := ⟨RL, "addFilter", "(LSongRefinery;CI)I"⟩
abbrev cL_insertFilter : ByteArray := method_4_code
def yL_insertFilter : MethodName := ⟨RL, "insertFilter", "(LSongRefinery;ICI)I"⟩
abbrev cL_removeFilter : ByteArray := method_5_code
def yL_removeFilter : MethodName := ⟨RL, "removeFilter", "(LSongRefinery;I)I"⟩
abbrev cL_swapFilters : ByteArray := method_6_code
def yL_swapFilters : MethodName := ⟨RL, "swapFilters", "(LSongRefinery;II)I"⟩
abbrev cL_filterKind : ByteArray := method_7_code
def yL_filterKind : MethodName := ⟨RL, "filterKind", "(LSongRefinery;I)I"⟩
abbrev cL_filterParameter : ByteArray := method_8_code
def yL_filterParameter : MethodName := ⟨RL, "filterParameter", "(LSongRefinery;I)I"⟩
abbrev cL_addNote : ByteArray := method_9_code
def yL_addNote : MethodName := ⟨RL, "addNote", "(LSongRefinery;IIII)I"⟩
abbrev cL_removeNote : ByteArray := method_10_code
def yL_removeNote : MethodName := ⟨RL, "removeNote", "(LSongRefinery;I)I"⟩
abbrev cL_noteCount : ByteArray := method_11_code
def yL_noteCount : MethodName := ⟨RL, "noteCount", "(LSongRefinery;I)I"⟩
abbrev cL_songLength : ByteArray := method_12_code
def yL_songLength : MethodName := ⟨RL, "songLength", "(LSongRefinery;I)I"⟩
abbrev cL_rawSample : ByteArray := method_13_code
def yL_rawSample : MethodName := ⟨RL, "rawSample", "(LSongRefinery;II)I"⟩
abbrev cL_sample : ByteArray := method_14_code
def yL_sample : MethodName := ⟨RL, "sample", "(LSongRefinery;II)I"⟩
abbrev cL_sampleByFilter : ByteArray := method_15_code
def yL_sampleByFilter : MethodName := ⟨RL, "sampleByFilter", "(LSongRefinery;II)I"⟩
abbrev cL_mixedSample : ByteArray := method_16_code
def yL_mixedSample : MethodName := ⟨RL, "mixedSample", "(LSongRefinery;III)I"⟩
abbrev cL_peak : ByteArray := method_17_code
def yL_peak : MethodName := ⟨RL, "peak", "(LSongRefinery;I)I"⟩
abbrev cL_energy : ByteArray := method_18_code
def yL_energy : MethodName := ⟨RL, "energy", "(LSongRefinery;I)J"⟩
abbrev cL_signChanges : ByteArray := method_19_code
def yL_signChanges : MethodName := ⟨RL, "signChanges", "(LSongRefinery;I)I"⟩
abbrev cL_addTank : ByteArray := method_20_code
def yL_addTank : MethodName := ⟨RL, "addTank", "(LSongRefinery;I)I"⟩
abbrev cL_setTuning : ByteArray := method_21_code
def yL_setTuning : MethodName := ⟨RL, "setTuning", "(LSongRefinery;II)I"⟩
abbrev cL_pour : ByteArray := method_22_code
def yL_pour : MethodName := ⟨RL, "pour", "(LSongRefinery;I)I"⟩
abbrev cL_drain : ByteArray := method_23_code
def yL_drain : MethodName := ⟨RL, "drain", "(LSongRefinery;II)I"⟩
abbrev cL_capacity : ByteArray := method_24_code
def yL_capacity : MethodName := ⟨RL, "capacity", "(LSongRefinery;I)I"⟩
abbrev cL_tuning : ByteArray := method_25_code
def yL_tuning : MethodName := ⟨RL, "tuning", "(LSongRefinery;I)I"⟩
abbrev cL_level : ByteArray := method_26_code
def yL_level : MethodName := ⟨RL, "level", "(LSongRefinery;I)I"⟩
abbrev cL_frameLoudness : ByteArray := method_27_code
def yL_frameLoudness : MethodName := ⟨RL, "frameLoudness", "(LSongRefinery;II)I"⟩
abbrev cL_frameCount : ByteArray := method_28_code
def yL_frameCount : MethodName := ⟨RL, "frameCount", "(LSongRefinery;I)I"⟩
abbrev cL_dropsFor : ByteArray := method_29_code
def yL_dropsFor : MethodName := ⟨RL, "dropsFor", "(LSongRefinery;I)I"⟩
abbrev cL_dropsByLevels : ByteArray := method_30_code
def yL_dropsByLevels : MethodName := ⟨RL, "dropsByLevels", "(LSongRefinery;I)I"⟩
abbrev cL_tankAtRank : ByteArray := method_31_code
def yL_tankAtRank : MethodName := ⟨RL, "tankAtRank", "(LSongRefinery;I)I"⟩
abbrev cL_append : ByteArray := method_32_code
def yL_append : MethodName := ⟨RL, "append", "(LSongRefinery;C)I"⟩
abbrev cL_run : ByteArray := method_33_code
def yL_run : MethodName := ⟨RL, "run", "(LSongRefinery;)I"⟩
abbrev cL_errorPosition : ByteArray := method_34_code
def yL_errorPosition : MethodName := ⟨RL, "errorPosition", "(LSongRefinery;)I"⟩
abbrev cL_failedCommand : ByteArray := method_35_code
def yL_failedCommand : MethodName := ⟨RL, "failedCommand", "(LSongRefinery;)I"⟩
abbrev cL_describeTank : ByteArray := method_36_code
def yL_describeTank : MethodName := ⟨RL, "describeTank", "(LSongRefinery;I)I"⟩
abbrev cL_lineAt : ByteArray := method_37_code
def yL_lineAt : MethodName := ⟨RL, "lineAt", "(LSongRefinery;I)I"⟩
abbrev cL_meanLevel : ByteArray := method_38_code
def yL_meanLevel : MethodName := ⟨RL, "meanLevel", "(LSongRefinery;I)D"⟩
abbrev cL_filledShare : ByteArray := method_39_code
def yL_filledShare : MethodName := ⟨RL, "filledShare", "(LSongRefinery;)F"⟩
abbrev cL_undo : ByteArray := method_40_code
def yL_undo : MethodName := ⟨RL, "undo", "(LSongRefinery;)I"⟩
abbrev cL_restore : ByteArray := method_41_code
def yL_restore : MethodName := ⟨RL, "restore", "(LSongRefinery;)I"⟩
abbrev cL_said : ByteArray := method_42_code
def yL_said : MethodName := ⟨RL, "said", "(LSongRefinery;I)Ljava/lang/String;"⟩
abbrev cL_some : ByteArray := method_44_code
def yL_some : MethodName := ⟨RL, "some", "(LSongRefineryLaw$Bits;I)I"⟩
abbrev cL_song : ByteArray := method_45_code
def yL_song : MethodName := ⟨RL, "song", "(LSongRefineryLaw$Bits;)I"⟩
abbrev cL_parameter : ByteArray := method_46_code
def yL_parameter : MethodName := ⟨RL, "parameter", "(CLSongRefineryLaw$Bits;)I"⟩
abbrev cL_kind : ByteArray := method_47_code
def yL_kind : MethodName := ⟨RL, "kind", "(LSongRefineryLaw$Bits;)C"⟩
abbrev cL_acts : ByteArray := method_48_code
def yL_acts : MethodName := ⟨RL, "acts", "(LSongRefinery;ILSongRefineryLaw$Bits;)I"⟩
abbrev cL_told : ByteArray := method_49_code
def yL_told : MethodName := ⟨RL, "told", "(LSongRefinery;)Ljava/lang/String;"⟩
abbrev cL_stock : ByteArray := method_50_code
def yL_stock : MethodName := ⟨RL, "stock", "(LSongRefinery;)I"⟩
abbrev cL_given : ByteArray := method_51_code
def yL_given : MethodName := ⟨RL, "given", "([IICI)I"⟩
abbrev cL_filtered : ByteArray := method_52_code
def yL_filtered : MethodName := ⟨RL, "filtered", "(LSongRefinery;I)[I"⟩
abbrev cL_samples : ByteArray := method_53_code
def yL_samples : MethodName := ⟨RL, "samples", "(LSongRefinery;ILSongRefineryLaw$Bits;)Z"⟩
abbrev cL_frames : ByteArray := method_54_code
def yL_frames : MethodName := ⟨RL, "frames", "(LSongRefinery;I)[I"⟩
abbrev cL_tanks : ByteArray := method_55_code
def yL_tanks : MethodName := ⟨RL, "tanks", "(LSongRefinery;)Z"⟩
abbrev cL_foretold : ByteArray := method_56_code
def yL_foretold : MethodName := ⟨RL, "foretold", "(LSongRefinery;LSongRefineryLaw$Bits;)Z"⟩
abbrev cL_law : ByteArray := code
def yL_law : MethodName := ⟨RL, "law", "([I)Z"⟩
abbrev vwCl : List vw_C := [(RJ0, TJ0, 4), (RJx00060, TJx00060, 6), (RX0, TX0, 3), (RX1, TX1, 6), (RX2, TX2, 3), (RX3, TX3, 2), (RX4, TX4, 3), (RX5, TX5, 4), (RX6, TX6, 3), (RX7, TX7, 8), (RX9, TX9, 12), (RX10, TX10, 1), (RJ4, TJ4, 4)]
