-- ===== PART A: goes FIRST, ahead of the names: the tables' words, and 'selects' of the private methods out of them =====
/-- a private method of a class that the tables say can be made, by its rows of tables_1 -/
def lw_okq (q : MethodName × Nat) : Prop := (q.1.cls ≠ "java/lang/invoke/MethodHandle" ∧ q.1.cls ≠ "java/lang/invoke/VarHandle") ∧ Cond.instantiable q.1.cls q.2 ∈ tables_1 ∧ Cond.privateMethod q.1 ∈ tables_1 ∧ Cond.instanceMethod q.1 ∈ tables_1
theorem lw_p0 : lw_okq (⟨"TowerFaces$Face", "slip", "()V"⟩, 7) := ⟨⟨by decide +kernel, by decide +kernel⟩, List.mem_of_getElem? (i := 46) (by decide +kernel), List.mem_of_getElem? (i := 271) (by decide +kernel), List.mem_of_getElem? (i := 272) (by decide +kernel)⟩
theorem lw_p1 : lw_okq (⟨"TowerFaces$Tower", "strainShaft", "()V"⟩, 7) := ⟨⟨by decide +kernel, by decide +kernel⟩, List.mem_of_getElem? (i := 18) (by decide +kernel), List.mem_of_getElem? (i := 279) (by decide +kernel), List.mem_of_getElem? (i := 280) (by decide +kernel)⟩
theorem lw_p2 : lw_okq (⟨"TowerFaces", "errorAfterOil", "(I)I"⟩, 6) := ⟨⟨by decide +kernel, by decide +kernel⟩, List.mem_of_getElem? (i := 10) (by decide +kernel), List.mem_of_getElem? (i := 357) (by decide +kernel), List.mem_of_getElem? (i := 358) (by decide +kernel)⟩
def lw_privs_1 : List (MethodName × Nat) := [(⟨"TowerFaces$Face", "slip", "()V"⟩, 7), (⟨"TowerFaces$Tower", "strainShaft", "()V"⟩, 7), (⟨"TowerFaces", "errorAfterOil", "(I)I"⟩, 6)]
theorem lw_r1 : ∀ q ∈ lw_privs_1, lw_okq q := List.forall_mem_cons.mpr ⟨lw_p0, List.forall_mem_cons.mpr ⟨lw_p1, List.forall_mem_cons.mpr ⟨lw_p2, fun _ h => absurd h List.not_mem_nil⟩⟩⟩
def lw_privs : List (MethodName × Nat) := lw_privs_1
def lw_tbl : List Cond := k2_sels lw_privs ++ tables_1
theorem lw_privs_ok : ∀ q ∈ lw_privs, lw_okq q := lw_r1

def RX0 : String := "TowerFaces$Face"
def TX0 : u_T := fun k => match k with
  | 0 => ("TowerFaces$Face", "dial", "I", false)
  | 1 => ("TowerFaces$Face", "teeth", "I", false)
  | 2 => ("TowerFaces$Face", "strain", "I", false)
  | 3 => ("TowerFaces$Face", "wear", "I", false)
  | 4 => ("TowerFaces$Face", "slips", "I", false)
  | 5 => ("TowerFaces$Face", "hasBell", "Z", false)
  | _ => ("TowerFaces$Face", "strikes", "I", false)
def tyX0 : Nat → FieldType := fun k => match k with
  | 0 => .int
  | 1 => .int
  | 2 => .int
  | 3 => .int
  | 4 => .int
  | 5 => .boolean
  | _ => .int
abbrev wsX00 : List Cond := u_ws RX0 TX0 7
theorem nmX0 : ∀ a, a < 7 → ∀ b, b < 7 → a ≠ b → (TX0 a).2.1 ≠ (TX0 b).2.1 := by decide +kernel
theorem tyX0_ok : ∀ k, k < 7 → parseFieldDescriptor (TX0 k).2.2.1 = some (tyX0 k) := by decide +kernel
abbrev cX0_init : ByteArray := prog_2_method_1_code
def yX0_init : MethodName := ⟨RX0, "<init>", "(I)V"⟩
abbrev cX0_copyFrom : ByteArray := prog_2_method_2_code
def yX0_copyFrom : MethodName := ⟨RX0, "copyFrom", "(LTowerFaces$Face;)V"⟩
abbrev cX0_takeOil : ByteArray := prog_2_method_3_code
def yX0_takeOil : MethodName := ⟨RX0, "takeOil", "()V"⟩
abbrev cX0_minutesToHour : ByteArray := prog_2_method_4_code
def yX0_minutesToHour : MethodName := ⟨RX0, "minutesToHour", "()I"⟩
abbrev cX0_passMinute : ByteArray := prog_2_method_5_code
def yX0_passMinute : MethodName := ⟨RX0, "passMinute", "(I)I"⟩
abbrev cX0_slip : ByteArray := prog_2_method_6_code
def yX0_slip : MethodName := ⟨RX0, "slip", "()V"⟩
abbrev cX0_goBack : ByteArray := prog_2_method_7_code
def yX0_goBack : MethodName := ⟨RX0, "goBack", "()V"⟩
def RX1 : String := "TowerFaces$History"
def TX1 : u_T := fun k => match k with
  | 0 => ("TowerFaces$History", "states", "[LTowerFaces$Tower;", true)
  | 1 => ("TowerFaces$History", "latest", "I", false)
  | _ => ("TowerFaces$History", "count", "I", false)
def tyX1 : Nat → FieldType := fun k => match k with
  | 0 => .array (.object "TowerFaces$Tower")
  | 1 => .int
  | _ => .int
abbrev wsX10 : List Cond := u_ws RX1 TX1 3
theorem nmX1 : ∀ a, a < 3 → ∀ b, b < 3 → a ≠ b → (TX1 a).2.1 ≠ (TX1 b).2.1 := by decide +kernel
theorem tyX1_ok : ∀ k, k < 3 → parseFieldDescriptor (TX1 k).2.2.1 = some (tyX1 k) := by decide +kernel
abbrev cX1_init : ByteArray := prog_3_method_1_code
def yX1_init : MethodName := ⟨RX1, "<init>", "()V"⟩
abbrev cX1_record : ByteArray := prog_3_method_2_code
def yX1_record : MethodName := ⟨RX1, "record", "(LTowerFaces$Tower;)V"⟩
def RX2 : String := "TowerFaces$Keepers"
def TX2 : u_T := fun k => match k with
  | 0 => ("TowerFaces$Keepers", "starts", "[I", true)
  | 1 => ("TowerFaces$Keepers", "wrongs", "[I", true)
  | _ => ("TowerFaces$Keepers", "count", "I", false)
def tyX2 : Nat → FieldType := fun k => match k with
  | 0 => .array .int
  | 1 => .array .int
  | _ => .int
abbrev wsX20 : List Cond := u_ws RX2 TX2 3
theorem nmX2 : ∀ a, a < 3 → ∀ b, b < 3 → a ≠ b → (TX2 a).2.1 ≠ (TX2 b).2.1 := by decide +kernel
theorem tyX2_ok : ∀ k, k < 3 → parseFieldDescriptor (TX2 k).2.2.1 = some (tyX2 k) := by decide +kernel
abbrev cX2_init : ByteArray := prog_4_method_1_code
def yX2_init : MethodName := ⟨RX2, "<init>", "()V"⟩
abbrev cX2_copyFrom : ByteArray := prog_4_method_2_code
def yX2_copyFrom : MethodName := ⟨RX2, "copyFrom", "(LTowerFaces$Keepers;)V"⟩
abbrev cX2_hasStart : ByteArray := prog_4_method_3_code
def yX2_hasStart : MethodName := ⟨RX2, "hasStart", "(I)Z"⟩
abbrev cX2_errorOfAdding : ByteArray := prog_4_method_4_code
def yX2_errorOfAdding : MethodName := ⟨RX2, "errorOfAdding", "(II)I"⟩
abbrev cX2_add : ByteArray := prog_4_method_5_code
def yX2_add : MethodName := ⟨RX2, "add", "(II)V"⟩
abbrev cX2_remove : ByteArray := prog_4_method_6_code
def yX2_remove : MethodName := ⟨RX2, "remove", "(I)I"⟩
abbrev cX2_placeAt : ByteArray := prog_4_method_7_code
def yX2_placeAt : MethodName := ⟨RX2, "placeAt", "(I)I"⟩
abbrev cX2_minutesToNext : ByteArray := prog_4_method_8_code
def yX2_minutesToNext : MethodName := ⟨RX2, "minutesToNext", "(I)I"⟩
def RX3 : String := "TowerFaces$Tower"
def TX3 : u_T := fun k => match k with
  | 0 => ("TowerFaces$Tower", "faces", "[LTowerFaces$Face;", true)
  | 1 => ("TowerFaces$Tower", "keepers", "LTowerFaces$Keepers;", true)
  | 2 => ("TowerFaces$Tower", "settings", "[I", true)
  | 3 => ("TowerFaces$Tower", "time", "I", false)
  | 4 => ("TowerFaces$Tower", "shaftStrain", "I", false)
  | 5 => ("TowerFaces$Tower", "shaftSlips", "I", false)
  | _ => ("TowerFaces$Tower", "facesSet", "I", false)
def tyX3 : Nat → FieldType := fun k => match k with
  | 0 => .array (.object "TowerFaces$Face")
  | 1 => .object "TowerFaces$Keepers"
  | 2 => .array .int
  | 3 => .int
  | 4 => .int
  | 5 => .int
  | _ => .int
abbrev wsX30 : List Cond := u_ws RX3 TX3 7
theorem nmX3 : ∀ a, a < 7 → ∀ b, b < 7 → a ≠ b → (TX3 a).2.1 ≠ (TX3 b).2.1 := by decide +kernel
theorem tyX3_ok : ∀ k, k < 7 → parseFieldDescriptor (TX3 k).2.2.1 = some (tyX3 k) := by decide +kernel
abbrev cX3_init : ByteArray := prog_5_method_1_code
def yX3_init : MethodName := ⟨RX3, "<init>", "()V"⟩
abbrev cX3_copyFrom : ByteArray := prog_5_method_2_code
def yX3_copyFrom : MethodName := ⟨RX3, "copyFrom", "(LTowerFaces$Tower;)V"⟩
abbrev cX3_faceAt : ByteArray := prog_5_method_3_code
def yX3_faceAt : MethodName := ⟨RX3, "faceAt", "(I)LTowerFaces$Face;"⟩
abbrev cX3_minuteOfDay : ByteArray := prog_5_method_4_code
def yX3_minuteOfDay : MethodName := ⟨RX3, "minuteOfDay", "()I"⟩
abbrev cX3_errorOfPassing : ByteArray := prog_5_method_5_code
def yX3_errorOfPassing : MethodName := ⟨RX3, "errorOfPassing", "(I)I"⟩
abbrev cX3_passMinutes : ByteArray := prog_5_method_6_code
def yX3_passMinutes : MethodName := ⟨RX3, "passMinutes", "(I)I"⟩
abbrev cX3_passMinute : ByteArray := prog_5_method_7_code
def yX3_passMinute : MethodName := ⟨RX3, "passMinute", "()I"⟩
abbrev cX3_strainShaft : ByteArray := prog_5_method_8_code
def yX3_strainShaft : MethodName := ⟨RX3, "strainShaft", "()V"⟩
abbrev cX3_timeOfKeeper : ByteArray := prog_5_method_9_code
def yX3_timeOfKeeper : MethodName := ⟨RX3, "timeOfKeeper", "()I"⟩
abbrev cX3_resetFaces : ByteArray := prog_5_method_10_code
def yX3_resetFaces : MethodName := ⟨RX3, "resetFaces", "()I"⟩
abbrev cX3_slipsOfGears : ByteArray := prog_5_method_11_code
def yX3_slipsOfGears : MethodName := ⟨RX3, "slipsOfGears", "()I"⟩
abbrev cX3_strikesOfBells : ByteArray := prog_5_method_12_code
def yX3_strikesOfBells : MethodName := ⟨RX3, "strikesOfBells", "()I"⟩
abbrev cX3_spread : ByteArray := prog_5_method_13_code
def yX3_spread : MethodName := ⟨RX3, "spread", "()I"⟩
abbrev cX3_distancesFromTime : ByteArray := prog_5_method_14_code
def yX3_distancesFromTime : MethodName := ⟨RX3, "distancesFromTime", "()I"⟩
abbrev cX3_facesWithDial : ByteArray := prog_5_method_15_code
def yX3_facesWithDial : MethodName := ⟨RX3, "facesWithDial", "(I)I"⟩
abbrev cX3_bells : ByteArray := prog_5_method_16_code
def yX3_bells : MethodName := ⟨RX3, "bells", "()I"⟩
abbrev cX3_faceOfBellInRound : ByteArray := prog_5_method_17_code
def yX3_faceOfBellInRound : MethodName := ⟨RX3, "faceOfBellInRound", "(I)I"⟩
def RX4 : String := "TowerFaces$WorkText"
def TX4 : u_T := fun k => match k with
  | 0 => ("TowerFaces$WorkText", "signs", "[C", true)
  | 1 => ("TowerFaces$WorkText", "length", "I", false)
  | 2 => ("TowerFaces$WorkText", "place", "I", false)
  | 3 => ("TowerFaces$WorkText", "kind", "I", false)
  | 4 => ("TowerFaces$WorkText", "face", "I", false)
  | 5 => ("TowerFaces$WorkText", "clock", "I", false)
  | _ => ("TowerFaces$WorkText", "number", "I", false)
def tyX4 : Nat → FieldType := fun k => match k with
  | 0 => .array .char
  | 1 => .int
  | 2 => .int
  | 3 => .int
  | 4 => .int
  | 5 => .int
  | _ => .int
abbrev wsX40 : List Cond := u_ws RX4 TX4 7
theorem nmX4 : ∀ a, a < 7 → ∀ b, b < 7 → a ≠ b → (TX4 a).2.1 ≠ (TX4 b).2.1 := by decide +kernel
theorem tyX4_ok : ∀ k, k < 7 → parseFieldDescriptor (TX4 k).2.2.1 = some (tyX4 k) := by decide +kernel
abbrev cX4_init : ByteArray := prog_6_method_1_code
def yX4_init : MethodName := ⟨RX4, "<init>", "()V"⟩
def RX5 : String := "TowerFaces"
def TX5 : u_T := fun k => match k with
  | 0 => ("TowerFaces", "tower", "LTowerFaces$Tower;", true)
  | 1 => ("TowerFaces", "trial", "LTowerFaces$Tower;", true)
  | 2 => ("TowerFaces", "saved", "LTowerFaces$Tower;", true)
  | 3 => ("TowerFaces", "isSaved", "Z", false)
  | 4 => ("TowerFaces", "history", "LTowerFaces$History;", true)
  | _ => ("TowerFaces", "text", "LTowerFaces$WorkText;", true)
def tyX5 : Nat → FieldType := fun k => match k with
  | 0 => .object "TowerFaces$Tower"
  | 1 => .object "TowerFaces$Tower"
  | 2 => .object "TowerFaces$Tower"
  | 3 => .boolean
  | 4 => .object "TowerFaces$History"
  | _ => .object "TowerFaces$WorkText"
abbrev wsX50 : List Cond := u_ws RX5 TX5 6
theorem nmX5 : ∀ a, a < 6 → ∀ b, b < 6 → a ≠ b → (TX5 a).2.1 ≠ (TX5 b).2.1 := by decide +kernel
theorem tyX5_ok : ∀ k, k < 6 → parseFieldDescriptor (TX5 k).2.2.1 = some (tyX5 k) := by decide +kernel
abbrev cX5_init : ByteArray := prog_1_method_1_code
def yX5_init : MethodName := ⟨RX5, "<init>", "()V"⟩
abbrev cX5_set : ByteArray := prog_1_method_2_code
def yX5_set : MethodName := ⟨RX5, "set", "(II)I"⟩
abbrev cX5_setting : ByteArray := prog_1_method_3_code
def yX5_setting : MethodName := ⟨RX5, "setting", "(I)I"⟩
abbrev cX5_gear : ByteArray := prog_1_method_4_code
def yX5_gear : MethodName := ⟨RX5, "gear", "(II)I"⟩
abbrev cX5_oil : ByteArray := prog_1_method_5_code
def yX5_oil : MethodName := ⟨RX5, "oil", "(I)I"⟩
abbrev cX5_dial : ByteArray := prog_1_method_6_code
def yX5_dial : MethodName := ⟨RX5, "dial", "(II)I"⟩
abbrev cX5_bell : ByteArray := prog_1_method_7_code
def yX5_bell : MethodName := ⟨RX5, "bell", "(I)I"⟩
abbrev cX5_pass : ByteArray := prog_1_method_8_code
def yX5_pass : MethodName := ⟨RX5, "pass", "(I)I"⟩
abbrev cX5_hire : ByteArray := prog_1_method_9_code
def yX5_hire : MethodName := ⟨RX5, "hire", "(II)I"⟩
abbrev cX5_dismiss : ByteArray := prog_1_method_10_code
def yX5_dismiss : MethodName := ⟨RX5, "dismiss", "(I)I"⟩
abbrev cX5_reset : ByteArray := prog_1_method_11_code
def yX5_reset : MethodName := ⟨RX5, "reset", "()I"⟩
abbrev cX5_keeper : ByteArray := prog_1_method_12_code
def yX5_keeper : MethodName := ⟨RX5, "keeper", "(II)I"⟩
abbrev cX5_keeperTime : ByteArray := prog_1_method_13_code
def yX5_keeperTime : MethodName := ⟨RX5, "keeperTime", "()I"⟩
abbrev cX5_face : ByteArray := prog_1_method_14_code
def yX5_face : MethodName := ⟨RX5, "face", "(II)I"⟩
abbrev cX5_total : ByteArray := prog_1_method_15_code
def yX5_total : MethodName := ⟨RX5, "total", "(I)I"⟩
abbrev cX5_majority : ByteArray := prog_1_method_16_code
def yX5_majority : MethodName := ⟨RX5, "majority", "()I"⟩
abbrev cX5_coming : ByteArray := prog_1_method_17_code
def yX5_coming : MethodName := ⟨RX5, "coming", "(II)I"⟩
abbrev cX5_spreadIn : ByteArray := prog_1_method_18_code
def yX5_spreadIn : MethodName := ⟨RX5, "spreadIn", "(I)I"⟩
abbrev cX5_minutesTo : ByteArray := prog_1_method_19_code
def yX5_minutesTo : MethodName := ⟨RX5, "minutesTo", "(I)I"⟩
abbrev cX5_bestOil : ByteArray := prog_1_method_20_code
def yX5_bestOil : MethodName := ⟨RX5, "bestOil", "()I"⟩
abbrev cX5_errorAfterOil : ByteArray := prog_1_method_21_code
def yX5_errorAfterOil : MethodName := ⟨RX5, "errorAfterOil", "(I)I"⟩
abbrev cX5_isWithin : ByteArray := prog_1_method_31_code
def yX5_isWithin : MethodName := ⟨RX5, "isWithin", "(III)Z"⟩
abbrev cX5_isSetting : ByteArray := prog_1_method_32_code
def yX5_isSetting : MethodName := ⟨RX5, "isSetting", "(I)Z"⟩
abbrev cX5_distance : ByteArray := prog_1_method_33_code
def yX5_distance : MethodName := ⟨RX5, "distance", "(II)I"⟩
abbrev cX5_strikesAt : ByteArray := prog_1_method_34_code
def yX5_strikesAt : MethodName := ⟨RX5, "strikesAt", "(I)I"⟩
def RX6 : String := "TowerFacesModel"
def TX6 : u_T := fun k => match k with
  | _ => ("", "", "", false)
def tyX6 : Nat → FieldType := fun k => match k with
  | _ => .int
abbrev wsX60 : List Cond := u_ws RX6 TX6 0
theorem nmX6 : ∀ a, a < 0 → ∀ b, b < 0 → a ≠ b → (TX6 a).2.1 ≠ (TX6 b).2.1 := by decide +kernel
theorem tyX6_ok : ∀ k, k < 0 → parseFieldDescriptor (TX6 k).2.2.1 = some (tyX6 k) := by decide +kernel
def RJ9 : String := "java/lang/Math"
def TJ9 : u_T := fun k => match k with
  | _ => ("", "", "", false)
def tyJ9 : Nat → FieldType := fun k => match k with
  | _ => .int
abbrev cJ9_floorMod_7cf53 : ByteArray := prog_9_method_50_code
def yJ9_floorMod_7cf53 : MethodName := ⟨RJ9, "floorMod", "(II)I"⟩
def RJ10 : String := "java/lang/System"
def TJ10 : u_T := fun k => match k with
  | _ => ("", "", "", false)
def tyJ10 : Nat → FieldType := fun k => match k with
  | _ => .int
def RL : String := "TowerFacesLaw"
abbrev cL_cell : ByteArray := method_2_code
def yL_cell : MethodName := ⟨RL, "cell", "([II)I"⟩
abbrev cL_low : ByteArray := method_3_code
def yL_low : MethodName := ⟨RL, "low", "(II)I"⟩
abbrev cL_apart : ByteArray := method_4_code
def yL_apart : MethodName := ⟨RL, "apart", "(II)I"⟩
abbrev cL_watch : ByteArray := method_5_code
def yL_watch : MethodName := ⟨RL, "watch", "([I[II)I"⟩
abbrev cL_keeperTime : ByteArray := method_6_code
def yL_keeperTime : MethodName := ⟨RL, "keeperTime", "([I[I)I"⟩
abbrev cL_reset : ByteArray := method_7_code
def yL_reset : MethodName := ⟨RL, "reset", "([I[I[I)I"⟩
abbrev cL_minute : ByteArray := method_8_code
def yL_minute : MethodName := ⟨RL, "minute", "([I[I[I)I"⟩
abbrev cL_spread : ByteArray := method_9_code
def yL_spread : MethodName := ⟨RL, "spread", "([I)I"⟩
abbrev cL_copy : ByteArray := method_10_code
def yL_copy : MethodName := ⟨RL, "copy", "([I[I)[I"⟩
abbrev cL_sum : ByteArray := method_11_code
def yL_sum : MethodName := ⟨RL, "sum", "([II)I"⟩
abbrev cL_tower : ByteArray := method_12_code
def yL_tower : MethodName := ⟨RL, "tower", "(LTowerFaces;[I[I[II)Z"⟩
abbrev cL_bells : ByteArray := method_13_code
def yL_bells : MethodName := ⟨RL, "bells", "(LTowerFaces;[I)Z"⟩
abbrev cL_law : ByteArray := code
def yL_law : MethodName := ⟨RL, "law", "([I)Z"⟩
abbrev vwCl : List vw_C := [(RX0, TX0, 7), (RX1, TX1, 3), (RX2, TX2, 3), (RX3, TX3, 7), (RX4, TX4, 7), (RX5, TX5, 6)]
