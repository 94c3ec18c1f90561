/-! ===== BEGIN printed: names, fields, word lists, decode rows ===== -/
def RX0 : String := "StampWorks$Box"
def TX0 : u_T := fun k => match k with
  | 0 => ("StampWorks$Box", "stamps", "[LStampWorks$Stamp;", true)
  | 1 => ("StampWorks$Box", "lumps", "LStampWorks$Ore;", true)
  | 2 => ("StampWorks$Box", "grit", "LStampWorks$Ore;", true)
  | 3 => ("StampWorks$Box", "sand", "LStampWorks$Ore;", true)
  | 4 => ("StampWorks$Box", "stampCount", "I", false)
  | 5 => ("StampWorks$Box", "feed", "I", false)
  | 6 => ("StampWorks$Box", "buddle", "I", false)
  | 7 => ("StampWorks$Box", "hardness", "I", false)
  | _ => ("StampWorks$Box", "force", "I", false)
def tyX0 : Nat → FieldType := fun k => match k with
  | 0 => .array (.object "StampWorks$Stamp")
  | 1 => .object "StampWorks$Ore"
  | 2 => .object "StampWorks$Ore"
  | 3 => .object "StampWorks$Ore"
  | 4 => .int
  | 5 => .int
  | 6 => .int
  | 7 => .int
  | _ => .int
abbrev wsX00 : List Cond := u_ws RX0 TX0 9
theorem nmX0 : ∀ a, a < 9 → ∀ b, b < 9 → a ≠ b → (TX0 a).2.1 ≠ (TX0 b).2.1 := by decide +kernel
theorem tyX0_ok : ∀ k, k < 9 → parseFieldDescriptor (TX0 k).2.2.1 = some (tyX0 k) := by decide +kernel
abbrev cX0_init : ByteArray := prog_2_method_1_code
def yX0_init : MethodName := ⟨RX0, "<init>", "()V"⟩
abbrev cX0_addStamp : ByteArray := prog_2_method_2_code
def yX0_addStamp : MethodName := ⟨RX0, "addStamp", "(II)V"⟩
abbrev cX0_tellOfBox : ByteArray := prog_2_method_3_code
def yX0_tellOfBox : MethodName := ⟨RX0, "tellOfBox", "(I)I"⟩
abbrev cX0_tinOfSizes : ByteArray := prog_2_method_4_code
def yX0_tinOfSizes : MethodName := ⟨RX0, "tinOfSizes", "()I"⟩
abbrev cX0_wearOfStamps : ByteArray := prog_2_method_5_code
def yX0_wearOfStamps : MethodName := ⟨RX0, "wearOfStamps", "()I"⟩
abbrev cX0_loadOfStamps : ByteArray := prog_2_method_6_code
def yX0_loadOfStamps : MethodName := ⟨RX0, "loadOfStamps", "()I"⟩
abbrev cX0_forceOfStamps : ByteArray := prog_2_method_7_code
def yX0_forceOfStamps : MethodName := ⟨RX0, "forceOfStamps", "(I)I"⟩
abbrev cX0_blow : ByteArray := prog_2_method_8_code
def yX0_blow : MethodName := ⟨RX0, "blow", "(I)V"⟩
abbrev cX0_loseSlime : ByteArray := prog_2_method_9_code
def yX0_loseSlime : MethodName := ⟨RX0, "loseSlime", "()I"⟩
abbrev cX0_grate : ByteArray := prog_2_method_10_code
def yX0_grate : MethodName := ⟨RX0, "grate", "(LStampWorks$Ore;I)V"⟩
abbrev cX0_wearStamps : ByteArray := prog_2_method_11_code
def yX0_wearStamps : MethodName := ⟨RX0, "wearStamps", "(I)V"⟩
abbrev cX0_copyBox : ByteArray := prog_2_method_12_code
def yX0_copyBox : MethodName := ⟨RX0, "copyBox", "(LStampWorks$Box;)V"⟩
def RX1 : String := "StampWorks$Hopper"
def TX1 : u_T := fun k => match k with
  | 0 => ("StampWorks$Hopper", "ring", "[LStampWorks$Lot;", true)
  | 1 => ("StampWorks$Hopper", "first", "I", false)
  | _ => ("StampWorks$Hopper", "count", "I", false)
def tyX1 : Nat → FieldType := fun k => match k with
  | 0 => .array (.object "StampWorks$Lot")
  | 1 => .int
  | _ => .int
abbrev wsX10 : List Cond := u_ws RX1 TX1 3
theorem nmX1 : ∀ a, a < 3 → ∀ b, b < 3 → a ≠ b → (TX1 a).2.1 ≠ (TX1 b).2.1 := by decide +kernel
theorem tyX1_ok : ∀ k, k < 3 → parseFieldDescriptor (TX1 k).2.2.1 = some (tyX1 k) := by decide +kernel
abbrev cX1_init : ByteArray := prog_3_method_1_code
def yX1_init : MethodName := ⟨RX1, "<init>", "()V"⟩
abbrev cX1_lotAt : ByteArray := prog_3_method_2_code
def yX1_lotAt : MethodName := ⟨RX1, "lotAt", "(I)LStampWorks$Lot;"⟩
abbrev cX1_addLot : ByteArray := prog_3_method_3_code
def yX1_addLot : MethodName := ⟨RX1, "addLot", "(III)V"⟩
abbrev cX1_dropFirst : ByteArray := prog_3_method_4_code
def yX1_dropFirst : MethodName := ⟨RX1, "dropFirst", "()V"⟩
abbrev cX1_oreOfLots : ByteArray := prog_3_method_5_code
def yX1_oreOfLots : MethodName := ⟨RX1, "oreOfLots", "()I"⟩
abbrev cX1_feedInto : ByteArray := prog_3_method_6_code
def yX1_feedInto : MethodName := ⟨RX1, "feedInto", "(LStampWorks$Ore;II)I"⟩
abbrev cX1_copyHopper : ByteArray := prog_3_method_7_code
def yX1_copyHopper : MethodName := ⟨RX1, "copyHopper", "(LStampWorks$Hopper;)V"⟩
def RX2 : String := "StampWorks$Lot"
def TX2 : u_T := fun k => match k with
  | 0 => ("StampWorks$Lot", "ore", "LStampWorks$Ore;", true)
  | _ => ("StampWorks$Lot", "hardness", "I", false)
def tyX2 : Nat → FieldType := fun k => match k with
  | 0 => .object "StampWorks$Ore"
  | _ => .int
abbrev wsX20 : List Cond := u_ws RX2 TX2 2
theorem nmX2 : ∀ a, a < 2 → ∀ b, b < 2 → a ≠ b → (TX2 a).2.1 ≠ (TX2 b).2.1 := by decide +kernel
theorem tyX2_ok : ∀ k, k < 2 → parseFieldDescriptor (TX2 k).2.2.1 = some (tyX2 k) := by decide +kernel
abbrev cX2_init : ByteArray := prog_4_method_1_code
def yX2_init : MethodName := ⟨RX2, "<init>", "()V"⟩
abbrev cX2_tellOfLot : ByteArray := prog_4_method_2_code
def yX2_tellOfLot : MethodName := ⟨RX2, "tellOfLot", "(I)I"⟩
abbrev cX2_copyLot : ByteArray := prog_4_method_3_code
def yX2_copyLot : MethodName := ⟨RX2, "copyLot", "(LStampWorks$Lot;)V"⟩
def RX3 : String := "StampWorks$Ore"
def TX3 : u_T := fun k => match k with
  | 0 => ("StampWorks$Ore", "rock", "I", false)
  | _ => ("StampWorks$Ore", "tin", "I", false)
def tyX3 : Nat → FieldType := fun k => match k with
  | 0 => .int
  | _ => .int
abbrev wsX30 : List Cond := u_ws RX3 TX3 2
theorem nmX3 : ∀ a, a < 2 → ∀ b, b < 2 → a ≠ b → (TX3 a).2.1 ≠ (TX3 b).2.1 := by decide +kernel
theorem tyX3_ok : ∀ k, k < 2 → parseFieldDescriptor (TX3 k).2.2.1 = some (tyX3 k) := by decide +kernel
abbrev cX3_init : ByteArray := prog_5_method_1_code
def yX3_init : MethodName := ⟨RX3, "<init>", "()V"⟩
abbrev cX3_whole : ByteArray := prog_5_method_2_code
def yX3_whole : MethodName := ⟨RX3, "whole", "()I"⟩
abbrev cX3_tellOfOre : ByteArray := prog_5_method_3_code
def yX3_tellOfOre : MethodName := ⟨RX3, "tellOfOre", "(I)I"⟩
abbrev cX3_put : ByteArray := prog_5_method_4_code
def yX3_put : MethodName := ⟨RX3, "put", "(II)V"⟩
abbrev cX3_become : ByteArray := prog_5_method_5_code
def yX3_become : MethodName := ⟨RX3, "become", "(II)V"⟩
abbrev cX3_copyOre : ByteArray := prog_5_method_6_code
def yX3_copyOre : MethodName := ⟨RX3, "copyOre", "(LStampWorks$Ore;)V"⟩
abbrev cX3_moveTo : ByteArray := prog_5_method_7_code
def yX3_moveTo : MethodName := ⟨RX3, "moveTo", "(LStampWorks$Ore;I)I"⟩
def RX4 : String := "StampWorks$Stamp"
def TX4 : u_T := fun k => match k with
  | 0 => ("StampWorks$Stamp", "weight", "I", false)
  | 1 => ("StampWorks$Stamp", "cams", "I", false)
  | _ => ("StampWorks$Stamp", "wear", "I", false)
def tyX4 : Nat → FieldType := fun k => match k with
  | 0 => .int
  | 1 => .int
  | _ => .int
abbrev wsX40 : List Cond := u_ws RX4 TX4 3
theorem nmX4 : ∀ a, a < 3 → ∀ b, b < 3 → a ≠ b → (TX4 a).2.1 ≠ (TX4 b).2.1 := by decide +kernel
theorem tyX4_ok : ∀ k, k < 3 → parseFieldDescriptor (TX4 k).2.2.1 = some (tyX4 k) := by decide +kernel
abbrev cX4_init : ByteArray := prog_6_method_1_code
def yX4_init : MethodName := ⟨RX4, "<init>", "()V"⟩
abbrev cX4_loadOfStamp : ByteArray := prog_6_method_2_code
def yX4_loadOfStamp : MethodName := ⟨RX4, "loadOfStamp", "()I"⟩
abbrev cX4_forceOfStamp : ByteArray := prog_6_method_3_code
def yX4_forceOfStamp : MethodName := ⟨RX4, "forceOfStamp", "(I)I"⟩
abbrev cX4_wearBy : ByteArray := prog_6_method_4_code
def yX4_wearBy : MethodName := ⟨RX4, "wearBy", "(I)V"⟩
abbrev cX4_copyStamp : ByteArray := prog_6_method_5_code
def yX4_copyStamp : MethodName := ⟨RX4, "copyStamp", "(LStampWorks$Stamp;)V"⟩
def RX5 : String := "StampWorks$Works"
def TX5 : u_T := fun k => match k with
  | 0 => ("StampWorks$Works", "inflow", "[I", true)
  | 1 => ("StampWorks$Works", "boxes", "[LStampWorks$Box;", true)
  | 2 => ("StampWorks$Works", "hopper", "LStampWorks$Hopper;", true)
  | 3 => ("StampWorks$Works", "buddles", "[LStampWorks$Ore;", true)
  | 4 => ("StampWorks$Works", "store", "LStampWorks$Ore;", true)
  | 5 => ("StampWorks$Works", "tails", "LStampWorks$Ore;", true)
  | 6 => ("StampWorks$Works", "hour", "I", false)
  | 7 => ("StampWorks$Works", "pond", "I", false)
  | 8 => ("StampWorks$Works", "sluice", "I", false)
  | 9 => ("StampWorks$Works", "boxCount", "I", false)
  | 10 => ("StampWorks$Works", "slime", "I", false)
  | _ => ("StampWorks$Works", "metal", "I", false)
def tyX5 : Nat → FieldType := fun k => match k with
  | 0 => .array .int
  | 1 => .array (.object "StampWorks$Box")
  | 2 => .object "StampWorks$Hopper"
  | 3 => .array (.object "StampWorks$Ore")
  | 4 => .object "StampWorks$Ore"
  | 5 => .object "StampWorks$Ore"
  | 6 => .int
  | 7 => .int
  | 8 => .int
  | 9 => .int
  | 10 => .int
  | _ => .int
abbrev wsX50 : List Cond := u_ws RX5 TX5 12
theorem nmX5 : ∀ a, a < 12 → ∀ b, b < 12 → a ≠ b → (TX5 a).2.1 ≠ (TX5 b).2.1 := by decide +kernel
theorem tyX5_ok : ∀ k, k < 12 → parseFieldDescriptor (TX5 k).2.2.1 = some (tyX5 k) := by decide +kernel
abbrev cX5_init : ByteArray := prog_7_method_1_code
def yX5_init : MethodName := ⟨RX5, "<init>", "()V"⟩
abbrev cX5_tellOfWorks : ByteArray := prog_7_method_2_code
def yX5_tellOfWorks : MethodName := ⟨RX5, "tellOfWorks", "(I)I"⟩
abbrev cX5_loadOfWheel : ByteArray := prog_7_method_3_code
def yX5_loadOfWheel : MethodName := ⟨RX5, "loadOfWheel", "()I"⟩
abbrev cX5_tinOfBoxes : ByteArray := prog_7_method_4_code
def yX5_tinOfBoxes : MethodName := ⟨RX5, "tinOfBoxes", "()I"⟩
abbrev cX5_tinOfBuddles : ByteArray := prog_7_method_5_code
def yX5_tinOfBuddles : MethodName := ⟨RX5, "tinOfBuddles", "()I"⟩
abbrev cX5_passHours : ByteArray := prog_7_method_6_code
def yX5_passHours : MethodName := ⟨RX5, "passHours", "(I)I"⟩
abbrev cX5_passHour : ByteArray := prog_7_method_7_code
def yX5_passHour : MethodName := ⟨RX5, "passHour", "()I"⟩
abbrev cX5_takeWater : ByteArray := prog_7_method_8_code
def yX5_takeWater : MethodName := ⟨RX5, "takeWater", "()I"⟩
abbrev cX5_workBox : ByteArray := prog_7_method_9_code
def yX5_workBox : MethodName := ⟨RX5, "workBox", "(LStampWorks$Box;II)V"⟩
abbrev cX5_partByWater : ByteArray := prog_7_method_10_code
def yX5_partByWater : MethodName := ⟨RX5, "partByWater", "(LStampWorks$Ore;I)I"⟩
abbrev cX5_smeltFromStore : ByteArray := prog_7_method_11_code
def yX5_smeltFromStore : MethodName := ⟨RX5, "smeltFromStore", "(I)I"⟩
abbrev cX5_copyWorks : ByteArray := prog_7_method_12_code
def yX5_copyWorks : MethodName := ⟨RX5, "copyWorks", "(LStampWorks$Works;)V"⟩
def RX6 : String := "StampWorks"
def TX6 : u_T := fun k => match k with
  | 0 => ("StampWorks", "works", "LStampWorks$Works;", true)
  | _ => ("StampWorks", "trial", "LStampWorks$Works;", true)
def tyX6 : Nat → FieldType := fun k => match k with
  | 0 => .object "StampWorks$Works"
  | _ => .object "StampWorks$Works"
abbrev wsX60 : List Cond := u_ws RX6 TX6 2
theorem nmX6 : ∀ a, a < 2 → ∀ b, b < 2 → a ≠ b → (TX6 a).2.1 ≠ (TX6 b).2.1 := by decide +kernel
theorem tyX6_ok : ∀ k, k < 2 → parseFieldDescriptor (TX6 k).2.2.1 = some (tyX6 k) := by decide +kernel
abbrev cX6_init : ByteArray := prog_1_method_1_code
def yX6_init : MethodName := ⟨RX6, "<init>", "()V"⟩
abbrev cX6_setInflow : ByteArray := prog_1_method_2_code
def yX6_setInflow : MethodName := ⟨RX6, "setInflow", "(II)I"⟩
abbrev cX6_setSluice : ByteArray := prog_1_method_3_code
def yX6_setSluice : MethodName := ⟨RX6, "setSluice", "(I)I"⟩
abbrev cX6_addBox : ByteArray := prog_1_method_4_code
def yX6_addBox : MethodName := ⟨RX6, "addBox", "()I"⟩
abbrev cX6_hang : ByteArray := prog_1_method_5_code
def yX6_hang : MethodName := ⟨RX6, "hang", "(III)I"⟩
abbrev cX6_shoe : ByteArray := prog_1_method_6_code
def yX6_shoe : MethodName := ⟨RX6, "shoe", "(II)I"⟩
abbrev cX6_setBox : ByteArray := prog_1_method_7_code
def yX6_setBox : MethodName := ⟨RX6, "setBox", "(III)I"⟩
abbrev cX6_box : ByteArray := prog_1_method_8_code
def yX6_box : MethodName := ⟨RX6, "box", "(II)I"⟩
abbrev cX6_bring : ByteArray := prog_1_method_9_code
def yX6_bring : MethodName := ⟨RX6, "bring", "(III)I"⟩
abbrev cX6_lot : ByteArray := prog_1_method_10_code
def yX6_lot : MethodName := ⟨RX6, "lot", "(II)I"⟩
abbrev cX6_run : ByteArray := prog_1_method_11_code
def yX6_run : MethodName := ⟨RX6, "run", "(I)I"⟩
abbrev cX6_count : ByteArray := prog_1_method_12_code
def yX6_count : MethodName := ⟨RX6, "count", "(I)I"⟩
abbrev cX6_buddle : ByteArray := prog_1_method_13_code
def yX6_buddle : MethodName := ⟨RX6, "buddle", "(II)I"⟩
abbrev cX6_wash : ByteArray := prog_1_method_14_code
def yX6_wash : MethodName := ⟨RX6, "wash", "(II)I"⟩
abbrev cX6_again : ByteArray := prog_1_method_15_code
def yX6_again : MethodName := ⟨RX6, "again", "(I)I"⟩
abbrev cX6_smelt : ByteArray := prog_1_method_16_code
def yX6_smelt : MethodName := ⟨RX6, "smelt", "(I)I"⟩
abbrev cX6_foresee : ByteArray := prog_1_method_17_code
def yX6_foresee : MethodName := ⟨RX6, "foresee", "(II)I"⟩
abbrev cX6_advise : ByteArray := prog_1_method_18_code
def yX6_advise : MethodName := ⟨RX6, "advise", "(I)I"⟩
abbrev cX6_bestWater : ByteArray := prog_1_method_19_code
def yX6_bestWater : MethodName := ⟨RX6, "bestWater", "(II)I"⟩
abbrev cX6_share : ByteArray := prog_1_method_20_code
def yX6_share : MethodName := ⟨RX6, "share", "()D"⟩
abbrev cX6_digest : ByteArray := prog_1_method_21_code
def yX6_digest : MethodName := ⟨RX6, "digest", "()J"⟩
abbrev cX6_boxNumbered : ByteArray := prog_1_method_22_code
def yX6_boxNumbered : MethodName := ⟨RX6, "boxNumbered", "(I)LStampWorks$Box;"⟩
abbrev cX6_buddleNumbered : ByteArray := prog_1_method_23_code
def yX6_buddleNumbered : MethodName := ⟨RX6, "buddleNumbered", "(I)LStampWorks$Ore;"⟩
abbrev cX6_refuseFullHopper : ByteArray := prog_1_method_24_code
def yX6_refuseFullHopper : MethodName := ⟨RX6, "refuseFullHopper", "()V"⟩
abbrev cX6_refuseHours : ByteArray := prog_1_method_25_code
def yX6_refuseHours : MethodName := ⟨RX6, "refuseHours", "(II)V"⟩
abbrev cX6_refuseLateHour : ByteArray := prog_1_method_26_code
def yX6_refuseLateHour : MethodName := ⟨RX6, "refuseLateHour", "(I)V"⟩
abbrev cX6_join : ByteArray := prog_1_method_27_code
def yX6_join : MethodName := ⟨RX6, "join", "(JJ)J"⟩
abbrev cX6_joinBox : ByteArray := prog_1_method_28_code
def yX6_joinBox : MethodName := ⟨RX6, "joinBox", "(JLStampWorks$Box;)J"⟩
abbrev cX6_joinLot : ByteArray := prog_1_method_29_code
def yX6_joinLot : MethodName := ⟨RX6, "joinLot", "(JLStampWorks$Lot;)J"⟩
abbrev cX6_joinBuddle : ByteArray := prog_1_method_30_code
def yX6_joinBuddle : MethodName := ⟨RX6, "joinBuddle", "(JLStampWorks$Ore;)J"⟩
abbrev cX6_gradeOf : ByteArray := prog_1_method_31_code
def yX6_gradeOf : MethodName := ⟨RX6, "gradeOf", "(II)I"⟩
abbrev cX6_tinOfHead : ByteArray := prog_1_method_32_code
def yX6_tinOfHead : MethodName := ⟨RX6, "tinOfHead", "(II)I"⟩
abbrev cX6_rockOfHead : ByteArray := prog_1_method_33_code
def yX6_rockOfHead : MethodName := ⟨RX6, "rockOfHead", "(II)I"⟩
abbrev cX6_partOf : ByteArray := prog_1_method_34_code
def yX6_partOf : MethodName := ⟨RX6, "partOf", "(III)I"⟩
def RX7 : String := "StampWorksModel$State"
def TX7 : u_T := fun k => match k with
  | 0 => ("StampWorksModel$State", "hour", "I", false)
  | 1 => ("StampWorksModel$State", "pond", "I", false)
  | 2 => ("StampWorksModel$State", "sluice", "I", false)
  | 3 => ("StampWorksModel$State", "inflow", "[I", true)
  | 4 => ("StampWorksModel$State", "boxes", "I", false)
  | 5 => ("StampWorksModel$State", "stamps", "[I", true)
  | 6 => ("StampWorksModel$State", "weight", "[I", true)
  | 7 => ("StampWorksModel$State", "cams", "[I", true)
  | 8 => ("StampWorksModel$State", "wear", "[I", true)
  | 9 => ("StampWorksModel$State", "feed", "[I", true)
  | 10 => ("StampWorksModel$State", "goes", "[I", true)
  | 11 => ("StampWorksModel$State", "hardness", "[I", true)
  | 12 => ("StampWorksModel$State", "force", "[I", true)
  | 13 => ("StampWorksModel$State", "ore", "[I", true)
  | 14 => ("StampWorksModel$State", "lots", "I", false)
  | 15 => ("StampWorksModel$State", "lot", "[I", true)
  | 16 => ("StampWorksModel$State", "buddle", "[I", true)
  | _ => ("StampWorksModel$State", "slime", "I", false)
def tyX7 : Nat → FieldType := fun k => match k with
  | 0 => .int
  | 1 => .int
  | 2 => .int
  | 3 => .array .int
  | 4 => .int
  | 5 => .array .int
  | 6 => .array .int
  | 7 => .array .int
  | 8 => .array .int
  | 9 => .array .int
  | 10 => .array .int
  | 11 => .array .int
  | 12 => .array .int
  | 13 => .array .int
  | 14 => .int
  | 15 => .array .int
  | 16 => .array .int
  | _ => .int
abbrev wsX70 : List Cond := u_ws RX7 TX7 18
theorem nmX7 : ∀ a, a < 18 → ∀ b, b < 18 → a ≠ b → (TX7 a).2.1 ≠ (TX7 b).2.1 := by decide +kernel
theorem tyX7_ok : ∀ k, k < 18 → parseFieldDescriptor (TX7 k).2.2.1 = some (tyX7 k) := by decide +kernel
abbrev cX7_init : ByteArray := prog_10_method_1_code
def yX7_init : MethodName := ⟨RX7, "<init>", "()V"⟩
abbrev cX7_copy : ByteArray := prog_10_method_2_code
def yX7_copy : MethodName := ⟨RX7, "copy", "([I[I)V"⟩
abbrev cX7_become : ByteArray := prog_10_method_3_code
def yX7_become : MethodName := ⟨RX7, "become", "(LStampWorksModel$State;)V"⟩
abbrev cX7_load : ByteArray := prog_10_method_4_code
def yX7_load : MethodName := ⟨RX7, "load", "()I"⟩
abbrev cX7_tinOf : ByteArray := prog_10_method_5_code
def yX7_tinOf : MethodName := ⟨RX7, "tinOf", "([III)I"⟩
abbrev cX7_move : ByteArray := prog_10_method_6_code
def yX7_move : MethodName := ⟨RX7, "move", "([II[III)V"⟩
abbrev cX7_dropLot : ByteArray := prog_10_method_7_code
def yX7_dropLot : MethodName := ⟨RX7, "dropLot", "()V"⟩
abbrev cX7_addLot : ByteArray := prog_10_method_8_code
def yX7_addLot : MethodName := ⟨RX7, "addLot", "(III)V"⟩
abbrev cX7_oreOf : ByteArray := prog_10_method_9_code
def yX7_oreOf : MethodName := ⟨RX7, "oreOf", "(II)I"⟩
abbrev cX7_inBuddle : ByteArray := prog_10_method_10_code
def yX7_inBuddle : MethodName := ⟨RX7, "inBuddle", "(I)I"⟩
abbrev cX7_pass : ByteArray := prog_10_method_11_code
def yX7_pass : MethodName := ⟨RX7, "pass", "()I"⟩
abbrev cX7_eat : ByteArray := prog_10_method_12_code
def yX7_eat : MethodName := ⟨RX7, "eat", "(I)V"⟩
abbrev cX7_blow : ByteArray := prog_10_method_13_code
def yX7_blow : MethodName := ⟨RX7, "blow", "(II)V"⟩
abbrev cX7_tinInBuddles : ByteArray := prog_10_method_14_code
def yX7_tinInBuddles : MethodName := ⟨RX7, "tinInBuddles", "()I"⟩
abbrev cX7_inHopper : ByteArray := prog_10_method_15_code
def yX7_inHopper : MethodName := ⟨RX7, "inHopper", "()I"⟩
def RX8 : String := "StampWorksModel"
def TX8 : u_T := fun k => match k with
  | 0 => ("StampWorksModel", "thrown", "I", false)
  | 1 => ("StampWorksModel", "s", "LStampWorksModel$State;", true)
  | 2 => ("StampWorksModel", "ahead", "LStampWorksModel$State;", true)
  | 3 => ("StampWorksModel", "store", "[I", true)
  | 4 => ("StampWorksModel", "tailRock", "I", false)
  | 5 => ("StampWorksModel", "tailTin", "I", false)
  | _ => ("StampWorksModel", "metal", "I", false)
def tyX8 : Nat → FieldType := fun k => match k with
  | 0 => .int
  | 1 => .object "StampWorksModel$State"
  | 2 => .object "StampWorksModel$State"
  | 3 => .array .int
  | 4 => .int
  | 5 => .int
  | _ => .int
abbrev wsX80 : List Cond := u_ws RX8 TX8 7
theorem nmX8 : ∀ a, a < 7 → ∀ b, b < 7 → a ≠ b → (TX8 a).2.1 ≠ (TX8 b).2.1 := by decide +kernel
theorem tyX8_ok : ∀ k, k < 7 → parseFieldDescriptor (TX8 k).2.2.1 = some (tyX8 k) := by decide +kernel
abbrev cX8_init : ByteArray := prog_9_method_1_code
def yX8_init : MethodName := ⟨RX8, "<init>", "()V"⟩
abbrev cX8_thrown : ByteArray := prog_9_method_2_code
def yX8_thrown : MethodName := ⟨RX8, "thrown", "()I"⟩
abbrev cX8_no : ByteArray := prog_9_method_3_code
def yX8_no : MethodName := ⟨RX8, "no", "(I)I"⟩
abbrev cX8_isIn : ByteArray := prog_9_method_4_code
def yX8_isIn : MethodName := ⟨RX8, "isIn", "(III)Z"⟩
abbrev cX8_setInflow : ByteArray := prog_9_method_5_code
def yX8_setInflow : MethodName := ⟨RX8, "setInflow", "(II)I"⟩
abbrev cX8_setSluice : ByteArray := prog_9_method_6_code
def yX8_setSluice : MethodName := ⟨RX8, "setSluice", "(I)I"⟩
abbrev cX8_isBox : ByteArray := prog_9_method_7_code
def yX8_isBox : MethodName := ⟨RX8, "isBox", "(I)Z"⟩
abbrev cX8_addBox : ByteArray := prog_9_method_8_code
def yX8_addBox : MethodName := ⟨RX8, "addBox", "()I"⟩
abbrev cX8_hang : ByteArray := prog_9_method_9_code
def yX8_hang : MethodName := ⟨RX8, "hang", "(III)I"⟩
abbrev cX8_shoe : ByteArray := prog_9_method_10_code
def yX8_shoe : MethodName := ⟨RX8, "shoe", "(II)I"⟩
abbrev cX8_setBox : ByteArray := prog_9_method_11_code
def yX8_setBox : MethodName := ⟨RX8, "setBox", "(III)I"⟩
abbrev cX8_boxTold : ByteArray := prog_9_method_12_code
def yX8_boxTold : MethodName := ⟨RX8, "boxTold", "(II)I"⟩
abbrev cX8_box : ByteArray := prog_9_method_13_code
def yX8_box : MethodName := ⟨RX8, "box", "(II)I"⟩
abbrev cX8_bring : ByteArray := prog_9_method_14_code
def yX8_bring : MethodName := ⟨RX8, "bring", "(III)I"⟩
abbrev cX8_lot : ByteArray := prog_9_method_15_code
def yX8_lot : MethodName := ⟨RX8, "lot", "(II)I"⟩
abbrev cX8_run : ByteArray := prog_9_method_16_code
def yX8_run : MethodName := ⟨RX8, "run", "(LStampWorksModel$State;I)I"⟩
abbrev cX8_run_ : ByteArray := prog_9_method_17_code
def yX8_run_ : MethodName := ⟨RX8, "run", "(I)I"⟩
abbrev cX8_tinInBoxes : ByteArray := prog_9_method_18_code
def yX8_tinInBoxes : MethodName := ⟨RX8, "tinInBoxes", "()I"⟩
abbrev cX8_counted : ByteArray := prog_9_method_19_code
def yX8_counted : MethodName := ⟨RX8, "counted", "(I)I"⟩
abbrev cX8_count : ByteArray := prog_9_method_20_code
def yX8_count : MethodName := ⟨RX8, "count", "(I)I"⟩
abbrev cX8_grade : ByteArray := prog_9_method_21_code
def yX8_grade : MethodName := ⟨RX8, "grade", "(JJ)I"⟩
abbrev cX8_buddleTold : ByteArray := prog_9_method_22_code
def yX8_buddleTold : MethodName := ⟨RX8, "buddleTold", "(II)I"⟩
abbrev cX8_buddle : ByteArray := prog_9_method_23_code
def yX8_buddle : MethodName := ⟨RX8, "buddle", "(II)I"⟩
abbrev cX8_headTin : ByteArray := prog_9_method_24_code
def yX8_headTin : MethodName := ⟨RX8, "headTin", "(II)I"⟩
abbrev cX8_headRock : ByteArray := prog_9_method_25_code
def yX8_headRock : MethodName := ⟨RX8, "headRock", "(II)I"⟩
abbrev cX8_wash : ByteArray := prog_9_method_26_code
def yX8_wash : MethodName := ⟨RX8, "wash", "(II)I"⟩
abbrev cX8_again : ByteArray := prog_9_method_27_code
def yX8_again : MethodName := ⟨RX8, "again", "(I)I"⟩
abbrev cX8_smelt : ByteArray := prog_9_method_28_code
def yX8_smelt : MethodName := ⟨RX8, "smelt", "(I)I"⟩
abbrev cX8_foresee : ByteArray := prog_9_method_29_code
def yX8_foresee : MethodName := ⟨RX8, "foresee", "(II)I"⟩
abbrev cX8_advise : ByteArray := prog_9_method_30_code
def yX8_advise : MethodName := ⟨RX8, "advise", "(I)I"⟩
abbrev cX8_bestWater : ByteArray := prog_9_method_31_code
def yX8_bestWater : MethodName := ⟨RX8, "bestWater", "(II)I"⟩
abbrev cX8_share : ByteArray := prog_9_method_32_code
def yX8_share : MethodName := ⟨RX8, "share", "()D"⟩
abbrev cX8_digest : ByteArray := prog_9_method_33_code
def yX8_digest : MethodName := ⟨RX8, "digest", "()J"⟩
def RJ9 : String := "java/lang/Math"
def TJ9 : u_T := fun k => match k with
  | _ => ("", "", "", false)
def tyJ9 : Nat → FieldType := fun k => match k with
  | _ => .int
abbrev wsJ90 : List Cond := u_ws RJ9 TJ9 0
theorem nmJ9 : ∀ a, a < 0 → ∀ b, b < 0 → a ≠ b → (TJ9 a).2.1 ≠ (TJ9 b).2.1 := by decide +kernel
theorem tyJ9_ok : ∀ k, k < 0 → parseFieldDescriptor (TJ9 k).2.2.1 = some (tyJ9 k) := by decide +kernel
abbrev cJ9_floorMod_7cf53 : ByteArray := prog_15_method_50_code
def yJ9_floorMod_7cf53 : MethodName := ⟨RJ9, "floorMod", "(II)I"⟩
abbrev cJ9_max_7cf53 : ByteArray := prog_15_method_65_code
def yJ9_max_7cf53 : MethodName := ⟨RJ9, "max", "(II)I"⟩
abbrev cJ9_min_7cf53 : ByteArray := prog_15_method_69_code
def yJ9_min_7cf53 : MethodName := ⟨RJ9, "min", "(II)I"⟩
def RJ0 : String := "java/lang/String"
def TJ0 : u_T := fun k => match k with
  | _ => ("", "", "", false)
def tyJ0 : Nat → FieldType := fun k => match k with
  | _ => .int
abbrev wsJ00 : List Cond := u_ws RJ0 TJ0 0
theorem nmJ0 : ∀ a, a < 0 → ∀ b, b < 0 → a ≠ b → (TJ0 a).2.1 ≠ (TJ0 b).2.1 := by decide +kernel
theorem tyJ0_ok : ∀ k, k < 0 → parseFieldDescriptor (TJ0 k).2.2.1 = some (tyJ0 k) := by decide +kernel
def RJ10 : String := "java/lang/System"
def TJ10 : u_T := fun k => match k with
  | _ => ("", "", "", false)
def tyJ10 : Nat → FieldType := fun k => match k with
  | _ => .int
abbrev wsJ100 : List Cond := u_ws RJ10 TJ10 0
theorem nmJ10 : ∀ a, a < 0 → ∀ b, b < 0 → a ≠ b → (TJ10 a).2.1 ≠ (TJ10 b).2.1 := by decide +kernel
theorem tyJ10_ok : ∀ k, k < 0 → parseFieldDescriptor (TJ10 k).2.2.1 = some (tyJ10 k) := by decide +kernel
def RL : String := "StampWorksLaw"
abbrev cL_setInflow : ByteArray := method_3_code
def yL_setInflow : MethodName := ⟨RL, "setInflow", "(LStampWorks;II[J)I"⟩
abbrev cL_setSluice : ByteArray := method_4_code
def yL_setSluice : MethodName := ⟨RL, "setSluice", "(LStampWorks;I[J)I"⟩
abbrev cL_addBox : ByteArray := method_5_code
def yL_addBox : MethodName := ⟨RL, "addBox", "(LStampWorks;[J)I"⟩
abbrev cL_hang : ByteArray := method_6_code
def yL_hang : MethodName := ⟨RL, "hang", "(LStampWorks;III[J)I"⟩
abbrev cL_shoe : ByteArray := method_7_code
def yL_shoe : MethodName := ⟨RL, "shoe", "(LStampWorks;II[J)I"⟩
abbrev cL_setBox : ByteArray := method_8_code
def yL_setBox : MethodName := ⟨RL, "setBox", "(LStampWorks;III[J)I"⟩
abbrev cL_box : ByteArray := method_9_code
def yL_box : MethodName := ⟨RL, "box", "(LStampWorks;II[J)I"⟩
abbrev cL_bring : ByteArray := method_10_code
def yL_bring : MethodName := ⟨RL, "bring", "(LStampWorks;III[J)I"⟩
abbrev cL_lot : ByteArray := method_11_code
def yL_lot : MethodName := ⟨RL, "lot", "(LStampWorks;II[J)I"⟩
abbrev cL_run : ByteArray := method_12_code
def yL_run : MethodName := ⟨RL, "run", "(LStampWorks;I[J)I"⟩
abbrev cL_count : ByteArray := method_13_code
def yL_count : MethodName := ⟨RL, "count", "(LStampWorks;I[J)I"⟩
abbrev cL_buddle : ByteArray := method_14_code
def yL_buddle : MethodName := ⟨RL, "buddle", "(LStampWorks;II[J)I"⟩
abbrev cL_wash : ByteArray := method_15_code
def yL_wash : MethodName := ⟨RL, "wash", "(LStampWorks;II[J)I"⟩
abbrev cL_again : ByteArray := method_16_code
def yL_again : MethodName := ⟨RL, "again", "(LStampWorks;I[J)I"⟩
abbrev cL_smelt : ByteArray := method_17_code
def yL_smelt : MethodName := ⟨RL, "smelt", "(LStampWorks;I[J)I"⟩
abbrev cL_foresee : ByteArray := method_18_code
def yL_foresee : MethodName := ⟨RL, "foresee", "(LStampWorks;II[J)I"⟩
abbrev cL_advise : ByteArray := method_19_code
def yL_advise : MethodName := ⟨RL, "advise", "(LStampWorks;I[J)I"⟩
abbrev cL_bestWater : ByteArray := method_20_code
def yL_bestWater : MethodName := ⟨RL, "bestWater", "(LStampWorks;II[J)I"⟩
abbrev cL_law : ByteArray := code
def yL_law : MethodName := ⟨RL, "law", "([I)Z"⟩
def wsL_law0_r1 : List Cond := [Cond.classLink RL 8 RX6, Cond.instantiable RX6 2, Cond.initialized RX6, Cond.classLink RL 74 RX8, Cond.instantiable RX8 7, Cond.initialized RX8, Cond.arrayClass .long, Cond.methodLink RL 73 yX6_init, Cond.instanceMethod yX6_init, Cond.code yX6_init cX6_init 1 none, Cond.methodLink RX6 1 objectInit, Cond.instanceMethod objectInit, Cond.code objectInit ⟨#[0xb1]⟩ 1 none, Cond.classLink RX6 7 RX5, Cond.instantiable RX5 12, Cond.initialized RX5, Cond.fieldLink RX6 10 "StampWorks" "works" "LStampWorks$Works;", Cond.fieldLink RX6 16 "StampWorks" "trial" "LStampWorks$Works;", Cond.methodLink RX6 9 yX5_init, Cond.instanceMethod yX5_init, Cond.code yX5_init cX5_init 2 none, Cond.methodLink RX5 3 objectInit, Cond.arrayClass .int, Cond.fieldLink RX5 9 "StampWorks$Works" "inflow" "[I"]
def wsL_law0_r2 : List Cond := [Cond.classLink RX5 15 RX0, Cond.fieldLink RX5 17 "StampWorks$Works" "boxes" "[LStampWorks$Box;", Cond.instantiable RX0 9, Cond.initialized RX0, Cond.classLink RX5 22 RX1, Cond.instantiable RX1 3, Cond.initialized RX1, Cond.fieldLink RX5 25 "StampWorks$Works" "hopper" "LStampWorks$Hopper;", Cond.classLink RX5 29 RX3, Cond.fieldLink RX5 31 "StampWorks$Works" "buddles" "[LStampWorks$Ore;", Cond.instantiable RX3 2, Cond.initialized RX3, Cond.fieldLink RX5 36 "StampWorks$Works" "store" "LStampWorks$Ore;", Cond.fieldLink RX5 40 "StampWorks$Works" "tails" "LStampWorks$Ore;", Cond.fieldLink RX5 43 "StampWorks$Works" "pond" "I", Cond.fieldLink RX5 47 "StampWorks$Works" "sluice" "I", Cond.methodLink RX5 21 yX0_init, Cond.instanceMethod yX0_init, Cond.code yX0_init cX0_init 2 none, Cond.methodLink RX0 3 objectInit, Cond.classLink RX0 9 RX4, Cond.fieldLink RX0 11 "StampWorks$Box" "stamps" "[LStampWorks$Stamp;", Cond.instantiable RX4 3, Cond.initialized RX4]
def wsL_law0_r3 : List Cond := [Cond.classLink RX0 18 RX3, Cond.fieldLink RX0 21 "StampWorks$Box" "lumps" "LStampWorks$Ore;", Cond.fieldLink RX0 25 "StampWorks$Box" "grit" "LStampWorks$Ore;", Cond.fieldLink RX0 28 "StampWorks$Box" "sand" "LStampWorks$Ore;", Cond.fieldLink RX0 31 "StampWorks$Box" "feed" "I", Cond.fieldLink RX0 35 "StampWorks$Box" "hardness" "I", Cond.instanceMethod yX4_init, Cond.code yX4_init cX4_init 1 none, Cond.methodLink RX4 3 objectInit, Cond.instanceMethod yX3_init, Cond.code yX3_init cX3_init 1 none, Cond.methodLink RX3 1 objectInit, Cond.methodLink RX5 24 yX1_init, Cond.instanceMethod yX1_init, Cond.code yX1_init cX1_init 2 none, Cond.methodLink RX1 3 objectInit, Cond.classLink RX1 9 RX2, Cond.fieldLink RX1 11 "StampWorks$Hopper" "ring" "[LStampWorks$Lot;", Cond.instantiable RX2 2, Cond.initialized RX2, Cond.methodLink RX1 17 yX2_init, Cond.instanceMethod yX2_init, Cond.code yX2_init cX2_init 1 none, Cond.methodLink RX2 1 objectInit]
def wsL_law0_r4 : List Cond := [Cond.classLink RX2 7 RX3, Cond.fieldLink RX2 10 "StampWorks$Lot" "ore" "LStampWorks$Ore;", Cond.methodLink RL 76 yX8_init, Cond.instanceMethod yX8_init, Cond.code yX8_init cX8_init 1 none, Cond.methodLink RX8 1 objectInit, Cond.classLink RX8 7 RX7, Cond.instantiable RX7 18, Cond.initialized RX7, Cond.fieldLink RX8 10 "StampWorksModel" "s" "LStampWorksModel$State;", Cond.fieldLink RX8 16 "StampWorksModel" "ahead" "LStampWorksModel$State;", Cond.fieldLink RX8 19 "StampWorksModel" "store" "[I", Cond.methodLink RX8 9 yX7_init, Cond.instanceMethod yX7_init, Cond.code yX7_init cX7_init 2 none, Cond.methodLink RX7 3 objectInit, Cond.fieldLink RX7 9 "StampWorksModel$State" "pond" "I", Cond.fieldLink RX7 15 "StampWorksModel$State" "sluice" "I", Cond.fieldLink RX7 18 "StampWorksModel$State" "inflow" "[I", Cond.fieldLink RX7 22 "StampWorksModel$State" "stamps" "[I", Cond.fieldLink RX7 25 "StampWorksModel$State" "weight" "[I", Cond.fieldLink RX7 28 "StampWorksModel$State" "cams" "[I", Cond.fieldLink RX7 31 "StampWorksModel$State" "wear" "[I", Cond.fieldLink RX7 34 "StampWorksModel$State" "feed" "[I"]
def wsL_law0_r5 : List Cond := [Cond.fieldLink RX7 37 "StampWorksModel$State" "goes" "[I", Cond.fieldLink RX7 40 "StampWorksModel$State" "hardness" "[I", Cond.fieldLink RX7 43 "StampWorksModel$State" "force" "[I", Cond.fieldLink RX7 46 "StampWorksModel$State" "ore" "[I", Cond.fieldLink RX7 49 "StampWorksModel$State" "lot" "[I", Cond.fieldLink RX7 52 "StampWorksModel$State" "buddle" "[I", Cond.methodLink RL 77 yL_setInflow, Cond.static yL_setInflow, Cond.initialized RL, Cond.codeWith yL_setInflow cL_setInflow 5 (some .int) [(0, 10, 13, 13), (0, 10, 17, 15)], Cond.classLink RL 13 "java/lang/IndexOutOfBoundsException", Cond.classLink RL 15 "java/lang/IllegalArgumentException", Cond.methodLink RL 7 yX6_setInflow, Cond.instanceMethod yX6_setInflow, Cond.selects RX6 yX6_setInflow yX6_setInflow, Cond.code yX6_setInflow cX6_setInflow 4 (some .int), Cond.classLink RX6 19 "java/lang/IndexOutOfBoundsException", Cond.initialized "java/lang/IndexOutOfBoundsException", Cond.classLink RX6 26 "java/lang/IllegalArgumentException", Cond.initialized "java/lang/IllegalArgumentException", Cond.fieldLink RX6 31 "StampWorks$Works" "inflow" "[I", Cond.methodLink RL 82 yX8_setInflow, Cond.instanceMethod yX8_setInflow, Cond.selects RX8 yX8_setInflow yX8_setInflow]
def wsL_law0_r6 : List Cond := [Cond.code yX8_setInflow cX8_setInflow 4 (some .int), Cond.fieldLink RX8 23 "StampWorksModel" "thrown" "I", Cond.methodLink RX8 27 yX8_isIn, Cond.static yX8_isIn, Cond.code yX8_isIn cX8_isIn 3 (some .boolean), Cond.methodLink RX8 31 yX8_no, Cond.instanceMethod yX8_no, Cond.selects RX8 yX8_no yX8_no, Cond.code yX8_no cX8_no 2 (some .int), Cond.methodLink RL 83 yX8_thrown, Cond.instanceMethod yX8_thrown, Cond.selects RX8 yX8_thrown yX8_thrown, Cond.code yX8_thrown cX8_thrown 1 (some .int), Cond.methodLink RL 86 yL_setSluice, Cond.static yL_setSluice, Cond.codeWith yL_setSluice cL_setSluice 4 (some .int) [(0, 9, 12, 15)], Cond.methodLink RL 17 yX6_setSluice, Cond.instanceMethod yX6_setSluice, Cond.selects RX6 yX6_setSluice yX6_setSluice, Cond.code yX6_setSluice cX6_setSluice 3 (some .int), Cond.fieldLink RX6 37 "StampWorks$Works" "sluice" "I", Cond.methodLink RL 89 yX8_setSluice, Cond.instanceMethod yX8_setSluice, Cond.selects RX8 yX8_setSluice yX8_setSluice]
def wsL_law0_r7 : List Cond := [Cond.code yX8_setSluice cX8_setSluice 3 (some .int), Cond.methodLink RL 90 yL_addBox, Cond.static yL_addBox, Cond.codeWith yL_addBox cL_addBox 3 (some .int) [(0, 8, 11, 25)], Cond.classLink RL 25 "java/lang/IllegalStateException", Cond.methodLink RL 21 yX6_addBox, Cond.instanceMethod yX6_addBox, Cond.selects RX6 yX6_addBox yX6_addBox, Cond.code yX6_addBox cX6_addBox 1 (some .int), Cond.classLink RX6 44 "java/lang/IllegalStateException", Cond.initialized "java/lang/IllegalStateException", Cond.fieldLink RX6 41 "StampWorks$Works" "boxCount" "I", Cond.methodLink RL 93 yX8_addBox, Cond.instanceMethod yX8_addBox, Cond.selects RX8 yX8_addBox yX8_addBox, Cond.code yX8_addBox cX8_addBox 1 (some .int), Cond.methodLink RL 94 yL_hang, Cond.static yL_hang, Cond.codeWith yL_hang cL_hang 6 (some .int) [(0, 12, 15, 13), (0, 12, 19, 15), (0, 12, 23, 25)], Cond.methodLink RL 27 yX6_hang, Cond.instanceMethod yX6_hang, Cond.selects RX6 yX6_hang yX6_hang, Cond.code yX6_hang cX6_hang 5 (some .int), Cond.fieldLink RX6 57 "StampWorks$Box" "stampCount" "I"]
def wsL_law0_r8 : List Cond := [Cond.methodLink RX6 49 yX6_boxNumbered, Cond.instanceMethod yX6_boxNumbered, Cond.selects RX6 yX6_boxNumbered yX6_boxNumbered, Cond.code yX6_boxNumbered cX6_boxNumbered 2 (some (.object "StampWorks$Box")), Cond.fieldLink RX6 230 "StampWorks$Works" "boxes" "[LStampWorks$Box;", Cond.methodLink RX6 64 yX0_addStamp, Cond.instanceMethod yX0_addStamp, Cond.selects RX0 yX0_addStamp yX0_addStamp, Cond.code yX0_addStamp cX0_addStamp 4 none, Cond.fieldLink RX0 38 "StampWorks$Box" "stampCount" "I", Cond.fieldLink RX0 41 "StampWorks$Stamp" "weight" "I", Cond.fieldLink RX0 44 "StampWorks$Stamp" "cams" "I", Cond.methodLink RL 97 yX8_hang, Cond.instanceMethod yX8_hang, Cond.selects RX8 yX8_hang yX8_hang, Cond.code yX8_hang cX8_hang 5 (some .int), Cond.methodLink RX8 50 yX8_isBox, Cond.instanceMethod yX8_isBox, Cond.selects RX8 yX8_isBox yX8_isBox, Cond.code yX8_isBox cX8_isBox 2 (some .boolean), Cond.methodLink RL 98 yL_shoe, Cond.static yL_shoe, Cond.codeWith yL_shoe cL_shoe 5 (some .int) [(0, 10, 13, 13)], Cond.methodLink RL 31 yX6_shoe]
def wsL_law0_r9 : List Cond := [Cond.instanceMethod yX6_shoe, Cond.selects RX6 yX6_shoe yX6_shoe, Cond.code yX6_shoe cX6_shoe 5 (some .int), Cond.fieldLink RX6 70 "StampWorks$Box" "stamps" "[LStampWorks$Stamp;", Cond.fieldLink RX6 74 "StampWorks$Stamp" "wear" "I", Cond.methodLink RL 100 yX8_shoe, Cond.instanceMethod yX8_shoe, Cond.selects RX8 yX8_shoe yX8_shoe, Cond.code yX8_shoe cX8_shoe 4 (some .int), Cond.methodLink RL 101 yL_setBox, Cond.static yL_setBox, Cond.codeWith yL_setBox cL_setBox 6 (some .int) [(0, 12, 15, 13), (0, 12, 19, 15)], Cond.methodLink RL 34 yX6_setBox, Cond.instanceMethod yX6_setBox, Cond.selects RX6 yX6_setBox yX6_setBox, Cond.code yX6_setBox cX6_setBox 6 (some .int), Cond.fieldLink RX6 83 "StampWorks$Box" "feed" "I", Cond.fieldLink RX6 86 "StampWorks$Box" "buddle" "I", Cond.methodLink RL 103 yX8_setBox, Cond.instanceMethod yX8_setBox, Cond.selects RX8 yX8_setBox yX8_setBox, Cond.code yX8_setBox cX8_setBox 5 (some .int), Cond.methodLink RL 104 yL_box, Cond.static yL_box]
def wsL_law0_r10 : List Cond := [Cond.codeWith yL_box cL_box 5 (some .int) [(0, 10, 13, 13)], Cond.methodLink RL 37 yX6_box, Cond.instanceMethod yX6_box, Cond.selects RX6 yX6_box yX6_box, Cond.code yX6_box cX6_box 4 (some .int), Cond.methodLink RX6 91 yX0_tellOfBox, Cond.instanceMethod yX0_tellOfBox, Cond.selects RX0 yX0_tellOfBox yX0_tellOfBox, Cond.code yX0_tellOfBox cX0_tellOfBox 2 (some .int), Cond.fieldLink RX0 47 "StampWorks$Box" "buddle" "I", Cond.fieldLink RX0 50 "StampWorks$Ore" "rock" "I", Cond.fieldLink RX0 53 "StampWorks$Ore" "tin" "I", Cond.fieldLink RX0 60 "StampWorks$Box" "force" "I", Cond.methodLink RX0 56 yX0_wearOfStamps, Cond.instanceMethod yX0_wearOfStamps, Cond.selects RX0 yX0_wearOfStamps yX0_wearOfStamps, Cond.code yX0_wearOfStamps cX0_wearOfStamps 3 (some .int), Cond.fieldLink RX0 63 "StampWorks$Stamp" "wear" "I", Cond.methodLink RL 106 yX8_box, Cond.instanceMethod yX8_box, Cond.selects RX8 yX8_box yX8_box, Cond.code yX8_box cX8_box 3 (some .int), Cond.methodLink RX8 75 yX8_boxTold, Cond.instanceMethod yX8_boxTold]
def wsL_law0_r11 : List Cond := [Cond.selects RX8 yX8_boxTold yX8_boxTold, Cond.code yX8_boxTold cX8_boxTold 5 (some .int), Cond.methodLink RL 107 yL_bring, Cond.static yL_bring, Cond.codeWith yL_bring cL_bring 6 (some .int) [(0, 12, 15, 15), (0, 12, 19, 25)], Cond.methodLink RL 40 yX6_bring, Cond.instanceMethod yX6_bring, Cond.selects RX6 yX6_bring yX6_bring, Cond.code yX6_bring cX6_bring 5 (some .int), Cond.fieldLink RX6 104 "StampWorks$Works" "hopper" "LStampWorks$Hopper;", Cond.fieldLink RX6 114 "StampWorks$Hopper" "count" "I", Cond.methodLink RX6 101 yX6_refuseFullHopper, Cond.instanceMethod yX6_refuseFullHopper, Cond.selects RX6 yX6_refuseFullHopper yX6_refuseFullHopper, Cond.code yX6_refuseFullHopper cX6_refuseFullHopper 1 none, Cond.methodLink RX6 108 yX1_addLot, Cond.instanceMethod yX1_addLot, Cond.selects RX1 yX1_addLot yX1_addLot, Cond.code yX1_addLot cX1_addLot 5 none, Cond.fieldLink RX1 28 "StampWorks$Hopper" "count" "I", Cond.fieldLink RX1 35 "StampWorks$Lot" "ore" "LStampWorks$Ore;", Cond.fieldLink RX1 45 "StampWorks$Lot" "hardness" "I", Cond.methodLink RX1 31 yX1_lotAt, Cond.instanceMethod yX1_lotAt]
def wsL_law0_r12 : List Cond := [Cond.selects RX1 yX1_lotAt yX1_lotAt, Cond.code yX1_lotAt cX1_lotAt 2 (some (.object "StampWorks$Lot")), Cond.fieldLink RX1 18 "StampWorks$Hopper" "first" "I", Cond.methodLink RX1 22 yJ9_floorMod_7cf53, Cond.static yJ9_floorMod_7cf53, Cond.initialized RJ9, Cond.code yJ9_floorMod_7cf53 cJ9_floorMod_7cf53 3 (some .int), Cond.methodLink RX1 39 yX3_become, Cond.instanceMethod yX3_become, Cond.selects RX3 yX3_become yX3_become, Cond.code yX3_become cX3_become 3 none, Cond.fieldLink RX3 7 "StampWorks$Ore" "rock" "I", Cond.fieldLink RX3 13 "StampWorks$Ore" "tin" "I", Cond.methodLink RL 109 yX8_bring, Cond.instanceMethod yX8_bring, Cond.selects RX8 yX8_bring yX8_bring, Cond.code yX8_bring cX8_bring 5 (some .int), Cond.methodLink RX8 82 yX7_addLot, Cond.instanceMethod yX7_addLot, Cond.selects RX7 yX7_addLot yX7_addLot, Cond.code yX7_addLot cX7_addLot 4 none, Cond.fieldLink RX7 67 "StampWorksModel$State" "lots" "I", Cond.methodLink RL 110 yL_lot, Cond.static yL_lot]
def wsL_law0_r13 : List Cond := [Cond.codeWith yL_lot cL_lot 5 (some .int) [(0, 10, 13, 13)], Cond.methodLink RL 43 yX6_lot, Cond.instanceMethod yX6_lot, Cond.selects RX6 yX6_lot yX6_lot, Cond.code yX6_lot cX6_lot 3 (some .int), Cond.methodLink RX6 121 yX1_lotAt, Cond.methodLink RX6 125 yX2_tellOfLot, Cond.instanceMethod yX2_tellOfLot, Cond.selects RX2 yX2_tellOfLot yX2_tellOfLot, Cond.code yX2_tellOfLot cX2_tellOfLot 2 (some .int), Cond.fieldLink RX2 16 "StampWorks$Lot" "hardness" "I", Cond.methodLink RX2 20 yX3_tellOfOre, Cond.instanceMethod yX3_tellOfOre, Cond.selects RX3 yX3_tellOfOre yX3_tellOfOre, Cond.code yX3_tellOfOre cX3_tellOfOre 2 (some .int), Cond.static yX6_gradeOf, Cond.code yX6_gradeOf cX6_gradeOf 2 (some .int), Cond.methodLink RX6 269 yX6_partOf, Cond.static yX6_partOf, Cond.code yX6_partOf cX6_partOf 3 (some .int), Cond.methodLink RL 112 yX8_lot, Cond.instanceMethod yX8_lot, Cond.selects RX8 yX8_lot yX8_lot, Cond.code yX8_lot cX8_lot 3 (some .int)]
def wsL_law0_r14 : List Cond := [Cond.methodLink RL 113 yL_run, Cond.static yL_run, Cond.codeWith yL_run cL_run 4 (some .int) [(0, 9, 12, 15), (0, 9, 15, 25)], Cond.methodLink RL 46 yX6_run, Cond.instanceMethod yX6_run, Cond.selects RX6 yX6_run yX6_run, Cond.code yX6_run cX6_run 2 (some .int), Cond.methodLink RX6 130 yX6_refuseHours, Cond.static yX6_refuseHours, Cond.code yX6_refuseHours cX6_refuseHours 2 none, Cond.methodLink RX6 133 yX6_refuseLateHour, Cond.instanceMethod yX6_refuseLateHour, Cond.selects RX6 yX6_refuseLateHour yX6_refuseLateHour, Cond.code yX6_refuseLateHour cX6_refuseLateHour 2 none, Cond.fieldLink RX6 256 "StampWorks$Works" "hour" "I", Cond.methodLink RX6 137 yX5_passHours, Cond.instanceMethod yX5_passHours, Cond.selects RX5 yX5_passHours yX5_passHours, Cond.code yX5_passHours cX5_passHours 4 (some .int), Cond.methodLink RX5 87 yX5_passHour, Cond.instanceMethod yX5_passHour, Cond.selects RX5 yX5_passHour yX5_passHour, Cond.code yX5_passHour cX5_passHour 4 (some .int), Cond.methodLink RX5 93 Lib.Math.max.name]
def wsL_law0_r15 : List Cond := [Cond.static Lib.Math.max.name, Cond.initialized "java/lang/Math", Cond.code Lib.Math.max.name Lib.Math.max.code 2 (some .int), Cond.fieldLink RX5 53 "StampWorks$Works" "boxCount" "I", Cond.fieldLink RX5 50 "StampWorks$Works" "hour" "I", Cond.methodLink RX5 90 yX5_takeWater, Cond.instanceMethod yX5_takeWater, Cond.selects RX5 yX5_takeWater yX5_takeWater, Cond.code yX5_takeWater cX5_takeWater 3 (some .int), Cond.methodLink RX5 106 Lib.Math.min.name, Cond.static Lib.Math.min.name, Cond.code Lib.Math.min.name Lib.Math.min.code 2 (some .int), Cond.methodLink RX5 103 yJ9_floorMod_7cf53, Cond.methodLink RX5 63 yX5_loadOfWheel, Cond.instanceMethod yX5_loadOfWheel, Cond.selects RX5 yX5_loadOfWheel yX5_loadOfWheel, Cond.code yX5_loadOfWheel cX5_loadOfWheel 3 (some .int), Cond.methodLink RX5 81 yX0_loadOfStamps, Cond.instanceMethod yX0_loadOfStamps, Cond.selects RX0 yX0_loadOfStamps yX0_loadOfStamps, Cond.code yX0_loadOfStamps cX0_loadOfStamps 3 (some .int), Cond.methodLink RX0 66 yX4_loadOfStamp, Cond.instanceMethod yX4_loadOfStamp, Cond.selects RX4 yX4_loadOfStamp yX4_loadOfStamp]
def wsL_law0_r16 : List Cond := [Cond.code yX4_loadOfStamp cX4_loadOfStamp 1 (some .int), Cond.fieldLink RX4 9 "StampWorks$Stamp" "weight" "I", Cond.fieldLink RX4 15 "StampWorks$Stamp" "cams" "I", Cond.methodLink RX5 99 yX5_workBox, Cond.instanceMethod yX5_workBox, Cond.selects RX5 yX5_workBox yX5_workBox, Cond.code yX5_workBox cX5_workBox 4 none, Cond.fieldLink RX5 109 "StampWorks$Box" "lumps" "LStampWorks$Ore;", Cond.fieldLink RX5 112 "StampWorks$Box" "feed" "I", Cond.fieldLink RX5 115 "StampWorks$Box" "hardness" "I", Cond.fieldLink RX5 72 "StampWorks$Works" "slime" "I", Cond.fieldLink RX5 129 "StampWorks$Box" "buddle" "I", Cond.methodLink RX5 118 yX1_feedInto, Cond.instanceMethod yX1_feedInto, Cond.selects RX1 yX1_feedInto yX1_feedInto, Cond.code yX1_feedInto cX1_feedInto 8 (some .int), Cond.methodLink RX1 52 yX3_moveTo, Cond.instanceMethod yX3_moveTo, Cond.selects RX3 yX3_moveTo yX3_moveTo, Cond.code yX3_moveTo cX3_moveTo 5 (some .int), Cond.methodLink RX3 30 Lib.Math.min.name, Cond.methodLink RX3 26 yX3_whole, Cond.instanceMethod yX3_whole, Cond.selects RX3 yX3_whole yX3_whole]
def wsL_law0_r17 : List Cond := [Cond.code yX3_whole cX3_whole 1 (some .int), Cond.methodLink RX3 39 yX3_put, Cond.instanceMethod yX3_put, Cond.selects RX3 yX3_put yX3_put, Cond.code yX3_put cX3_put 3 none, Cond.methodLink RX1 48 yX3_whole, Cond.methodLink RX1 56 yX1_dropFirst, Cond.instanceMethod yX1_dropFirst, Cond.selects RX1 yX1_dropFirst yX1_dropFirst, Cond.code yX1_dropFirst cX1_dropFirst 1 none, Cond.methodLink RX5 122 yX0_blow, Cond.instanceMethod yX0_blow, Cond.selects RX0 yX0_blow yX0_blow, Cond.code yX0_blow cX0_blow 3 none, Cond.methodLink RX0 76 Lib.Math.max.name, Cond.methodLink RX0 73 yX0_forceOfStamps, Cond.instanceMethod yX0_forceOfStamps, Cond.selects RX0 yX0_forceOfStamps yX0_forceOfStamps, Cond.code yX0_forceOfStamps cX0_forceOfStamps 4 (some .int), Cond.methodLink RX0 69 yX4_forceOfStamp, Cond.instanceMethod yX4_forceOfStamp, Cond.selects RX4 yX4_forceOfStamp yX4_forceOfStamp, Cond.code yX4_forceOfStamp cX4_forceOfStamp 2 (some .int), Cond.fieldLink RX4 18 "StampWorks$Stamp" "wear" "I"]
def wsL_law0_r18 : List Cond := [Cond.methodLink RX0 82 yX3_moveTo, Cond.methodLink RX5 126 yX0_loseSlime, Cond.instanceMethod yX0_loseSlime, Cond.selects RX0 yX0_loseSlime yX0_loseSlime, Cond.code yX0_loseSlime cX0_loseSlime 2 (some .int), Cond.methodLink RX0 86 Lib.Math.min.name, Cond.methodLink RX5 132 yX0_grate, Cond.instanceMethod yX0_grate, Cond.selects RX0 yX0_grate yX0_grate, Cond.code yX0_grate cX0_grate 3 none, Cond.methodLink RX0 89 yX3_whole, Cond.methodLink RX5 136 yX0_wearStamps, Cond.instanceMethod yX0_wearStamps, Cond.selects RX0 yX0_wearStamps yX0_wearStamps, Cond.code yX0_wearStamps cX0_wearStamps 3 none, Cond.methodLink RX0 92 yX4_wearBy, Cond.instanceMethod yX4_wearBy, Cond.selects RX4 yX4_wearBy yX4_wearBy, Cond.code yX4_wearBy cX4_wearBy 2 none, Cond.methodLink RX4 21 Lib.Math.min.name, Cond.methodLink RL 115 yX8_run_, Cond.instanceMethod yX8_run_, Cond.selects RX8 yX8_run_ yX8_run_, Cond.code yX8_run_ cX8_run_ 2 (some .int)]
def wsL_law0_r19 : List Cond := [Cond.methodLink RX8 96 yX8_run, Cond.static yX8_run, Cond.code yX8_run cX8_run 4 (some .int), Cond.methodLink RX8 89 yX7_pass, Cond.instanceMethod yX7_pass, Cond.selects RX7 yX7_pass yX7_pass, Cond.code yX7_pass cX7_pass 8 (some .int), Cond.fieldLink RX7 61 "StampWorksModel$State" "hour" "I", Cond.methodLink RX7 81 Lib.Math.min.name, Cond.fieldLink RX7 64 "StampWorksModel$State" "boxes" "I", Cond.methodLink RX7 99 Lib.Math.max.name, Cond.fieldLink RX7 70 "StampWorksModel$State" "slime" "I", Cond.methodLink RX7 87 yX7_load, Cond.instanceMethod yX7_load, Cond.selects RX7 yX7_load yX7_load, Cond.code yX7_load cX7_load 4 (some .int), Cond.methodLink RX7 91 yX7_eat, Cond.instanceMethod yX7_eat, Cond.selects RX7 yX7_eat yX7_eat, Cond.code yX7_eat cX7_eat 4 none, Cond.methodLink RX7 109 yX7_move, Cond.static yX7_move, Cond.code yX7_move cX7_move 6 none, Cond.methodLink RX7 77 yX7_tinOf]
def wsL_law0_r20 : List Cond := [Cond.static yX7_tinOf, Cond.code yX7_tinOf cX7_tinOf 5 (some .int), Cond.methodLink RX7 113 yX7_dropLot, Cond.instanceMethod yX7_dropLot, Cond.selects RX7 yX7_dropLot yX7_dropLot, Cond.code yX7_dropLot cX7_dropLot 2 none, Cond.methodLink RX7 95 yX7_blow, Cond.instanceMethod yX7_blow, Cond.selects RX7 yX7_blow yX7_blow, Cond.code yX7_blow cX7_blow 4 none, Cond.methodLink RX7 102 yX7_oreOf, Cond.instanceMethod yX7_oreOf, Cond.selects RX7 yX7_oreOf yX7_oreOf, Cond.code yX7_oreOf cX7_oreOf 3 (some .int), Cond.methodLink RX7 105 yX7_inBuddle, Cond.instanceMethod yX7_inBuddle, Cond.selects RX7 yX7_inBuddle yX7_inBuddle, Cond.code yX7_inBuddle cX7_inBuddle 2 (some .int), Cond.methodLink RL 116 yL_count, Cond.static yL_count, Cond.codeWith yL_count cL_count 4 (some .int) [(0, 9, 12, 13)], Cond.methodLink RL 49 yX6_count, Cond.instanceMethod yX6_count, Cond.selects RX6 yX6_count yX6_count]
def wsL_law0_r21 : List Cond := [Cond.code yX6_count cX6_count 2 (some .int), Cond.methodLink RX6 142 yX5_tellOfWorks, Cond.instanceMethod yX5_tellOfWorks, Cond.selects RX5 yX5_tellOfWorks yX5_tellOfWorks, Cond.code yX5_tellOfWorks cX5_tellOfWorks 2 (some .int), Cond.fieldLink RX5 56 "StampWorks$Hopper" "count" "I", Cond.fieldLink RX5 66 "StampWorks$Ore" "rock" "I", Cond.fieldLink RX5 69 "StampWorks$Ore" "tin" "I", Cond.fieldLink RX5 75 "StampWorks$Works" "metal" "I", Cond.methodLink RX5 59 yX1_oreOfLots, Cond.instanceMethod yX1_oreOfLots, Cond.selects RX1 yX1_oreOfLots yX1_oreOfLots, Cond.code yX1_oreOfLots cX1_oreOfLots 3 (some .int), Cond.methodLink RX5 78 yX5_tinOfBoxes, Cond.instanceMethod yX5_tinOfBoxes, Cond.selects RX5 yX5_tinOfBoxes yX5_tinOfBoxes, Cond.code yX5_tinOfBoxes cX5_tinOfBoxes 3 (some .int), Cond.methodLink RX5 84 yX0_tinOfSizes, Cond.instanceMethod yX0_tinOfSizes, Cond.selects RX0 yX0_tinOfSizes yX0_tinOfSizes, Cond.code yX0_tinOfSizes cX0_tinOfSizes 1 (some .int), Cond.methodLink RL 118 yX8_count, Cond.instanceMethod yX8_count, Cond.selects RX8 yX8_count yX8_count]
def wsL_law0_r22 : List Cond := [Cond.code yX8_count cX8_count 2 (some .int), Cond.methodLink RX8 124 yX8_counted, Cond.instanceMethod yX8_counted, Cond.selects RX8 yX8_counted yX8_counted, Cond.code yX8_counted cX8_counted 3 (some .int), Cond.fieldLink RX8 112 "StampWorksModel" "tailTin" "I", Cond.fieldLink RX8 115 "StampWorksModel" "tailRock" "I", Cond.fieldLink RX8 118 "StampWorksModel" "metal" "I", Cond.methodLink RX8 103 yX7_inHopper, Cond.instanceMethod yX7_inHopper, Cond.selects RX7 yX7_inHopper yX7_inHopper, Cond.code yX7_inHopper cX7_inHopper 3 (some .int), Cond.methodLink RX8 106 yX7_load, Cond.methodLink RX8 121 yX8_tinInBoxes, Cond.instanceMethod yX8_tinInBoxes, Cond.selects RX8 yX8_tinInBoxes yX8_tinInBoxes, Cond.code yX8_tinInBoxes cX8_tinInBoxes 3 (some .int), Cond.methodLink RL 119 yL_buddle, Cond.static yL_buddle, Cond.codeWith yL_buddle cL_buddle 5 (some .int) [(0, 10, 13, 13)], Cond.methodLink RL 52 yX6_buddle, Cond.instanceMethod yX6_buddle, Cond.selects RX6 yX6_buddle yX6_buddle, Cond.code yX6_buddle cX6_buddle 4 (some .int)]
def wsL_law0_r23 : List Cond := [Cond.methodLink RX6 145 yX6_buddleNumbered, Cond.instanceMethod yX6_buddleNumbered, Cond.selects RX6 yX6_buddleNumbered yX6_buddleNumbered, Cond.code yX6_buddleNumbered cX6_buddleNumbered 2 (some (.object "StampWorks$Ore")), Cond.fieldLink RX6 242 "StampWorks$Works" "buddles" "[LStampWorks$Ore;", Cond.methodLink RX6 151 yX3_tellOfOre, Cond.methodLink RL 121 yX8_buddle, Cond.instanceMethod yX8_buddle, Cond.selects RX8 yX8_buddle yX8_buddle, Cond.code yX8_buddle cX8_buddle 3 (some .int), Cond.methodLink RX8 136 yX8_buddleTold, Cond.instanceMethod yX8_buddleTold, Cond.selects RX8 yX8_buddleTold yX8_buddleTold, Cond.code yX8_buddleTold cX8_buddleTold 3 (some .int), Cond.methodLink RX8 132 yX8_grade, Cond.static yX8_grade, Cond.code yX8_grade cX8_grade 4 (some .int), Cond.constantLong RX8 127 (1000), Cond.methodLink RL 122 yL_wash, Cond.static yL_wash, Cond.codeWith yL_wash cL_wash 5 (some .int) [(0, 10, 13, 13), (0, 10, 17, 15), (0, 10, 21, 25)], Cond.methodLink RL 55 yX6_wash, Cond.instanceMethod yX6_wash, Cond.selects RX6 yX6_wash yX6_wash]
def wsL_law0_r24 : List Cond := [Cond.code yX6_wash cX6_wash 4 (some .int), Cond.methodLink RX6 158 yX3_whole, Cond.methodLink RX6 164 yX5_partByWater, Cond.instanceMethod yX5_partByWater, Cond.selects RX5 yX5_partByWater yX5_partByWater, Cond.code yX5_partByWater cX5_partByWater 9 (some .int), Cond.static yX6_rockOfHead, Cond.code yX6_rockOfHead cX6_rockOfHead 2 (some .int), Cond.static yX6_tinOfHead, Cond.code yX6_tinOfHead cX6_tinOfHead 2 (some .int), Cond.methodLink RX5 145 yX3_put, Cond.methodLink RX5 149 yX1_addLot, Cond.methodLink RX5 153 yX3_become, Cond.methodLink RL 124 yX8_wash, Cond.instanceMethod yX8_wash, Cond.selects RX8 yX8_wash yX8_wash, Cond.code yX8_wash cX8_wash 7 (some .int), Cond.methodLink RX8 139 yX7_inBuddle, Cond.methodLink RX8 142 yX8_headTin, Cond.instanceMethod yX8_headTin, Cond.selects RX8 yX8_headTin yX8_headTin, Cond.code yX8_headTin cX8_headTin 3 (some .int), Cond.methodLink RX8 145 yX8_headRock, Cond.instanceMethod yX8_headRock]
def wsL_law0_r25 : List Cond := [Cond.selects RX8 yX8_headRock yX8_headRock, Cond.code yX8_headRock cX8_headRock 3 (some .int), Cond.methodLink RL 125 yL_again, Cond.static yL_again, Cond.codeWith yL_again cL_again 4 (some .int) [(0, 9, 12, 13)], Cond.methodLink RL 58 yX6_again, Cond.instanceMethod yX6_again, Cond.selects RX6 yX6_again yX6_again, Cond.code yX6_again cX6_again 3 (some .int), Cond.fieldLink RX6 168 "StampWorks$Works" "store" "LStampWorks$Ore;", Cond.methodLink RX6 172 yX3_moveTo, Cond.methodLink RL 127 yX8_again, Cond.instanceMethod yX8_again, Cond.selects RX8 yX8_again yX8_again, Cond.code yX8_again cX8_again 3 (some .int), Cond.methodLink RX8 148 Lib.Math.min.name, Cond.methodLink RX8 153 yX7_move, Cond.methodLink RL 128 yL_smelt, Cond.static yL_smelt, Cond.codeWith yL_smelt cL_smelt 4 (some .int) [(0, 9, 12, 15), (0, 9, 15, 25)], Cond.methodLink RL 61 yX6_smelt, Cond.instanceMethod yX6_smelt, Cond.selects RX6 yX6_smelt yX6_smelt, Cond.code yX6_smelt cX6_smelt 2 (some .int)]
def wsL_law0_r26 : List Cond := [Cond.methodLink RX6 179 yX5_smeltFromStore, Cond.instanceMethod yX5_smeltFromStore, Cond.selects RX5 yX5_smeltFromStore yX5_smeltFromStore, Cond.code yX5_smeltFromStore cX5_smeltFromStore 5 (some .int), Cond.methodLink RX5 156 yX3_whole, Cond.methodLink RL 130 yX8_smelt, Cond.instanceMethod yX8_smelt, Cond.selects RX8 yX8_smelt yX8_smelt, Cond.code yX8_smelt cX8_smelt 4 (some .int), Cond.methodLink RL 131 yL_foresee, Cond.static yL_foresee, Cond.codeWith yL_foresee cL_foresee 5 (some .int) [(0, 10, 13, 15), (0, 10, 17, 13), (0, 10, 21, 25)], Cond.methodLink RL 64 yX6_foresee, Cond.instanceMethod yX6_foresee, Cond.selects RX6 yX6_foresee yX6_foresee, Cond.code yX6_foresee cX6_foresee 4 (some .int), Cond.fieldLink RX6 188 "StampWorks$Works" "pond" "I", Cond.fieldLink RX6 194 "StampWorks$Works" "slime" "I", Cond.methodLink RX6 184 yX5_copyWorks, Cond.instanceMethod yX5_copyWorks, Cond.selects RX5 yX5_copyWorks yX5_copyWorks, Cond.code yX5_copyWorks cX5_copyWorks 3 none, Cond.methodLink RX5 166 arraycopyName, Cond.native arraycopyName]
def wsL_law0_r27 : List Cond := [Cond.static arraycopyName, Cond.initialized "java/lang/System", Cond.methodLink RX5 172 yX0_copyBox, Cond.instanceMethod yX0_copyBox, Cond.selects RX0 yX0_copyBox yX0_copyBox, Cond.code yX0_copyBox cX0_copyBox 3 none, Cond.methodLink RX0 96 yX4_copyStamp, Cond.instanceMethod yX4_copyStamp, Cond.selects RX4 yX4_copyStamp yX4_copyStamp, Cond.code yX4_copyStamp cX4_copyStamp 2 none, Cond.methodLink RX0 100 yX3_copyOre, Cond.instanceMethod yX3_copyOre, Cond.selects RX3 yX3_copyOre yX3_copyOre, Cond.code yX3_copyOre cX3_copyOre 2 none, Cond.methodLink RX3 22 yX3_become, Cond.methodLink RX5 176 yX1_copyHopper, Cond.instanceMethod yX1_copyHopper, Cond.selects RX1 yX1_copyHopper yX1_copyHopper, Cond.code yX1_copyHopper cX1_copyHopper 3 none, Cond.methodLink RX1 59 yX2_copyLot, Cond.instanceMethod yX2_copyLot, Cond.selects RX2 yX2_copyLot yX2_copyLot, Cond.code yX2_copyLot cX2_copyLot 2 none, Cond.methodLink RX2 24 yX3_copyOre]
def wsL_law0_r28 : List Cond := [Cond.methodLink RX5 180 yX3_copyOre, Cond.methodLink RX6 191 yX5_tinOfBuddles, Cond.instanceMethod yX5_tinOfBuddles, Cond.selects RX5 yX5_tinOfBuddles yX5_tinOfBuddles, Cond.code yX5_tinOfBuddles cX5_tinOfBuddles 3 (some .int), Cond.methodLink RX6 197 yX1_oreOfLots, Cond.methodLink RL 133 yX8_foresee, Cond.instanceMethod yX8_foresee, Cond.selects RX8 yX8_foresee yX8_foresee, Cond.code yX8_foresee cX8_foresee 4 (some .int), Cond.methodLink RX8 157 yX7_become, Cond.instanceMethod yX7_become, Cond.selects RX7 yX7_become yX7_become, Cond.code yX7_become cX7_become 2 none, Cond.methodLink RX7 73 yX7_copy, Cond.static yX7_copy, Cond.code yX7_copy cX7_copy 2 none, Cond.methodLink RX7 55 arraycopyName, Cond.methodLink RX8 161 yX7_tinInBuddles, Cond.instanceMethod yX7_tinInBuddles, Cond.selects RX7 yX7_tinInBuddles yX7_tinInBuddles, Cond.code yX7_tinInBuddles cX7_tinInBuddles 1 (some .int), Cond.methodLink RL 134 yL_advise, Cond.static yL_advise]
def wsL_law0_r29 : List Cond := [Cond.codeWith yL_advise cL_advise 4 (some .int) [(0, 9, 12, 15), (0, 9, 15, 25)], Cond.methodLink RL 67 yX6_advise, Cond.instanceMethod yX6_advise, Cond.selects RX6 yX6_advise yX6_advise, Cond.code yX6_advise cX6_advise 6 (some .int), Cond.methodLink RL 136 yX8_advise, Cond.instanceMethod yX8_advise, Cond.selects RX8 yX8_advise yX8_advise, Cond.code yX8_advise cX8_advise 5 (some .int), Cond.methodLink RL 137 yL_bestWater, Cond.static yL_bestWater, Cond.codeWith yL_bestWater cL_bestWater 5 (some .int) [(0, 10, 13, 13), (0, 10, 17, 15)], Cond.methodLink RL 70 yX6_bestWater, Cond.instanceMethod yX6_bestWater, Cond.selects RX6 yX6_bestWater yX6_bestWater, Cond.code yX6_bestWater cX6_bestWater 9 (some .int), Cond.fieldLink RX6 202 "StampWorks$Ore" "tin" "I", Cond.fieldLink RX6 209 "StampWorks$Ore" "rock" "I", Cond.methodLink RX6 205 yX6_tinOfHead, Cond.methodLink RX6 212 yX6_rockOfHead, Cond.methodLink RX6 215 yX6_gradeOf, Cond.methodLink RL 139 yX8_bestWater, Cond.instanceMethod yX8_bestWater, Cond.selects RX8 yX8_bestWater yX8_bestWater]
def wsL_law0_r30 : List Cond := [Cond.code yX8_bestWater cX8_bestWater 7 (some .int), Cond.methodLink RL 140 yX6_share, Cond.instanceMethod yX6_share, Cond.selects RX6 yX6_share yX6_share, Cond.code yX6_share cX6_share 3 (some .double), Cond.fieldLink RX6 218 "StampWorks$Works" "metal" "I", Cond.fieldLink RX6 221 "StampWorks$Works" "tails" "LStampWorks$Ore;", Cond.methodLink RL 144 yX8_share, Cond.instanceMethod yX8_share, Cond.selects RX8 yX8_share yX8_share, Cond.code yX8_share cX8_share 2 (some .double), Cond.methodLink RL 145 yX6_digest, Cond.instanceMethod yX6_digest, Cond.selects RX6 yX6_digest yX6_digest, Cond.code yX6_digest cX6_digest 4 (some .long), Cond.constantLong RX6 224 (499), Cond.methodLink RX6 226 yX6_join, Cond.static yX6_join, Cond.code yX6_join cX6_join 4 (some .long), Cond.constantLong RX6 261 (31), Cond.methodLink RX6 234 yX6_joinBox, Cond.static yX6_joinBox, Cond.code yX6_joinBox cX6_joinBox 6 (some .long), Cond.fieldLink RX6 263 "StampWorks$Stamp" "weight" "I"]
def wsL_law0_r31 : List Cond := [Cond.fieldLink RX6 266 "StampWorks$Stamp" "cams" "I", Cond.methodLink RX6 238 yX6_joinLot, Cond.static yX6_joinLot, Cond.code yX6_joinLot cX6_joinLot 6 (some .long), Cond.methodLink RX6 246 yX6_joinBuddle, Cond.static yX6_joinBuddle, Cond.code yX6_joinBuddle cX6_joinBuddle 6 (some .long), Cond.methodLink RL 149 yX8_digest, Cond.instanceMethod yX8_digest, Cond.selects RX8 yX8_digest yX8_digest, Cond.code yX8_digest cX8_digest 5 (some .long), Cond.constantLong RX8 164 (499), Cond.constantLong RX8 166 (31)]
def wsL_law0 : List Cond := (wsL_law0_r1 ++ (wsL_law0_r2 ++ (wsL_law0_r3 ++ (wsL_law0_r4 ++ (wsL_law0_r5 ++ (wsL_law0_r6 ++ (wsL_law0_r7 ++ (wsL_law0_r8 ++ (wsL_law0_r9 ++ (wsL_law0_r10 ++ (wsL_law0_r11 ++ (wsL_law0_r12 ++ (wsL_law0_r13 ++ (wsL_law0_r14 ++ (wsL_law0_r15 ++ (wsL_law0_r16 ++ (wsL_law0_r17 ++ (wsL_law0_r18 ++ (wsL_law0_r19 ++ (wsL_law0_r20 ++ (wsL_law0_r21 ++ (wsL_law0_r22 ++ (wsL_law0_r23 ++ (wsL_law0_r24 ++ (wsL_law0_r25 ++ (wsL_law0_r26 ++ (wsL_law0_r27 ++ (wsL_law0_r28 ++ (wsL_law0_r29 ++ (wsL_law0_r30 ++ wsL_law0_r31)))))))))))))))))))))))))))))) ++ wsX60 ++ wsX80 ++ wsX50 ++ wsX00 ++ wsX10 ++ wsX30 ++ wsX40 ++ wsX20 ++ wsX70 ++ ([] : List Cond)
def wsL_law : List Cond := wsL_law0 ++ (vx_atS RX6 23 "java/lang/IndexOutOfBoundsException" ["java/lang/RuntimeException", "java/lang/Exception"]).filter goodWord ++ (vx_atS RX6 30 "java/lang/IllegalArgumentException" ["java/lang/RuntimeException", "java/lang/Exception"]).filter goodWord ++ (vx_atS RX6 48 "java/lang/IllegalStateException" ["java/lang/RuntimeException", "java/lang/Exception"]).filter goodWord
set_option maxRecDepth 20000 in
theorem wsL_law_in0 : ∀ w ∈ wsL_law0, w ∈ lw_tbl := fun w h => (goodIn_p wsL_law0 [39, 42, 47, 54, 61, 84, 139, 146, 739, 745, 323, 849, 852, 856, 845, 414, 860, 423, 864, 446, 450, 458, 868, 872, 465, 876, 473, 880, 482, 288, 292, 884, 888, 490, 497, 502, 250, 253, 506, 892, 896, 513, 300, 304, 307, 310, 900, 522, 525, 530, 535, 539, 550, 543, 547, 261, 265, 269, 554, 558, 562, 257, 569, 573, 577, 581, 585, 591, 596, 601, 605, 904, 907, 911, 916, 920, 923, 926, 930, 934, 938, 943, 613, 242, 246, 273, 277, 947, 951, 955, 960, 621, 625, 964, 968, 971, 633, 640, 643, 646, 976, 981, 985, 656, 989, 664, 670, 995, 680, 685, 692, 696, 700, 705, 709, 715, 999, 1003, 1006, 1011, 723, 1015, 730, 1019, 233, 1023, 237, 280, 284, 296, 313, 1027] (by decide +kernel) (by decide +kernel) w h).1
theorem wsL_law_x0 : ∀ w ∈ (vx_atS RX6 23 "java/lang/IndexOutOfBoundsException" ["java/lang/RuntimeException", "java/lang/Exception"]).filter goodWord, w ∈ lw_tbl := by decide +kernel
theorem wsL_law_x1 : ∀ w ∈ (vx_atS RX6 30 "java/lang/IllegalArgumentException" ["java/lang/RuntimeException", "java/lang/Exception"]).filter goodWord, w ∈ lw_tbl := by decide +kernel
theorem wsL_law_x2 : ∀ w ∈ (vx_atS RX6 48 "java/lang/IllegalStateException" ["java/lang/RuntimeException", "java/lang/Exception"]).filter goodWord, w ∈ lw_tbl := by decide +kernel
theorem wsL_law_in : ∀ w ∈ wsL_law, w ∈ lw_tbl := fun w h => (List.mem_append.mp h).elim (fun h => (List.mem_append.mp h).elim (fun h => (List.mem_append.mp h).elim (fun h => wsL_law_in0 w h) (fun h => wsL_law_x0 w h)) (fun h => wsL_law_x1 w h)) (fun h => wsL_law_x2 w h)
theorem inlX0 : ∀ w ∈ wsX00, w ∈ wsL_law := fun _ h => List.mem_append_left _ (List.mem_append_left _ (List.mem_append_left _ (List.mem_append_left _ (List.mem_append_left _ (List.mem_append_left _ (List.mem_append_left _ (List.mem_append_left _ (List.mem_append_left _ (List.mem_append_right _ h)))))))))
theorem inX0 : ∀ w ∈ wsX00, w ∈ lw_tbl := fun w h => wsL_law_in w (inlX0 w h)
theorem inlX1 : ∀ w ∈ wsX10, w ∈ wsL_law := fun _ h => List.mem_append_left _ (List.mem_append_left _ (List.mem_append_left _ (List.mem_append_left _ (List.mem_append_left _ (List.mem_append_left _ (List.mem_append_left _ (List.mem_append_left _ (List.mem_append_right _ h))))))))
theorem inX1 : ∀ w ∈ wsX10, w ∈ lw_tbl := fun w h => wsL_law_in w (inlX1 w h)
theorem inlX2 : ∀ w ∈ wsX20, w ∈ wsL_law := fun _ h => List.mem_append_left _ (List.mem_append_left _ (List.mem_append_left _ (List.mem_append_left _ (List.mem_append_left _ (List.mem_append_right _ h)))))
theorem inX2 : ∀ w ∈ wsX20, w ∈ lw_tbl := fun w h => wsL_law_in w (inlX2 w h)
theorem inlX3 : ∀ w ∈ wsX30, w ∈ wsL_law := fun _ h => List.mem_append_left _ (List.mem_append_left _ (List.mem_append_left _ (List.mem_append_left _ (List.mem_append_left _ (List.mem_append_left _ (List.mem_append_left _ (List.mem_append_right _ h)))))))
theorem inX3 : ∀ w ∈ wsX30, w ∈ lw_tbl := fun w h => wsL_law_in w (inlX3 w h)
theorem inlX4 : ∀ w ∈ wsX40, w ∈ wsL_law := fun _ h => List.mem_append_left _ (List.mem_append_left _ (List.mem_append_left _ (List.mem_append_left _ (List.mem_append_left _ (List.mem_append_left _ (List.mem_append_right _ h))))))
theorem inX4 : ∀ w ∈ wsX40, w ∈ lw_tbl := fun w h => wsL_law_in w (inlX4 w h)
theorem inlX5 : ∀ w ∈ wsX50, w ∈ wsL_law := fun _ h => List.mem_append_left _ (List.mem_append_left _ (List.mem_append_left _ (List.mem_append_left _ (List.mem_append_left _ (List.mem_append_left _ (List.mem_append_left _ (List.mem_append_left _ (List.mem_append_left _ (List.mem_append_left _ (List.mem_append_right _ h))))))))))
theorem inX5 : ∀ w ∈ wsX50, w ∈ lw_tbl := fun w h => wsL_law_in w (inlX5 w h)
theorem inlX6 : ∀ w ∈ wsX60, w ∈ wsL_law := fun _ h => List.mem_append_left _ (List.mem_append_left _ (List.mem_append_left _ (List.mem_append_left _ (List.mem_append_left _ (List.mem_append_left _ (List.mem_append_left _ (List.mem_append_left _ (List.mem_append_left _ (List.mem_append_left _ (List.mem_append_left _ (List.mem_append_left _ (List.mem_append_right _ h))))))))))))
theorem inX6 : ∀ w ∈ wsX60, w ∈ lw_tbl := fun w h => wsL_law_in w (inlX6 w h)
theorem inlX7 : ∀ w ∈ wsX70, w ∈ wsL_law := fun _ h => List.mem_append_left _ (List.mem_append_left _ (List.mem_append_left _ (List.mem_append_left _ (List.mem_append_right _ h))))
theorem inX7 : ∀ w ∈ wsX70, w ∈ lw_tbl := fun w h => wsL_law_in w (inlX7 w h)
theorem inlX8 : ∀ w ∈ wsX80, w ∈ wsL_law := fun _ h => List.mem_append_left _ (List.mem_append_left _ (List.mem_append_left _ (List.mem_append_left _ (List.mem_append_left _ (List.mem_append_left _ (List.mem_append_left _ (List.mem_append_left _ (List.mem_append_left _ (List.mem_append_left _ (List.mem_append_left _ (List.mem_append_right _ h)))))))))))
theorem inX8 : ∀ w ∈ wsX80, w ∈ lw_tbl := fun w h => wsL_law_in w (inlX8 w h)
theorem inJ9 : ∀ w ∈ wsJ90, w ∈ lw_tbl := by decide +kernel
theorem inJ0 : ∀ w ∈ wsJ00, w ∈ lw_tbl := by decide +kernel
theorem inJ10 : ∀ w ∈ wsJ100, w ∈ lw_tbl := by decide +kernel
abbrev vwCl : List vw_C := [(RX0, TX0, 9), (RX1, TX1, 3), (RX2, TX2, 2), (RX3, TX3, 2), (RX4, TX4, 3), (RX5, TX5, 12), (RX6, TX6, 2), (RX7, TX7, 18), (RX8, TX8, 7)]
