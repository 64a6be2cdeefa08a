def RX0 : String := "Stuntledger$Gag"
def TX0 : u_T := fun k => match k with
  | 0 => ("Stuntledger$Gag", "kind", "I", false)
  | 1 => ("Stuntledger$Gag", "performer", "I", false)
  | 2 => ("Stuntledger$Gag", "place", "I", false)
  | 3 => ("Stuntledger$Gag", "level", "I", false)
  | 4 => ("Stuntledger$Gag", "step", "I", false)
  | 5 => ("Stuntledger$Gag", "signatures", "I", false)
  | 6 => ("Stuntledger$Gag", "noes", "I", false)
  | 7 => ("Stuntledger$Gag", "takenCount", "I", false)
  | _ => ("Stuntledger$Gag", "isArmed", "Z", false)
def tyX0 : Nat → FieldType := fun k => match k with
  | 0 => .int
  | 1 => .int
  | 2 => .int
  | 3 => .int
  | 4 => .int
  | 5 => .int
  | 6 => .int
  | 7 => .int
  | _ => .boolean
abbrev wsX00 : List Cond := u_ws RX0 TX0 9
theorem nmX0 : ∀ a, a < 9 → ∀ b, b < 9 → a ≠ b → (TX0 a).2.1 ≠ (TX0 b).2.1 := by decide +kernel
theorem tyX0_ok : ∀ k, k < 9 → parseFieldDescriptor (TX0 k).2.2.1 = some (tyX0 k) := by decide +kernel
abbrev cX0_init : ByteArray := prog_2_method_1_code
def yX0_init : MethodName := ⟨RX0, "<init>", "()V"⟩
def RX1 : String := "Stuntledger$Person"
def TX1 : u_T := fun k => match k with
  | 0 => ("Stuntledger$Person", "skills", "[I", true)
  | 1 => ("Stuntledger$Person", "isMinor", "Z", false)
  | 2 => ("Stuntledger$Person", "isMedic", "Z", false)
  | 3 => ("Stuntledger$Person", "isHurt", "Z", false)
  | 4 => ("Stuntledger$Person", "hurtDay", "I", false)
  | 5 => ("Stuntledger$Person", "place", "I", false)
  | 6 => ("Stuntledger$Person", "tired", "I", false)
  | 7 => ("Stuntledger$Person", "pay", "I", false)
  | _ => ("Stuntledger$Person", "tookCount", "I", false)
def tyX1 : Nat → FieldType := fun k => match k with
  | 0 => .array .int
  | 1 => .boolean
  | 2 => .boolean
  | 3 => .boolean
  | 4 => .int
  | 5 => .int
  | 6 => .int
  | 7 => .int
  | _ => .int
abbrev wsX10 : List Cond := u_ws RX1 TX1 9
theorem nmX1 : ∀ a, a < 9 → ∀ b, b < 9 → a ≠ b → (TX1 a).2.1 ≠ (TX1 b).2.1 := by decide +kernel
theorem tyX1_ok : ∀ k, k < 9 → parseFieldDescriptor (TX1 k).2.2.1 = some (tyX1 k) := by decide +kernel
abbrev cX1_init : ByteArray := prog_3_method_1_code
def yX1_init : MethodName := ⟨RX1, "<init>", "()V"⟩
def RX2 : String := "Stuntledger$Piece"
def TX2 : u_T := fun k => match k with
  | 0 => ("Stuntledger$Piece", "kind", "I", false)
  | 1 => ("Stuntledger$Piece", "guard", "I", false)
  | 2 => ("Stuntledger$Piece", "uses", "I", false)
  | 3 => ("Stuntledger$Piece", "inspectedDay", "I", false)
  | _ => ("Stuntledger$Piece", "putTo", "I", false)
def tyX2 : Nat → FieldType := fun k => match k with
  | 0 => .int
  | 1 => .int
  | 2 => .int
  | 3 => .int
  | _ => .int
abbrev wsX20 : List Cond := u_ws RX2 TX2 5
theorem nmX2 : ∀ a, a < 5 → ∀ b, b < 5 → a ≠ b → (TX2 a).2.1 ≠ (TX2 b).2.1 := by decide +kernel
theorem tyX2_ok : ∀ k, k < 5 → parseFieldDescriptor (TX2 k).2.2.1 = some (tyX2 k) := by decide +kernel
abbrev cX2_init : ByteArray := prog_4_method_1_code
def yX2_init : MethodName := ⟨RX2, "<init>", "()V"⟩
def RX3 : String := "Stuntledger"
def TX3 : u_T := fun k => match k with
  | 0 => ("Stuntledger", "people", "[LStuntledger$Person;", true)
  | 1 => ("Stuntledger", "pieces", "[LStuntledger$Piece;", true)
  | 2 => ("Stuntledger", "gags", "[LStuntledger$Gag;", true)
  | 3 => ("Stuntledger", "peopleCount", "I", false)
  | 4 => ("Stuntledger", "pieceCount", "I", false)
  | 5 => ("Stuntledger", "gagCount", "I", false)
  | 6 => ("Stuntledger", "care", "[I", true)
  | 7 => ("Stuntledger", "misses", "[I", true)
  | 8 => ("Stuntledger", "day", "I", false)
  | 9 => ("Stuntledger", "wind", "I", false)
  | 10 => ("Stuntledger", "hasLight", "Z", false)
  | 11 => ("Stuntledger", "hurtEver", "I", false)
  | 12 => ("Stuntledger", "takenEver", "I", false)
  | 13 => ("Stuntledger", "downEver", "I", false)
  | _ => ("Stuntledger", "marginsTaken", "J", false)
def tyX3 : Nat → FieldType := fun k => match k with
  | 0 => .array (.object "Stuntledger$Person")
  | 1 => .array (.object "Stuntledger$Piece")
  | 2 => .array (.object "Stuntledger$Gag")
  | 3 => .int
  | 4 => .int
  | 5 => .int
  | 6 => .array .int
  | 7 => .array .int
  | 8 => .int
  | 9 => .int
  | 10 => .boolean
  | 11 => .int
  | 12 => .int
  | 13 => .int
  | _ => .long
abbrev wsX30 : List Cond := u_ws RX3 TX3 15
theorem nmX3 : ∀ a, a < 15 → ∀ b, b < 15 → a ≠ b → (TX3 a).2.1 ≠ (TX3 b).2.1 := by decide +kernel
theorem tyX3_ok : ∀ k, k < 15 → parseFieldDescriptor (TX3 k).2.2.1 = some (tyX3 k) := by decide +kernel
abbrev cX3_init : ByteArray := prog_1_method_1_code
def yX3_init : MethodName := ⟨RX3, "<init>", "()V"⟩
abbrev cX3_person : ByteArray := prog_1_method_2_code
def yX3_person : MethodName := ⟨RX3, "person", "(ZZ)I"⟩
abbrev cX3_skill : ByteArray := prog_1_method_3_code
def yX3_skill : MethodName := ⟨RX3, "skill", "(III)I"⟩
abbrev cX3_walk : ByteArray := prog_1_method_4_code
def yX3_walk : MethodName := ⟨RX3, "walk", "(II)I"⟩
abbrev cX3_kit : ByteArray := prog_1_method_5_code
def yX3_kit : MethodName := ⟨RX3, "kit", "(III)I"⟩
abbrev cX3_inspect : ByteArray := prog_1_method_6_code
def yX3_inspect : MethodName := ⟨RX3, "inspect", "(I)I"⟩
abbrev cX3_put : ByteArray := prog_1_method_7_code
def yX3_put : MethodName := ⟨RX3, "put", "(II)I"⟩
abbrev cX3_gag : ByteArray := prog_1_method_8_code
def yX3_gag : MethodName := ⟨RX3, "gag", "(IIII)I"⟩
abbrev cX3_change : ByteArray := prog_1_method_9_code
def yX3_change : MethodName := ⟨RX3, "change", "(IIII)I"⟩
abbrev cX3_rehearse : ByteArray := prog_1_method_10_code
def yX3_rehearse : MethodName := ⟨RX3, "rehearse", "(I)I"⟩
abbrev cX3_sign : ByteArray := prog_1_method_11_code
def yX3_sign : MethodName := ⟨RX3, "sign", "(II)I"⟩
abbrev cX3_no : ByteArray := prog_1_method_12_code
def yX3_no : MethodName := ⟨RX3, "no", "(IIZ)Z"⟩
abbrev cX3_arm : ByteArray := prog_1_method_13_code
def yX3_arm : MethodName := ⟨RX3, "arm", "(I)I"⟩
abbrev cX3_take : ByteArray := prog_1_method_15_code
def yX3_take : MethodName := ⟨RX3, "take", "(I)I"⟩
abbrev cX3_weather : ByteArray := prog_1_method_16_code
def yX3_weather : MethodName := ⟨RX3, "weather", "(IZ)I"⟩
abbrev cX3_pass : ByteArray := prog_1_method_17_code
def yX3_pass : MethodName := ⟨RX3, "pass", "(I)I"⟩
abbrev cX3_ofPerson : ByteArray := prog_1_method_18_code
def yX3_ofPerson : MethodName := ⟨RX3, "ofPerson", "(II)I"⟩
abbrev cX3_ofKit : ByteArray := prog_1_method_19_code
def yX3_ofKit : MethodName := ⟨RX3, "ofKit", "(II)I"⟩
abbrev cX3_ofGag : ByteArray := prog_1_method_20_code
def yX3_ofGag : MethodName := ⟨RX3, "ofGag", "(II)I"⟩
abbrev cX3_ofKind : ByteArray := prog_1_method_21_code
def yX3_ofKind : MethodName := ⟨RX3, "ofKind", "(IZ)I"⟩
abbrev cX3_many : ByteArray := prog_1_method_22_code
def yX3_many : MethodName := ⟨RX3, "many", "(I)I"⟩
abbrev cX3_mostLevel : ByteArray := prog_1_method_24_code
def yX3_mostLevel : MethodName := ⟨RX3, "mostLevel", "(I)I"⟩
abbrev cX3_bestPerformer : ByteArray := prog_1_method_25_code
def yX3_bestPerformer : MethodName := ⟨RX3, "bestPerformer", "(I)I"⟩
abbrev cX3_needs : ByteArray := prog_1_method_26_code
def yX3_needs : MethodName := ⟨RX3, "needs", "(I)I"⟩
abbrev cX3_safeFrom : ByteArray := prog_1_method_27_code
def yX3_safeFrom : MethodName := ⟨RX3, "safeFrom", "(I)I"⟩
abbrev cX3_digest : ByteArray := prog_1_method_28_code
def yX3_digest : MethodName := ⟨RX3, "digest", "()J"⟩
abbrev cX3_mixed : ByteArray := prog_1_method_29_code
def yX3_mixed : MethodName := ⟨RX3, "mixed", "(JI)J"⟩
abbrev cX3_requirePerson : ByteArray := prog_1_method_30_code
def yX3_requirePerson : MethodName := ⟨RX3, "requirePerson", "(I)V"⟩
abbrev cX3_requirePiece : ByteArray := prog_1_method_31_code
def yX3_requirePiece : MethodName := ⟨RX3, "requirePiece", "(I)V"⟩
abbrev cX3_requireGag : ByteArray := prog_1_method_32_code
def yX3_requireGag : MethodName := ⟨RX3, "requireGag", "(I)V"⟩
abbrev cX3_requireKind : ByteArray := prog_1_method_33_code
def yX3_requireKind : MethodName := ⟨RX3, "requireKind", "(I)V"⟩
abbrev cX3_requireRange : ByteArray := prog_1_method_34_code
def yX3_requireRange : MethodName := ⟨RX3, "requireRange", "(III)V"⟩
abbrev cX3_requireArmed : ByteArray := prog_1_method_35_code
def yX3_requireArmed : MethodName := ⟨RX3, "requireArmed", "(I)V"⟩
abbrev cX3_energyAt : ByteArray := prog_1_method_36_code
def yX3_energyAt : MethodName := ⟨RX3, "energyAt", "(II)I"⟩
abbrev cX3_energyOf : ByteArray := prog_1_method_37_code
def yX3_energyOf : MethodName := ⟨RX3, "energyOf", "(I)I"⟩
abbrev cX3_ringOf : ByteArray := prog_1_method_38_code
def yX3_ringOf : MethodName := ⟨RX3, "ringOf", "(I)I"⟩
abbrev cX3_guardOf : ByteArray := prog_1_method_39_code
def yX3_guardOf : MethodName := ⟨RX3, "guardOf", "(I)I"⟩
abbrev cX3_guards : ByteArray := prog_1_method_40_code
def yX3_guards : MethodName := ⟨RX3, "guards", "(II)Z"⟩
abbrev cX3_isFit : ByteArray := prog_1_method_41_code
def yX3_isFit : MethodName := ⟨RX3, "isFit", "(I)Z"⟩
abbrev cX3_marginOf : ByteArray := prog_1_method_42_code
def yX3_marginOf : MethodName := ⟨RX3, "marginOf", "(I)I"⟩
abbrev cX3_marginWithoutEnergy : ByteArray := prog_1_method_43_code
def yX3_marginWithoutEnergy : MethodName := ⟨RX3, "marginWithoutEnergy", "(I)I"⟩
abbrev cX3_performersShare : ByteArray := prog_1_method_44_code
def yX3_performersShare : MethodName := ⟨RX3, "performersShare", "(II)I"⟩
abbrev cX3_distance : ByteArray := prog_1_method_45_code
def yX3_distance : MethodName := ⟨RX3, "distance", "(II)I"⟩
abbrev cX3_standsInRing : ByteArray := prog_1_method_46_code
def yX3_standsInRing : MethodName := ⟨RX3, "standsInRing", "(II)Z"⟩
abbrev cX3_isOccupied : ByteArray := prog_1_method_47_code
def yX3_isOccupied : MethodName := ⟨RX3, "isOccupied", "(I)Z"⟩
abbrev cX3_ringsAround : ByteArray := prog_1_method_48_code
def yX3_ringsAround : MethodName := ⟨RX3, "ringsAround", "(I)I"⟩
abbrev cX3_isClearPlace : ByteArray := prog_1_method_49_code
def yX3_isClearPlace : MethodName := ⟨RX3, "isClearPlace", "(I)Z"⟩
abbrev cX3_isReadyMedic : ByteArray := prog_1_method_50_code
def yX3_isReadyMedic : MethodName := ⟨RX3, "isReadyMedic", "(II)Z"⟩
abbrev cX3_whatBars : ByteArray := prog_1_method_51_code
def yX3_whatBars : MethodName := ⟨RX3, "whatBars", "(I)I"⟩
abbrev cX3_isTooYoung : ByteArray := prog_1_method_52_code
def yX3_isTooYoung : MethodName := ⟨RX3, "isTooYoung", "(II)Z"⟩
abbrev cX3_windBars : ByteArray := prog_1_method_53_code
def yX3_windBars : MethodName := ⟨RX3, "windBars", "(I)Z"⟩
abbrev cX3_darkBars : ByteArray := prog_1_method_54_code
def yX3_darkBars : MethodName := ⟨RX3, "darkBars", "(I)Z"⟩
abbrev cX3_hasMedicAtHand : ByteArray := prog_1_method_55_code
def yX3_hasMedicAtHand : MethodName := ⟨RX3, "hasMedicAtHand", "(I)Z"⟩
abbrev cX3_isNearArmed : ByteArray := prog_1_method_56_code
def yX3_isNearArmed : MethodName := ⟨RX3, "isNearArmed", "(I)Z"⟩
abbrev cX3_standDown : ByteArray := prog_1_method_57_code
def yX3_standDown : MethodName := ⟨RX3, "standDown", "(I)V"⟩
abbrev cX3_standDownOccupied : ByteArray := prog_1_method_58_code
def yX3_standDownOccupied : MethodName := ⟨RX3, "standDownOccupied", "()V"⟩
abbrev cX3_loseSignatures : ByteArray := prog_1_method_59_code
def yX3_loseSignatures : MethodName := ⟨RX3, "loseSignatures", "(I)V"⟩
abbrev cX3_becomeChanged : ByteArray := prog_1_method_60_code
def yX3_becomeChanged : MethodName := ⟨RX3, "becomeChanged", "(I)V"⟩
abbrev cX3_addMiss : ByteArray := prog_1_method_61_code
def yX3_addMiss : MethodName := ⟨RX3, "addMiss", "(I)V"⟩
abbrev cX3_tire : ByteArray := prog_1_method_62_code
def yX3_tire : MethodName := ⟨RX3, "tire", "(LStuntledger$Person;I)V"⟩
abbrev cX3_hurt : ByteArray := prog_1_method_63_code
def yX3_hurt : MethodName := ⟨RX3, "hurt", "(I)V"⟩
abbrev cX3_useKitOf : ByteArray := prog_1_method_64_code
def yX3_useKitOf : MethodName := ⟨RX3, "useKitOf", "(I)V"⟩
abbrev cX3_payFor : ByteArray := prog_1_method_65_code
def yX3_payFor : MethodName := ⟨RX3, "payFor", "(I)V"⟩
abbrev cX3_passOneDay : ByteArray := prog_1_method_66_code
def yX3_passOneDay : MethodName := ⟨RX3, "passOneDay", "()V"⟩
abbrev cX3_oneIf : ByteArray := prog_1_method_67_code
def yX3_oneIf : MethodName := ⟨RX3, "oneIf", "(Z)I"⟩
abbrev cX3_isInSet : ByteArray := prog_1_method_68_code
def yX3_isInSet : MethodName := ⟨RX3, "isInSet", "(II)Z"⟩
abbrev cX3_armedSet : ByteArray := prog_1_method_69_code
def yX3_armedSet : MethodName := ⟨RX3, "armedSet", "()I"⟩
abbrev cX3_fitCount : ByteArray := prog_1_method_70_code
def yX3_fitCount : MethodName := ⟨RX3, "fitCount", "()I"⟩
abbrev cX3_hurtCount : ByteArray := prog_1_method_71_code
def yX3_hurtCount : MethodName := ⟨RX3, "hurtCount", "()I"⟩
abbrev cX3_payOfAll : ByteArray := prog_1_method_72_code
def yX3_payOfAll : MethodName := ⟨RX3, "payOfAll", "()I"⟩
abbrev cX3_missesOfAll : ByteArray := prog_1_method_73_code
def yX3_missesOfAll : MethodName := ⟨RX3, "missesOfAll", "()I"⟩
abbrev cX3_bestFreePiece : ByteArray := prog_1_method_74_code
def yX3_bestFreePiece : MethodName := ⟨RX3, "bestFreePiece", "(II)I"⟩
def RX4 : String := "StuntledgerModel$Gag"
def TX4 : u_T := fun k => match k with
  | _ => ("", "", "", false)
def tyX4 : Nat → FieldType := fun k => match k with
  | _ => .int
abbrev wsX40 : List Cond := u_ws RX4 TX4 0
theorem nmX4 : ∀ a, a < 0 → ∀ b, b < 0 → a ≠ b → (TX4 a).2.1 ≠ (TX4 b).2.1 := by decide +kernel
theorem tyX4_ok : ∀ k, k < 0 → parseFieldDescriptor (TX4 k).2.2.1 = some (tyX4 k) := by decide +kernel
def RX5 : String := "StuntledgerModel$Person"
def TX5 : u_T := fun k => match k with
  | _ => ("", "", "", false)
def tyX5 : Nat → FieldType := fun k => match k with
  | _ => .int
abbrev wsX50 : List Cond := u_ws RX5 TX5 0
theorem nmX5 : ∀ a, a < 0 → ∀ b, b < 0 → a ≠ b → (TX5 a).2.1 ≠ (TX5 b).2.1 := by decide +kernel
theorem tyX5_ok : ∀ k, k < 0 → parseFieldDescriptor (TX5 k).2.2.1 = some (tyX5 k) := by decide +kernel
def RX6 : String := "StuntledgerModel"
def TX6 : u_T := fun k => match k with
  | _ => ("", "", "", false)
def tyX6 : Nat → FieldType := fun k => match k with
  | _ => .int
abbrev wsX60 : List Cond := u_ws RX6 TX6 0
theorem nmX6 : ∀ a, a < 0 → ∀ b, b < 0 → a ≠ b → (TX6 a).2.1 ≠ (TX6 b).2.1 := by decide +kernel
theorem tyX6_ok : ∀ k, k < 0 → parseFieldDescriptor (TX6 k).2.2.1 = some (tyX6 k) := by decide +kernel
def RJx145de : String := "java/io/Serializable"
def TJx145de : u_T := fun k => match k with
  | _ => ("", "", "", false)
def tyJx145de : Nat → FieldType := fun k => match k with
  | _ => .int
abbrev wsJx145de0 : List Cond := u_ws RJx145de TJx145de 0
theorem nmJx145de : ∀ a, a < 0 → ∀ b, b < 0 → a ≠ b → (TJx145de a).2.1 ≠ (TJx145de b).2.1 := by decide +kernel
theorem tyJx145de_ok : ∀ k, k < 0 → parseFieldDescriptor (TJx145de k).2.2.1 = some (tyJx145de k) := by decide +kernel
def RJ6 : String := "java/lang/Integer"
def TJ6 : u_T := fun k => match k with
  | _ => ("", "", "", false)
def tyJ6 : Nat → FieldType := fun k => match k with
  | _ => .int
abbrev wsJ60 : List Cond := u_ws RJ6 TJ6 0
theorem nmJ6 : ∀ a, a < 0 → ∀ b, b < 0 → a ≠ b → (TJ6 a).2.1 ≠ (TJ6 b).2.1 := by decide +kernel
theorem tyJ6_ok : ∀ k, k < 0 → parseFieldDescriptor (TJ6 k).2.2.1 = some (tyJ6 k) := by decide +kernel
abbrev cJ6_bitCount_0f7a4 : ByteArray := prog_13_method_49_code
def yJ6_bitCount_0f7a4 : MethodName := ⟨RJ6, "bitCount", "(I)I"⟩
def RJ9 : String := "java/lang/Math"
def TJ9 : u_T := fun k => match k with
  | _ => ("", "", "", false)
def tyJ9 : Nat → FieldType := fun k => match k with
  | _ => .int
abbrev wsJ90 : List Cond := u_ws RJ9 TJ9 0
theorem nmJ9 : ∀ a, a < 0 → ∀ b, b < 0 → a ≠ b → (TJ9 a).2.1 ≠ (TJ9 b).2.1 := by decide +kernel
theorem tyJ9_ok : ∀ k, k < 0 → parseFieldDescriptor (TJ9 k).2.2.1 = some (tyJ9 k) := by decide +kernel
abbrev cJ9_abs_0f7a4 : ByteArray := prog_14_method_59_code
def yJ9_abs_0f7a4 : MethodName := ⟨RJ9, "abs", "(I)I"⟩
abbrev cJ9_max_7cf53 : ByteArray := prog_14_method_65_code
def yJ9_max_7cf53 : MethodName := ⟨RJ9, "max", "(II)I"⟩
abbrev cJ9_min_7cf53 : ByteArray := prog_14_method_69_code
def yJ9_min_7cf53 : MethodName := ⟨RJ9, "min", "(II)I"⟩
def RJ0 : String := "java/lang/String"
def TJ0 : u_T := fun k => match k with
  | _ => ("", "", "", false)
def tyJ0 : Nat → FieldType := fun k => match k with
  | _ => .int
abbrev wsJ00 : List Cond := u_ws RJ0 TJ0 0
theorem nmJ0 : ∀ a, a < 0 → ∀ b, b < 0 → a ≠ b → (TJ0 a).2.1 ≠ (TJ0 b).2.1 := by decide +kernel
theorem tyJ0_ok : ∀ k, k < 0 → parseFieldDescriptor (TJ0 k).2.2.1 = some (tyJ0 k) := by decide +kernel
def RL : String := "StuntledgerLaw"
abbrev cL_below : ByteArray := method_2_code
def yL_below : MethodName := ⟨RL, "below", "(II)I"⟩
abbrev cL_cell : ByteArray := method_3_code
def yL_cell : MethodName := ⟨RL, "cell", "([II)I"⟩
abbrev cL_write : ByteArray := method_4_code
def yL_write : MethodName := ⟨RL, "write", "(LStuntledger;[II)V"⟩
abbrev cL_ready : ByteArray := method_5_code
def yL_ready : MethodName := ⟨RL, "ready", "(LStuntledger;I)V"⟩
abbrev cL_law : ByteArray := code
def yL_law : MethodName := ⟨RL, "law", "([I)Z"⟩
abbrev cL_isSound : ByteArray := method_7_code
def yL_isSound : MethodName := ⟨RL, "isSound", "(LStuntledger;)Z"⟩
def wsL_law0_r1 : List Cond := [Cond.classLink RL 20 RX3, Cond.instantiable RX3 15, Cond.initialized RX3, Cond.arrayClass .int, Cond.methodLink RL 58 yX3_init, Cond.instanceMethod yX3_init, Cond.code yX3_init cX3_init 2 none, Cond.methodLink RX3 1 objectInit, Cond.instanceMethod objectInit, Cond.code objectInit ⟨#[0xb1]⟩ 1 none, Cond.classLink RX3 9 RX1, Cond.fieldLink RX3 11 "Stuntledger" "people" "[LStuntledger$Person;", Cond.classLink RX3 15 RX2, Cond.fieldLink RX3 17 "Stuntledger" "pieces" "[LStuntledger$Piece;", Cond.classLink RX3 21 RX0, Cond.fieldLink RX3 23 "Stuntledger" "gags" "[LStuntledger$Gag;", Cond.fieldLink RX3 27 "Stuntledger" "peopleCount" "I", Cond.fieldLink RX3 31 "Stuntledger" "pieceCount" "I", Cond.fieldLink RX3 34 "Stuntledger" "gagCount" "I", Cond.fieldLink RX3 37 "Stuntledger" "care" "[I", Cond.fieldLink RX3 41 "Stuntledger" "misses" "[I", Cond.fieldLink RX3 44 "Stuntledger" "day" "I", Cond.fieldLink RX3 47 "Stuntledger" "wind" "I", Cond.fieldLink RX3 50 "Stuntledger" "hasLight" "Z"]
def wsL_law0_r2 : List Cond := [Cond.fieldLink RX3 54 "Stuntledger" "hurtEver" "I", Cond.fieldLink RX3 57 "Stuntledger" "takenEver" "I", Cond.fieldLink RX3 60 "Stuntledger" "downEver" "I", Cond.fieldLink RX3 63 "Stuntledger" "marginsTaken" "J", Cond.instantiable RX1 9, Cond.initialized RX1, Cond.instantiable RX2 5, Cond.initialized RX2, Cond.instantiable RX0 9, Cond.initialized RX0, Cond.instanceMethod yX1_init, Cond.code yX1_init cX1_init 1 none, Cond.methodLink RX1 3 objectInit, Cond.fieldLink RX1 9 "Stuntledger$Person" "skills" "[I", Cond.fieldLink RX1 15 "Stuntledger$Person" "isMinor" "Z", Cond.fieldLink RX1 19 "Stuntledger$Person" "isMedic" "Z", Cond.fieldLink RX1 22 "Stuntledger$Person" "isHurt" "Z", Cond.fieldLink RX1 25 "Stuntledger$Person" "hurtDay" "I", Cond.fieldLink RX1 29 "Stuntledger$Person" "place" "I", Cond.fieldLink RX1 32 "Stuntledger$Person" "tired" "I", Cond.fieldLink RX1 35 "Stuntledger$Person" "pay" "I", Cond.fieldLink RX1 38 "Stuntledger$Person" "tookCount" "I", Cond.instanceMethod yX2_init, Cond.code yX2_init cX2_init 1 none]
def wsL_law0_r3 : List Cond := [Cond.methodLink RX2 3 objectInit, Cond.fieldLink RX2 9 "Stuntledger$Piece" "kind" "I", Cond.fieldLink RX2 15 "Stuntledger$Piece" "guard" "I", Cond.fieldLink RX2 18 "Stuntledger$Piece" "uses" "I", Cond.fieldLink RX2 21 "Stuntledger$Piece" "inspectedDay" "I", Cond.fieldLink RX2 24 "Stuntledger$Piece" "putTo" "I", Cond.instanceMethod yX0_init, Cond.code yX0_init cX0_init 1 none, Cond.methodLink RX0 1 objectInit, Cond.fieldLink RX0 7 "Stuntledger$Gag" "kind" "I", Cond.fieldLink RX0 13 "Stuntledger$Gag" "performer" "I", Cond.fieldLink RX0 16 "Stuntledger$Gag" "place" "I", Cond.fieldLink RX0 19 "Stuntledger$Gag" "level" "I", Cond.fieldLink RX0 22 "Stuntledger$Gag" "step" "I", Cond.fieldLink RX0 25 "Stuntledger$Gag" "signatures" "I", Cond.fieldLink RX0 28 "Stuntledger$Gag" "noes" "I", Cond.fieldLink RX0 31 "Stuntledger$Gag" "takenCount" "I", Cond.fieldLink RX0 34 "Stuntledger$Gag" "isArmed" "Z", Cond.methodLink RL 59 yL_write, Cond.static yL_write, Cond.initialized RL, Cond.code yL_write cL_write 6 none, Cond.methodLink RL 9 yL_cell, Cond.static yL_cell]
def wsL_law0_r4 : List Cond := [Cond.code yL_cell cL_cell 2 (some .int), Cond.constant RL 8 (790386105), Cond.methodLink RL 15 yL_below, Cond.static yL_below, Cond.code yL_below cL_below 2 (some .int), Cond.constant RL 7 (2147483647), Cond.methodLink RL 19 yX3_person, Cond.instanceMethod yX3_person, Cond.selects RX3 yX3_person yX3_person, Cond.code yX3_person cX3_person 4 (some .int), Cond.classLink RX3 70 "java/lang/IllegalStateException", Cond.initialized "java/lang/IllegalStateException", Cond.fieldLink RX3 77 "Stuntledger$Person" "isMinor" "Z", Cond.fieldLink RX3 80 "Stuntledger$Person" "isMedic" "Z", Cond.methodLink RX3 83 yX3_standDownOccupied, Cond.instanceMethod yX3_standDownOccupied, Cond.selects RX3 yX3_standDownOccupied yX3_standDownOccupied, Cond.code yX3_standDownOccupied cX3_standDownOccupied 2 none, Cond.methodLink RX3 357 yX3_isOccupied, Cond.instanceMethod yX3_isOccupied, Cond.selects RX3 yX3_isOccupied yX3_isOccupied, Cond.code yX3_isOccupied cX3_isOccupied 3 (some .boolean), Cond.methodLink RX3 110 yX3_standsInRing, Cond.instanceMethod yX3_standsInRing]
def wsL_law0_r5 : List Cond := [Cond.selects RX3 yX3_standsInRing yX3_standsInRing, Cond.code yX3_standsInRing cX3_standsInRing 3 (some .boolean), Cond.fieldLink RX3 151 "Stuntledger$Gag" "performer" "I", Cond.fieldLink RX3 104 "Stuntledger$Person" "place" "I", Cond.fieldLink RX3 154 "Stuntledger$Gag" "place" "I", Cond.methodLink RX3 351 yX3_distance, Cond.static yX3_distance, Cond.code yX3_distance cX3_distance 2 (some .int), Cond.methodLink RX3 348 Lib.Math.abs.name, Cond.static Lib.Math.abs.name, Cond.initialized "java/lang/Math", Cond.code Lib.Math.abs.name Lib.Math.abs.code 1 (some .int), Cond.methodLink RX3 261 yX3_ringOf, Cond.instanceMethod yX3_ringOf, Cond.selects RX3 yX3_ringOf yX3_ringOf, Cond.code yX3_ringOf cX3_ringOf 2 (some .int), Cond.fieldLink RX3 117 "Stuntledger$Gag" "kind" "I", Cond.fieldLink RX3 155 "Stuntledger$Gag" "level" "I", Cond.methodLink RX3 279 yX3_energyAt, Cond.instanceMethod yX3_energyAt, Cond.selects RX3 yX3_energyAt yX3_energyAt, Cond.code yX3_energyAt cX3_energyAt 3 (some .int), Cond.methodLink RX3 114 yX3_standDown, Cond.instanceMethod yX3_standDown]
def wsL_law0_r6 : List Cond := [Cond.selects RX3 yX3_standDown yX3_standDown, Cond.code yX3_standDown cX3_standDown 2 none, Cond.fieldLink RX3 107 "Stuntledger$Gag" "isArmed" "Z", Cond.methodLink RL 25 yX3_skill, Cond.instanceMethod yX3_skill, Cond.selects RX3 yX3_skill yX3_skill, Cond.code yX3_skill cX3_skill 5 (some .int), Cond.fieldLink RX3 97 "Stuntledger$Person" "skills" "[I", Cond.methodLink RX3 86 yX3_requirePerson, Cond.instanceMethod yX3_requirePerson, Cond.selects RX3 yX3_requirePerson yX3_requirePerson, Cond.code yX3_requirePerson cX3_requirePerson 2 none, Cond.classLink RX3 194 "java/lang/IndexOutOfBoundsException", Cond.initialized "java/lang/IndexOutOfBoundsException", Cond.methodLink RX3 90 yX3_requireKind, Cond.static yX3_requireKind, Cond.code yX3_requireKind cX3_requireKind 1 none, Cond.methodLink RX3 93 yX3_requireRange, Cond.static yX3_requireRange, Cond.code yX3_requireRange cX3_requireRange 3 none, Cond.classLink RX3 338 "java/lang/IllegalArgumentException", Cond.initialized "java/lang/IllegalArgumentException", Cond.methodLink RL 29 yX3_walk, Cond.instanceMethod yX3_walk]
def wsL_law0_r7 : List Cond := [Cond.selects RX3 yX3_walk yX3_walk, Cond.code yX3_walk cX3_walk 5 (some .int), Cond.methodLink RX3 100 yX3_armedSet, Cond.instanceMethod yX3_armedSet, Cond.selects RX3 yX3_armedSet yX3_armedSet, Cond.code yX3_armedSet cX3_armedSet 3 (some .int), Cond.methodLink RX3 120 yX3_addMiss, Cond.instanceMethod yX3_addMiss, Cond.selects RX3 yX3_addMiss yX3_addMiss, Cond.code yX3_addMiss cX3_addMiss 3 none, Cond.methodLink RX3 187 yX3_loseSignatures, Cond.instanceMethod yX3_loseSignatures, Cond.selects RX3 yX3_loseSignatures yX3_loseSignatures, Cond.code yX3_loseSignatures cX3_loseSignatures 2 none, Cond.fieldLink RX3 158 "Stuntledger$Gag" "signatures" "I", Cond.methodLink RL 32 yX3_gag, Cond.instanceMethod yX3_gag, Cond.selects RX3 yX3_gag yX3_gag, Cond.code yX3_gag cX3_gag 6 (some .int), Cond.methodLink RL 36 yX3_ofGag, Cond.instanceMethod yX3_ofGag, Cond.selects RX3 yX3_ofGag yX3_ofGag, Cond.code yX3_ofGag cX3_ofGag 4 (some .int), Cond.fieldLink RX3 172 "Stuntledger$Gag" "step" "I"]
def wsL_law0_r8 : List Cond := [Cond.fieldLink RX3 204 "Stuntledger$Gag" "noes" "I", Cond.fieldLink RX3 218 "Stuntledger$Gag" "takenCount" "I", Cond.methodLink RX3 138 yX3_requireGag, Cond.instanceMethod yX3_requireGag, Cond.selects RX3 yX3_requireGag yX3_requireGag, Cond.code yX3_requireGag cX3_requireGag 2 none, Cond.methodLink RX3 181 yX3_energyOf, Cond.instanceMethod yX3_energyOf, Cond.selects RX3 yX3_energyOf yX3_energyOf, Cond.code yX3_energyOf cX3_energyOf 2 (some .int), Cond.methodLink RX3 264 yX3_guardOf, Cond.instanceMethod yX3_guardOf, Cond.selects RX3 yX3_guardOf yX3_guardOf, Cond.code yX3_guardOf cX3_guardOf 4 (some .int), Cond.fieldLink RX3 126 "Stuntledger$Piece" "guard" "I", Cond.methodLink RX3 345 yX3_guards, Cond.instanceMethod yX3_guards, Cond.selects RX3 yX3_guards yX3_guards, Cond.code yX3_guards cX3_guards 3 (some .boolean), Cond.fieldLink RX3 141 "Stuntledger$Piece" "putTo" "I", Cond.fieldLink RX3 125 "Stuntledger$Piece" "kind" "I", Cond.methodLink RX3 258 yX3_isFit, Cond.instanceMethod yX3_isFit, Cond.selects RX3 yX3_isFit yX3_isFit]
def wsL_law0_r9 : List Cond := [Cond.code yX3_isFit cX3_isFit 3 (some .boolean), Cond.fieldLink RX3 129 "Stuntledger$Piece" "uses" "I", Cond.fieldLink RX3 135 "Stuntledger$Piece" "inspectedDay" "I", Cond.methodLink RX3 215 yX3_marginOf, Cond.instanceMethod yX3_marginOf, Cond.selects RX3 yX3_marginOf yX3_marginOf, Cond.code yX3_marginOf cX3_marginOf 2 (some .int), Cond.methodLink RX3 285 yX3_performersShare, Cond.instanceMethod yX3_performersShare, Cond.selects RX3 yX3_performersShare yX3_performersShare, Cond.code yX3_performersShare cX3_performersShare 4 (some .int), Cond.fieldLink RX3 246 "Stuntledger$Person" "tired" "I", Cond.methodLink RX3 242 yX3_oneIf, Cond.static yX3_oneIf, Cond.code yX3_oneIf cX3_oneIf 1 (some .int), Cond.methodLink RX3 209 yX3_whatBars, Cond.instanceMethod yX3_whatBars, Cond.selects RX3 yX3_whatBars yX3_whatBars, Cond.code yX3_whatBars cX3_whatBars 2 (some .int), Cond.fieldLink RX3 167 "Stuntledger$Person" "isHurt" "Z", Cond.methodLink RX3 161 yJ6_bitCount_0f7a4, Cond.static yJ6_bitCount_0f7a4, Cond.initialized RJ6, Cond.code yJ6_bitCount_0f7a4 cJ6_bitCount_0f7a4 1 (some .int)]
def wsL_law0_r10 : List Cond := [Cond.constant RJ6 265 (1431655765), Cond.constant RJ6 266 (858993459), Cond.constant RJ6 267 (252645135), Cond.methodLink RX3 282 yX3_isTooYoung, Cond.instanceMethod yX3_isTooYoung, Cond.selects RX3 yX3_isTooYoung yX3_isTooYoung, Cond.code yX3_isTooYoung cX3_isTooYoung 3 (some .boolean), Cond.methodLink RX3 230 yX3_windBars, Cond.instanceMethod yX3_windBars, Cond.selects RX3 yX3_windBars yX3_windBars, Cond.code yX3_windBars cX3_windBars 2 (some .boolean), Cond.fieldLink RX3 363 "Stuntledger" "WIND_LIMITS" "[I", Cond.methodLink RX3 234 yX3_darkBars, Cond.instanceMethod yX3_darkBars, Cond.selects RX3 yX3_darkBars yX3_darkBars, Cond.code yX3_darkBars cX3_darkBars 2 (some .boolean), Cond.methodLink RX3 354 yX3_hasMedicAtHand, Cond.instanceMethod yX3_hasMedicAtHand, Cond.selects RX3 yX3_hasMedicAtHand yX3_hasMedicAtHand, Cond.code yX3_hasMedicAtHand cX3_hasMedicAtHand 4 (some .boolean), Cond.methodLink RX3 366 yX3_isReadyMedic, Cond.instanceMethod yX3_isReadyMedic, Cond.selects RX3 yX3_isReadyMedic yX3_isReadyMedic, Cond.code yX3_isReadyMedic cX3_isReadyMedic 3 (some .boolean)]
def wsL_law0_r11 : List Cond := [Cond.methodLink RX3 360 yX3_isNearArmed, Cond.instanceMethod yX3_isNearArmed, Cond.selects RX3 yX3_isNearArmed yX3_isNearArmed, Cond.code yX3_isNearArmed cX3_isNearArmed 3 (some .boolean), Cond.methodLink RL 39 yX3_kit, Cond.instanceMethod yX3_kit, Cond.selects RX3 yX3_kit yX3_kit, Cond.code yX3_kit cX3_kit 5 (some .int), Cond.methodLink RL 42 yX3_put, Cond.instanceMethod yX3_put, Cond.selects RX3 yX3_put yX3_put, Cond.code yX3_put cX3_put 4 (some .int), Cond.methodLink RX3 132 yX3_requirePiece, Cond.instanceMethod yX3_requirePiece, Cond.selects RX3 yX3_requirePiece yX3_requirePiece, Cond.code yX3_requirePiece cX3_requirePiece 2 none, Cond.methodLink RX3 146 yX3_becomeChanged, Cond.instanceMethod yX3_becomeChanged, Cond.selects RX3 yX3_becomeChanged yX3_becomeChanged, Cond.code yX3_becomeChanged cX3_becomeChanged 2 none, Cond.methodLink RX3 175 Lib.Math.min.name, Cond.static Lib.Math.min.name, Cond.code Lib.Math.min.name Lib.Math.min.code 2 (some .int), Cond.methodLink RL 45 yX3_inspect]
def wsL_law0_r12 : List Cond := [Cond.instanceMethod yX3_inspect, Cond.selects RX3 yX3_inspect yX3_inspect, Cond.code yX3_inspect cX3_inspect 3 (some .int), Cond.methodLink RL 63 yX3_ofKit, Cond.instanceMethod yX3_ofKit, Cond.selects RX3 yX3_ofKit yX3_ofKit, Cond.code yX3_ofKit cX3_ofKit 4 (some .int), Cond.methodLink RL 66 yL_ready, Cond.static yL_ready, Cond.code yL_ready cL_ready 3 none, Cond.methodLink RL 49 yX3_ofPerson, Cond.instanceMethod yX3_ofPerson, Cond.selects RX3 yX3_ofPerson yX3_ofPerson, Cond.code yX3_ofPerson cX3_ofPerson 4 (some .int), Cond.fieldLink RX3 249 "Stuntledger$Person" "pay" "I", Cond.fieldLink RX3 252 "Stuntledger$Person" "tookCount" "I", Cond.methodLink RX3 255 yX3_ringsAround, Cond.instanceMethod yX3_ringsAround, Cond.selects RX3 yX3_ringsAround yX3_ringsAround, Cond.code yX3_ringsAround cX3_ringsAround 4 (some .int), Cond.methodLink RL 52 yX3_rehearse, Cond.instanceMethod yX3_rehearse, Cond.selects RX3 yX3_rehearse yX3_rehearse, Cond.code yX3_rehearse cX3_rehearse 6 (some .int)]
def wsL_law0_r13 : List Cond := [Cond.methodLink RX3 184 yX3_marginWithoutEnergy, Cond.instanceMethod yX3_marginWithoutEnergy, Cond.selects RX3 yX3_marginWithoutEnergy yX3_marginWithoutEnergy, Cond.code yX3_marginWithoutEnergy cX3_marginWithoutEnergy 2 (some .int), Cond.methodLink RX3 190 yX3_tire, Cond.static yX3_tire, Cond.code yX3_tire cX3_tire 2 none, Cond.methodLink RL 55 yX3_sign, Cond.instanceMethod yX3_sign, Cond.selects RX3 yX3_sign yX3_sign, Cond.code yX3_sign cX3_sign 4 (some .int), Cond.methodLink RX3 199 yX3_isInSet, Cond.static yX3_isInSet, Cond.code yX3_isInSet cX3_isInSet 2 (some .boolean), Cond.methodLink RL 70 yX3_arm, Cond.instanceMethod yX3_arm, Cond.selects RX3 yX3_arm yX3_arm, Cond.code yX3_arm cX3_arm 3 (some .int), Cond.methodLink RL 73 yX3_take, Cond.instanceMethod yX3_take, Cond.selects RX3 yX3_take yX3_take, Cond.code yX3_take cX3_take 4 (some .int), Cond.methodLink RX3 212 yX3_requireArmed, Cond.instanceMethod yX3_requireArmed]
def wsL_law0_r14 : List Cond := [Cond.selects RX3 yX3_requireArmed yX3_requireArmed, Cond.code yX3_requireArmed cX3_requireArmed 2 none, Cond.methodLink RX3 221 yX3_hurt, Cond.instanceMethod yX3_hurt, Cond.selects RX3 yX3_hurt yX3_hurt, Cond.code yX3_hurt cX3_hurt 3 none, Cond.fieldLink RX3 369 "Stuntledger$Person" "hurtDay" "I", Cond.methodLink RX3 224 yX3_useKitOf, Cond.instanceMethod yX3_useKitOf, Cond.selects RX3 yX3_useKitOf yX3_useKitOf, Cond.code yX3_useKitOf cX3_useKitOf 3 none, Cond.methodLink RX3 227 yX3_payFor, Cond.instanceMethod yX3_payFor, Cond.selects RX3 yX3_payFor yX3_payFor, Cond.code yX3_payFor cX3_payFor 5 none, Cond.methodLink RL 76 yX3_no, Cond.instanceMethod yX3_no, Cond.selects RX3 yX3_no yX3_no, Cond.code yX3_no cX3_no 5 (some .boolean), Cond.methodLink RL 80 yX3_weather, Cond.instanceMethod yX3_weather, Cond.selects RX3 yX3_weather yX3_weather, Cond.code yX3_weather cX3_weather 5 (some .int), Cond.methodLink RL 84 yX3_many]
def wsL_law0_r15 : List Cond := [Cond.instanceMethod yX3_many, Cond.selects RX3 yX3_many yX3_many, Cond.code yX3_many cX3_many 2 (some .int), Cond.methodLink RX3 267 yX3_fitCount, Cond.instanceMethod yX3_fitCount, Cond.selects RX3 yX3_fitCount yX3_fitCount, Cond.code yX3_fitCount cX3_fitCount 3 (some .int), Cond.methodLink RX3 270 yX3_missesOfAll, Cond.instanceMethod yX3_missesOfAll, Cond.selects RX3 yX3_missesOfAll yX3_missesOfAll, Cond.code yX3_missesOfAll cX3_missesOfAll 3 (some .int), Cond.methodLink RX3 273 yX3_hurtCount, Cond.instanceMethod yX3_hurtCount, Cond.selects RX3 yX3_hurtCount yX3_hurtCount, Cond.code yX3_hurtCount cX3_hurtCount 3 (some .int), Cond.methodLink RX3 276 yX3_payOfAll, Cond.instanceMethod yX3_payOfAll, Cond.selects RX3 yX3_payOfAll yX3_payOfAll, Cond.code yX3_payOfAll cX3_payOfAll 3 (some .int), Cond.methodLink RL 87 yX3_pass, Cond.instanceMethod yX3_pass, Cond.selects RX3 yX3_pass yX3_pass, Cond.code yX3_pass cX3_pass 3 (some .int), Cond.methodLink RX3 239 yX3_passOneDay]
def wsL_law0_r16 : List Cond := [Cond.instanceMethod yX3_passOneDay, Cond.selects RX3 yX3_passOneDay yX3_passOneDay, Cond.code yX3_passOneDay cX3_passOneDay 3 none, Cond.methodLink RX3 372 Lib.Math.max.name, Cond.static Lib.Math.max.name, Cond.code Lib.Math.max.name Lib.Math.max.code 2 (some .int), Cond.methodLink RL 90 yX3_change, Cond.instanceMethod yX3_change, Cond.selects RX3 yX3_change yX3_change, Cond.code yX3_change cX3_change 6 (some .int), Cond.methodLink RL 93 yL_isSound, Cond.static yL_isSound, Cond.code yL_isSound cL_isSound 3 (some .boolean), Cond.methodLink RL 97 yX3_digest, Cond.instanceMethod yX3_digest, Cond.selects RX3 yX3_digest yX3_digest, Cond.code yX3_digest cX3_digest 5 (some .long), Cond.constantLong RX3 294 (58230), Cond.methodLink RX3 296 yX3_many, Cond.methodLink RX3 299 yX3_mixed, Cond.static yX3_mixed, Cond.code yX3_mixed cX3_mixed 3 (some .long), Cond.constantLong RX3 328 (31), Cond.methodLink RX3 303 yX3_ofPerson]
def wsL_law0_r17 : List Cond := [Cond.methodLink RX3 306 yX3_ofKit, Cond.methodLink RX3 309 yX3_ofGag, Cond.methodLink RX3 312 yX3_mostLevel, Cond.instanceMethod yX3_mostLevel, Cond.selects RX3 yX3_mostLevel yX3_mostLevel, Cond.code yX3_mostLevel cX3_mostLevel 4 (some .int), Cond.methodLink RX3 315 yX3_bestPerformer, Cond.instanceMethod yX3_bestPerformer, Cond.selects RX3 yX3_bestPerformer yX3_bestPerformer, Cond.code yX3_bestPerformer cX3_bestPerformer 6 (some .int), Cond.methodLink RX3 318 yX3_needs, Cond.instanceMethod yX3_needs, Cond.selects RX3 yX3_needs yX3_needs, Cond.code yX3_needs cX3_needs 6 (some .int), Cond.methodLink RX3 288 yX3_bestFreePiece, Cond.instanceMethod yX3_bestFreePiece, Cond.selects RX3 yX3_bestFreePiece yX3_bestFreePiece, Cond.code yX3_bestFreePiece cX3_bestFreePiece 6 (some .int), Cond.methodLink RX3 321 yX3_safeFrom, Cond.instanceMethod yX3_safeFrom, Cond.selects RX3 yX3_safeFrom yX3_safeFrom, Cond.code yX3_safeFrom cX3_safeFrom 4 (some .int), Cond.methodLink RX3 291 yX3_isClearPlace, Cond.instanceMethod yX3_isClearPlace]
def wsL_law0_r18 : List Cond := [Cond.selects RX3 yX3_isClearPlace yX3_isClearPlace, Cond.code yX3_isClearPlace cX3_isClearPlace 3 (some .boolean), Cond.methodLink RX3 324 yX3_ofKind, Cond.instanceMethod yX3_ofKind, Cond.selects RX3 yX3_ofKind yX3_ofKind, Cond.code yX3_ofKind cX3_ofKind 3 (some .int), Cond.methodLink RL 101 yX3_mostLevel, Cond.methodLink RL 104 yX3_safeFrom]
def wsL_law0 : List Cond := (wsL_law0_r1 ++ (wsL_law0_r2 ++ (wsL_law0_r3 ++ (wsL_law0_r4 ++ (wsL_law0_r5 ++ (wsL_law0_r6 ++ (wsL_law0_r7 ++ (wsL_law0_r8 ++ (wsL_law0_r9 ++ (wsL_law0_r10 ++ (wsL_law0_r11 ++ (wsL_law0_r12 ++ (wsL_law0_r13 ++ (wsL_law0_r14 ++ (wsL_law0_r15 ++ (wsL_law0_r16 ++ (wsL_law0_r17 ++ wsL_law0_r18))))))))))))))))) ++ wsX30 ++ wsX10 ++ wsX20 ++ wsX00 ++ ([] : List Cond)
theorem tb0 {w : Cond} {i : Nat} (h : (k2_sels lw_privs)[i]? = some w) : w ∈ lw_tbl := List.mem_append_left _ (List.mem_of_getElem? h)
theorem tb1 {w : Cond} {i : Nat} (h : tables_1_1[i]? = some w) : w ∈ lw_tbl := List.mem_append_right _ (List.mem_append_left _ (List.mem_of_getElem? h))
theorem tb2 {w : Cond} {i : Nat} (h : tables_1_2[i]? = some w) : w ∈ lw_tbl := List.mem_append_right _ (List.mem_append_right _ (List.mem_append_left _ (List.mem_of_getElem? h)))
theorem tb3 {w : Cond} {i : Nat} (h : tables_1_3[i]? = some w) : w ∈ lw_tbl := List.mem_append_right _ (List.mem_append_right _ (List.mem_append_right _ (List.mem_of_getElem? h)))
theorem gi_1 : ∀ w ∈ wsL_law0_r1, w ∈ lw_tbl := List.forall_mem_cons.mpr ⟨tb1 (i := 13) rfl, List.forall_mem_cons.mpr ⟨tb1 (i := 14) rfl, List.forall_mem_cons.mpr ⟨tb1 (i := 1) rfl, List.forall_mem_cons.mpr ⟨tb1 (i := 69) rfl, List.forall_mem_cons.mpr ⟨tb1 (i := 15) rfl, List.forall_mem_cons.mpr ⟨tb1 (i := 16) rfl, List.forall_mem_cons.mpr ⟨tb1 (i := 17) rfl, List.forall_mem_cons.mpr ⟨tb1 (i := 18) rfl, List.forall_mem_cons.mpr ⟨tb1 (i := 19) rfl, List.forall_mem_cons.mpr ⟨tb1 (i := 20) rfl, List.forall_mem_cons.mpr ⟨tb1 (i := 21) rfl, List.forall_mem_cons.mpr ⟨tb1 (i := 138) rfl, List.forall_mem_cons.mpr ⟨tb1 (i := 23) rfl, List.forall_mem_cons.mpr ⟨tb1 (i := 139) rfl, List.forall_mem_cons.mpr ⟨tb1 (i := 25) rfl, List.forall_mem_cons.mpr ⟨tb1 (i := 140) rfl, List.forall_mem_cons.mpr ⟨tb1 (i := 141) rfl, List.forall_mem_cons.mpr ⟨tb1 (i := 142) rfl, List.forall_mem_cons.mpr ⟨tb1 (i := 143) rfl, List.forall_mem_cons.mpr ⟨tb1 (i := 144) rfl, List.forall_mem_cons.mpr ⟨tb1 (i := 145) rfl, List.forall_mem_cons.mpr ⟨tb1 (i := 146) rfl, List.forall_mem_cons.mpr ⟨tb1 (i := 147) rfl, List.forall_mem_cons.mpr ⟨tb1 (i := 148) rfl, fun _ h => absurd h List.not_mem_nil⟩⟩⟩⟩⟩⟩⟩⟩⟩⟩⟩⟩⟩⟩⟩⟩⟩⟩⟩⟩⟩⟩⟩⟩
theorem go_1 : wsL_law0_r1.all goodWord = true := by decide +kernel
theorem gi_2 : ∀ w ∈ wsL_law0_r2, w ∈ lw_tbl := List.forall_mem_cons.mpr ⟨tb1 (i := 149) rfl, List.forall_mem_cons.mpr ⟨tb1 (i := 150) rfl, List.forall_mem_cons.mpr ⟨tb1 (i := 151) rfl, List.forall_mem_cons.mpr ⟨tb1 (i := 152) rfl, List.forall_mem_cons.mpr ⟨tb1 (i := 27) rfl, List.forall_mem_cons.mpr ⟨tb1 (i := 2) rfl, List.forall_mem_cons.mpr ⟨tb1 (i := 70) rfl, List.forall_mem_cons.mpr ⟨tb1 (i := 3) rfl, List.forall_mem_cons.mpr ⟨tb1 (i := 96) rfl, List.forall_mem_cons.mpr ⟨tb1 (i := 4) rfl, List.forall_mem_cons.mpr ⟨tb1 (i := 29) rfl, List.forall_mem_cons.mpr ⟨tb1 (i := 30) rfl, List.forall_mem_cons.mpr ⟨tb1 (i := 31) rfl, List.forall_mem_cons.mpr ⟨tb1 (i := 32) rfl, List.forall_mem_cons.mpr ⟨tb1 (i := 34) rfl, List.forall_mem_cons.mpr ⟨tb1 (i := 36) rfl, List.forall_mem_cons.mpr ⟨tb1 (i := 38) rfl, List.forall_mem_cons.mpr ⟨tb1 (i := 40) rfl, List.forall_mem_cons.mpr ⟨tb1 (i := 42) rfl, List.forall_mem_cons.mpr ⟨tb1 (i := 44) rfl, List.forall_mem_cons.mpr ⟨tb1 (i := 46) rfl, List.forall_mem_cons.mpr ⟨tb1 (i := 48) rfl, List.forall_mem_cons.mpr ⟨tb1 (i := 72) rfl, List.forall_mem_cons.mpr ⟨tb1 (i := 73) rfl, fun _ h => absurd h List.not_mem_nil⟩⟩⟩⟩⟩⟩⟩⟩⟩⟩⟩⟩⟩⟩⟩⟩⟩⟩⟩⟩⟩⟩⟩⟩
theorem go_2 : wsL_law0_r2.all goodWord = true := by decide +kernel
theorem gi_3 : ∀ w ∈ wsL_law0_r3, w ∈ lw_tbl := List.forall_mem_cons.mpr ⟨tb1 (i := 74) rfl, List.forall_mem_cons.mpr ⟨tb1 (i := 75) rfl, List.forall_mem_cons.mpr ⟨tb1 (i := 77) rfl, List.forall_mem_cons.mpr ⟨tb1 (i := 79) rfl, List.forall_mem_cons.mpr ⟨tb1 (i := 81) rfl, List.forall_mem_cons.mpr ⟨tb1 (i := 83) rfl, List.forall_mem_cons.mpr ⟨tb1 (i := 98) rfl, List.forall_mem_cons.mpr ⟨tb1 (i := 99) rfl, List.forall_mem_cons.mpr ⟨tb1 (i := 100) rfl, List.forall_mem_cons.mpr ⟨tb1 (i := 101) rfl, List.forall_mem_cons.mpr ⟨tb1 (i := 103) rfl, List.forall_mem_cons.mpr ⟨tb1 (i := 105) rfl, List.forall_mem_cons.mpr ⟨tb1 (i := 107) rfl, List.forall_mem_cons.mpr ⟨tb1 (i := 109) rfl, List.forall_mem_cons.mpr ⟨tb1 (i := 111) rfl, List.forall_mem_cons.mpr ⟨tb1 (i := 113) rfl, List.forall_mem_cons.mpr ⟨tb1 (i := 115) rfl, List.forall_mem_cons.mpr ⟨tb1 (i := 117) rfl, List.forall_mem_cons.mpr ⟨tb3 (i := 90) rfl, List.forall_mem_cons.mpr ⟨tb3 (i := 91) rfl, List.forall_mem_cons.mpr ⟨tb1 (i := 0) rfl, List.forall_mem_cons.mpr ⟨tb3 (i := 92) rfl, List.forall_mem_cons.mpr ⟨tb3 (i := 86) rfl, List.forall_mem_cons.mpr ⟨tb3 (i := 87) rfl, fun _ h => absurd h List.not_mem_nil⟩⟩⟩⟩⟩⟩⟩⟩⟩⟩⟩⟩⟩⟩⟩⟩⟩⟩⟩⟩⟩⟩⟩⟩
theorem go_3 : wsL_law0_r3.all goodWord = true := by decide +kernel
theorem gi_4 : ∀ w ∈ wsL_law0_r4, w ∈ lw_tbl := List.forall_mem_cons.mpr ⟨tb3 (i := 88) rfl, List.forall_mem_cons.mpr ⟨tb3 (i := 89) rfl, List.forall_mem_cons.mpr ⟨tb3 (i := 82) rfl, List.forall_mem_cons.mpr ⟨tb3 (i := 83) rfl, List.forall_mem_cons.mpr ⟨tb3 (i := 84) rfl, List.forall_mem_cons.mpr ⟨tb3 (i := 85) rfl, List.forall_mem_cons.mpr ⟨tb3 (i := 93) rfl, List.forall_mem_cons.mpr ⟨tb3 (i := 94) rfl, List.forall_mem_cons.mpr ⟨tb3 (i := 95) rfl, List.forall_mem_cons.mpr ⟨tb3 (i := 96) rfl, List.forall_mem_cons.mpr ⟨tb2 (i := 111) rfl, List.forall_mem_cons.mpr ⟨tb1 (i := 8) rfl, List.forall_mem_cons.mpr ⟨tb1 (i := 35) rfl, List.forall_mem_cons.mpr ⟨tb1 (i := 37) rfl, List.forall_mem_cons.mpr ⟨tb2 (i := 213) rfl, List.forall_mem_cons.mpr ⟨tb2 (i := 215) rfl, List.forall_mem_cons.mpr ⟨tb0 (i := 29) rfl, List.forall_mem_cons.mpr ⟨tb2 (i := 216) rfl, List.forall_mem_cons.mpr ⟨tb2 (i := 177) rfl, List.forall_mem_cons.mpr ⟨tb2 (i := 179) rfl, List.forall_mem_cons.mpr ⟨tb0 (i := 23) rfl, List.forall_mem_cons.mpr ⟨tb2 (i := 180) rfl, List.forall_mem_cons.mpr ⟨tb2 (i := 51) rfl, List.forall_mem_cons.mpr ⟨tb2 (i := 53) rfl, fun _ h => absurd h List.not_mem_nil⟩⟩⟩⟩⟩⟩⟩⟩⟩⟩⟩⟩⟩⟩⟩⟩⟩⟩⟩⟩⟩⟩⟩⟩
theorem go_4 : wsL_law0_r4.all goodWord = true := by decide +kernel
theorem gi_5 : ∀ w ∈ wsL_law0_r5, w ∈ lw_tbl := List.forall_mem_cons.mpr ⟨tb0 (i := 3) rfl, List.forall_mem_cons.mpr ⟨tb2 (i := 54) rfl, List.forall_mem_cons.mpr ⟨tb1 (i := 104) rfl, List.forall_mem_cons.mpr ⟨tb1 (i := 43) rfl, List.forall_mem_cons.mpr ⟨tb1 (i := 106) rfl, List.forall_mem_cons.mpr ⟨tb2 (i := 55) rfl, List.forall_mem_cons.mpr ⟨tb2 (i := 56) rfl, List.forall_mem_cons.mpr ⟨tb2 (i := 57) rfl, List.forall_mem_cons.mpr ⟨tb2 (i := 58) rfl, List.forall_mem_cons.mpr ⟨tb2 (i := 59) rfl, List.forall_mem_cons.mpr ⟨tb1 (i := 9) rfl, List.forall_mem_cons.mpr ⟨tb2 (i := 60) rfl, List.forall_mem_cons.mpr ⟨tb2 (i := 61) rfl, List.forall_mem_cons.mpr ⟨tb2 (i := 63) rfl, List.forall_mem_cons.mpr ⟨tb0 (i := 4) rfl, List.forall_mem_cons.mpr ⟨tb2 (i := 64) rfl, List.forall_mem_cons.mpr ⟨tb1 (i := 102) rfl, List.forall_mem_cons.mpr ⟨tb1 (i := 108) rfl, List.forall_mem_cons.mpr ⟨tb2 (i := 65) rfl, List.forall_mem_cons.mpr ⟨tb2 (i := 67) rfl, List.forall_mem_cons.mpr ⟨tb0 (i := 5) rfl, List.forall_mem_cons.mpr ⟨tb2 (i := 68) rfl, List.forall_mem_cons.mpr ⟨tb2 (i := 69) rfl, List.forall_mem_cons.mpr ⟨tb2 (i := 71) rfl, fun _ h => absurd h List.not_mem_nil⟩⟩⟩⟩⟩⟩⟩⟩⟩⟩⟩⟩⟩⟩⟩⟩⟩⟩⟩⟩⟩⟩⟩⟩
theorem go_5 : wsL_law0_r5.all goodWord = true := by decide +kernel
theorem gi_6 : ∀ w ∈ wsL_law0_r6, w ∈ lw_tbl := List.forall_mem_cons.mpr ⟨tb0 (i := 6) rfl, List.forall_mem_cons.mpr ⟨tb2 (i := 72) rfl, List.forall_mem_cons.mpr ⟨tb1 (i := 118) rfl, List.forall_mem_cons.mpr ⟨tb1 (i := 184) rfl, List.forall_mem_cons.mpr ⟨tb1 (i := 185) rfl, List.forall_mem_cons.mpr ⟨tb1 (i := 186) rfl, List.forall_mem_cons.mpr ⟨tb1 (i := 187) rfl, List.forall_mem_cons.mpr ⟨tb1 (i := 33) rfl, List.forall_mem_cons.mpr ⟨tb1 (i := 188) rfl, List.forall_mem_cons.mpr ⟨tb1 (i := 190) rfl, List.forall_mem_cons.mpr ⟨tb0 (i := 0) rfl, List.forall_mem_cons.mpr ⟨tb1 (i := 191) rfl, List.forall_mem_cons.mpr ⟨tb1 (i := 192) rfl, List.forall_mem_cons.mpr ⟨tb1 (i := 10) rfl, List.forall_mem_cons.mpr ⟨tb2 (i := 20) rfl, List.forall_mem_cons.mpr ⟨tb2 (i := 21) rfl, List.forall_mem_cons.mpr ⟨tb2 (i := 22) rfl, List.forall_mem_cons.mpr ⟨tb2 (i := 24) rfl, List.forall_mem_cons.mpr ⟨tb2 (i := 25) rfl, List.forall_mem_cons.mpr ⟨tb2 (i := 26) rfl, List.forall_mem_cons.mpr ⟨tb2 (i := 27) rfl, List.forall_mem_cons.mpr ⟨tb1 (i := 11) rfl, List.forall_mem_cons.mpr ⟨tb2 (i := 43) rfl, List.forall_mem_cons.mpr ⟨tb2 (i := 44) rfl, fun _ h => absurd h List.not_mem_nil⟩⟩⟩⟩⟩⟩⟩⟩⟩⟩⟩⟩⟩⟩⟩⟩⟩⟩⟩⟩⟩⟩⟩⟩
theorem go_6 : wsL_law0_r6.all goodWord = true := by decide +kernel
theorem gi_7 : ∀ w ∈ wsL_law0_r7, w ∈ lw_tbl := List.forall_mem_cons.mpr ⟨tb2 (i := 45) rfl, List.forall_mem_cons.mpr ⟨tb2 (i := 46) rfl, List.forall_mem_cons.mpr ⟨tb2 (i := 47) rfl, List.forall_mem_cons.mpr ⟨tb2 (i := 49) rfl, List.forall_mem_cons.mpr ⟨tb0 (i := 2) rfl, List.forall_mem_cons.mpr ⟨tb2 (i := 50) rfl, List.forall_mem_cons.mpr ⟨tb2 (i := 73) rfl, List.forall_mem_cons.mpr ⟨tb2 (i := 75) rfl, List.forall_mem_cons.mpr ⟨tb0 (i := 7) rfl, List.forall_mem_cons.mpr ⟨tb2 (i := 76) rfl, List.forall_mem_cons.mpr ⟨tb2 (i := 77) rfl, List.forall_mem_cons.mpr ⟨tb2 (i := 79) rfl, List.forall_mem_cons.mpr ⟨tb0 (i := 8) rfl, List.forall_mem_cons.mpr ⟨tb2 (i := 80) rfl, List.forall_mem_cons.mpr ⟨tb1 (i := 112) rfl, List.forall_mem_cons.mpr ⟨tb3 (i := 98) rfl, List.forall_mem_cons.mpr ⟨tb3 (i := 99) rfl, List.forall_mem_cons.mpr ⟨tb3 (i := 100) rfl, List.forall_mem_cons.mpr ⟨tb3 (i := 101) rfl, List.forall_mem_cons.mpr ⟨tb3 (i := 1) rfl, List.forall_mem_cons.mpr ⟨tb3 (i := 2) rfl, List.forall_mem_cons.mpr ⟨tb3 (i := 3) rfl, List.forall_mem_cons.mpr ⟨tb3 (i := 4) rfl, List.forall_mem_cons.mpr ⟨tb1 (i := 110) rfl, fun _ h => absurd h List.not_mem_nil⟩⟩⟩⟩⟩⟩⟩⟩⟩⟩⟩⟩⟩⟩⟩⟩⟩⟩⟩⟩⟩⟩⟩⟩
theorem go_7 : wsL_law0_r7.all goodWord = true := by decide +kernel
theorem gi_8 : ∀ w ∈ wsL_law0_r8, w ∈ lw_tbl := List.forall_mem_cons.mpr ⟨tb1 (i := 114) rfl, List.forall_mem_cons.mpr ⟨tb1 (i := 116) rfl, List.forall_mem_cons.mpr ⟨tb2 (i := 85) rfl, List.forall_mem_cons.mpr ⟨tb2 (i := 87) rfl, List.forall_mem_cons.mpr ⟨tb0 (i := 9) rfl, List.forall_mem_cons.mpr ⟨tb2 (i := 88) rfl, List.forall_mem_cons.mpr ⟨tb2 (i := 151) rfl, List.forall_mem_cons.mpr ⟨tb2 (i := 153) rfl, List.forall_mem_cons.mpr ⟨tb0 (i := 17) rfl, List.forall_mem_cons.mpr ⟨tb2 (i := 154) rfl, List.forall_mem_cons.mpr ⟨tb2 (i := 135) rfl, List.forall_mem_cons.mpr ⟨tb2 (i := 137) rfl, List.forall_mem_cons.mpr ⟨tb0 (i := 13) rfl, List.forall_mem_cons.mpr ⟨tb2 (i := 138) rfl, List.forall_mem_cons.mpr ⟨tb1 (i := 78) rfl, List.forall_mem_cons.mpr ⟨tb2 (i := 139) rfl, List.forall_mem_cons.mpr ⟨tb2 (i := 141) rfl, List.forall_mem_cons.mpr ⟨tb0 (i := 14) rfl, List.forall_mem_cons.mpr ⟨tb2 (i := 142) rfl, List.forall_mem_cons.mpr ⟨tb1 (i := 84) rfl, List.forall_mem_cons.mpr ⟨tb1 (i := 76) rfl, List.forall_mem_cons.mpr ⟨tb2 (i := 143) rfl, List.forall_mem_cons.mpr ⟨tb2 (i := 145) rfl, List.forall_mem_cons.mpr ⟨tb0 (i := 15) rfl, fun _ h => absurd h List.not_mem_nil⟩⟩⟩⟩⟩⟩⟩⟩⟩⟩⟩⟩⟩⟩⟩⟩⟩⟩⟩⟩⟩⟩⟩⟩
theorem go_8 : wsL_law0_r8.all goodWord = true := by decide +kernel
theorem gi_9 : ∀ w ∈ wsL_law0_r9, w ∈ lw_tbl := List.forall_mem_cons.mpr ⟨tb2 (i := 146) rfl, List.forall_mem_cons.mpr ⟨tb1 (i := 80) rfl, List.forall_mem_cons.mpr ⟨tb1 (i := 82) rfl, List.forall_mem_cons.mpr ⟨tb2 (i := 131) rfl, List.forall_mem_cons.mpr ⟨tb2 (i := 133) rfl, List.forall_mem_cons.mpr ⟨tb0 (i := 12) rfl, List.forall_mem_cons.mpr ⟨tb2 (i := 134) rfl, List.forall_mem_cons.mpr ⟨tb2 (i := 147) rfl, List.forall_mem_cons.mpr ⟨tb2 (i := 149) rfl, List.forall_mem_cons.mpr ⟨tb0 (i := 16) rfl, List.forall_mem_cons.mpr ⟨tb2 (i := 150) rfl, List.forall_mem_cons.mpr ⟨tb1 (i := 45) rfl, List.forall_mem_cons.mpr ⟨tb2 (i := 238) rfl, List.forall_mem_cons.mpr ⟨tb2 (i := 239) rfl, List.forall_mem_cons.mpr ⟨tb3 (i := 0) rfl, List.forall_mem_cons.mpr ⟨tb2 (i := 127) rfl, List.forall_mem_cons.mpr ⟨tb2 (i := 129) rfl, List.forall_mem_cons.mpr ⟨tb0 (i := 11) rfl, List.forall_mem_cons.mpr ⟨tb2 (i := 130) rfl, List.forall_mem_cons.mpr ⟨tb1 (i := 39) rfl, List.forall_mem_cons.mpr ⟨tb2 (i := 90) rfl, List.forall_mem_cons.mpr ⟨tb2 (i := 91) rfl, List.forall_mem_cons.mpr ⟨tb1 (i := 12) rfl, List.forall_mem_cons.mpr ⟨tb2 (i := 92) rfl, fun _ h => absurd h List.not_mem_nil⟩⟩⟩⟩⟩⟩⟩⟩⟩⟩⟩⟩⟩⟩⟩⟩⟩⟩⟩⟩⟩⟩⟩⟩
theorem go_9 : wsL_law0_r9.all goodWord = true := by decide +kernel
theorem gi_10 : ∀ w ∈ wsL_law0_r10, w ∈ lw_tbl := List.forall_mem_cons.mpr ⟨tb2 (i := 93) rfl, List.forall_mem_cons.mpr ⟨tb2 (i := 94) rfl, List.forall_mem_cons.mpr ⟨tb2 (i := 95) rfl, List.forall_mem_cons.mpr ⟨tb2 (i := 155) rfl, List.forall_mem_cons.mpr ⟨tb2 (i := 157) rfl, List.forall_mem_cons.mpr ⟨tb0 (i := 18) rfl, List.forall_mem_cons.mpr ⟨tb2 (i := 158) rfl, List.forall_mem_cons.mpr ⟨tb2 (i := 159) rfl, List.forall_mem_cons.mpr ⟨tb2 (i := 161) rfl, List.forall_mem_cons.mpr ⟨tb0 (i := 19) rfl, List.forall_mem_cons.mpr ⟨tb2 (i := 162) rfl, List.forall_mem_cons.mpr ⟨tb2 (i := 163) rfl, List.forall_mem_cons.mpr ⟨tb2 (i := 165) rfl, List.forall_mem_cons.mpr ⟨tb2 (i := 167) rfl, List.forall_mem_cons.mpr ⟨tb0 (i := 20) rfl, List.forall_mem_cons.mpr ⟨tb2 (i := 168) rfl, List.forall_mem_cons.mpr ⟨tb2 (i := 169) rfl, List.forall_mem_cons.mpr ⟨tb2 (i := 171) rfl, List.forall_mem_cons.mpr ⟨tb0 (i := 21) rfl, List.forall_mem_cons.mpr ⟨tb2 (i := 172) rfl, List.forall_mem_cons.mpr ⟨tb2 (i := 173) rfl, List.forall_mem_cons.mpr ⟨tb2 (i := 175) rfl, List.forall_mem_cons.mpr ⟨tb0 (i := 22) rfl, List.forall_mem_cons.mpr ⟨tb2 (i := 176) rfl, fun _ h => absurd h List.not_mem_nil⟩⟩⟩⟩⟩⟩⟩⟩⟩⟩⟩⟩⟩⟩⟩⟩⟩⟩⟩⟩⟩⟩⟩⟩
theorem go_10 : wsL_law0_r10.all goodWord = true := by decide +kernel
theorem gi_11 : ∀ w ∈ wsL_law0_r11, w ∈ lw_tbl := List.forall_mem_cons.mpr ⟨tb2 (i := 181) rfl, List.forall_mem_cons.mpr ⟨tb2 (i := 183) rfl, List.forall_mem_cons.mpr ⟨tb0 (i := 24) rfl, List.forall_mem_cons.mpr ⟨tb2 (i := 184) rfl, List.forall_mem_cons.mpr ⟨tb3 (i := 103) rfl, List.forall_mem_cons.mpr ⟨tb3 (i := 104) rfl, List.forall_mem_cons.mpr ⟨tb3 (i := 105) rfl, List.forall_mem_cons.mpr ⟨tb3 (i := 106) rfl, List.forall_mem_cons.mpr ⟨tb3 (i := 108) rfl, List.forall_mem_cons.mpr ⟨tb3 (i := 109) rfl, List.forall_mem_cons.mpr ⟨tb3 (i := 110) rfl, List.forall_mem_cons.mpr ⟨tb3 (i := 111) rfl, List.forall_mem_cons.mpr ⟨tb2 (i := 233) rfl, List.forall_mem_cons.mpr ⟨tb2 (i := 235) rfl, List.forall_mem_cons.mpr ⟨tb0 (i := 31) rfl, List.forall_mem_cons.mpr ⟨tb2 (i := 236) rfl, List.forall_mem_cons.mpr ⟨tb2 (i := 96) rfl, List.forall_mem_cons.mpr ⟨tb2 (i := 98) rfl, List.forall_mem_cons.mpr ⟨tb0 (i := 10) rfl, List.forall_mem_cons.mpr ⟨tb2 (i := 99) rfl, List.forall_mem_cons.mpr ⟨tb2 (i := 100) rfl, List.forall_mem_cons.mpr ⟨tb2 (i := 101) rfl, List.forall_mem_cons.mpr ⟨tb2 (i := 102) rfl, List.forall_mem_cons.mpr ⟨tb3 (i := 113) rfl, fun _ h => absurd h List.not_mem_nil⟩⟩⟩⟩⟩⟩⟩⟩⟩⟩⟩⟩⟩⟩⟩⟩⟩⟩⟩⟩⟩⟩⟩⟩
theorem go_11 : wsL_law0_r11.all goodWord = true := by decide +kernel
theorem gi_12 : ∀ w ∈ wsL_law0_r12, w ∈ lw_tbl := List.forall_mem_cons.mpr ⟨tb3 (i := 114) rfl, List.forall_mem_cons.mpr ⟨tb3 (i := 115) rfl, List.forall_mem_cons.mpr ⟨tb3 (i := 116) rfl, List.forall_mem_cons.mpr ⟨tb2 (i := 229) rfl, List.forall_mem_cons.mpr ⟨tb2 (i := 230) rfl, List.forall_mem_cons.mpr ⟨tb2 (i := 231) rfl, List.forall_mem_cons.mpr ⟨tb2 (i := 232) rfl, List.forall_mem_cons.mpr ⟨tb3 (i := 117) rfl, List.forall_mem_cons.mpr ⟨tb3 (i := 118) rfl, List.forall_mem_cons.mpr ⟨tb3 (i := 119) rfl, List.forall_mem_cons.mpr ⟨tb3 (i := 120) rfl, List.forall_mem_cons.mpr ⟨tb3 (i := 52) rfl, List.forall_mem_cons.mpr ⟨tb3 (i := 53) rfl, List.forall_mem_cons.mpr ⟨tb3 (i := 54) rfl, List.forall_mem_cons.mpr ⟨tb1 (i := 47) rfl, List.forall_mem_cons.mpr ⟨tb1 (i := 49) rfl, List.forall_mem_cons.mpr ⟨tb3 (i := 55) rfl, List.forall_mem_cons.mpr ⟨tb3 (i := 57) rfl, List.forall_mem_cons.mpr ⟨tb0 (i := 38) rfl, List.forall_mem_cons.mpr ⟨tb3 (i := 58) rfl, List.forall_mem_cons.mpr ⟨tb3 (i := 121) rfl, List.forall_mem_cons.mpr ⟨tb3 (i := 122) rfl, List.forall_mem_cons.mpr ⟨tb3 (i := 123) rfl, List.forall_mem_cons.mpr ⟨tb3 (i := 124) rfl, fun _ h => absurd h List.not_mem_nil⟩⟩⟩⟩⟩⟩⟩⟩⟩⟩⟩⟩⟩⟩⟩⟩⟩⟩⟩⟩⟩⟩⟩⟩
theorem go_12 : wsL_law0_r12.all goodWord = true := by decide +kernel
theorem gi_13 : ∀ w ∈ wsL_law0_r13, w ∈ lw_tbl := List.forall_mem_cons.mpr ⟨tb3 (i := 29) rfl, List.forall_mem_cons.mpr ⟨tb3 (i := 31) rfl, List.forall_mem_cons.mpr ⟨tb0 (i := 36) rfl, List.forall_mem_cons.mpr ⟨tb3 (i := 32) rfl, List.forall_mem_cons.mpr ⟨tb2 (i := 206) rfl, List.forall_mem_cons.mpr ⟨tb2 (i := 207) rfl, List.forall_mem_cons.mpr ⟨tb2 (i := 208) rfl, List.forall_mem_cons.mpr ⟨tb3 (i := 126) rfl, List.forall_mem_cons.mpr ⟨tb3 (i := 127) rfl, List.forall_mem_cons.mpr ⟨tb3 (i := 128) rfl, List.forall_mem_cons.mpr ⟨tb3 (i := 129) rfl, List.forall_mem_cons.mpr ⟨tb3 (i := 74) rfl, List.forall_mem_cons.mpr ⟨tb3 (i := 75) rfl, List.forall_mem_cons.mpr ⟨tb3 (i := 76) rfl, List.forall_mem_cons.mpr ⟨tb2 (i := 107) rfl, List.forall_mem_cons.mpr ⟨tb2 (i := 108) rfl, List.forall_mem_cons.mpr ⟨tb2 (i := 109) rfl, List.forall_mem_cons.mpr ⟨tb2 (i := 110) rfl, List.forall_mem_cons.mpr ⟨tb2 (i := 185) rfl, List.forall_mem_cons.mpr ⟨tb2 (i := 186) rfl, List.forall_mem_cons.mpr ⟨tb2 (i := 187) rfl, List.forall_mem_cons.mpr ⟨tb2 (i := 188) rfl, List.forall_mem_cons.mpr ⟨tb2 (i := 189) rfl, List.forall_mem_cons.mpr ⟨tb2 (i := 191) rfl, fun _ h => absurd h List.not_mem_nil⟩⟩⟩⟩⟩⟩⟩⟩⟩⟩⟩⟩⟩⟩⟩⟩⟩⟩⟩⟩⟩⟩⟩⟩
theorem go_13 : wsL_law0_r13.all goodWord = true := by decide +kernel
theorem gi_14 : ∀ w ∈ wsL_law0_r14, w ∈ lw_tbl := List.forall_mem_cons.mpr ⟨tb0 (i := 25) rfl, List.forall_mem_cons.mpr ⟨tb2 (i := 192) rfl, List.forall_mem_cons.mpr ⟨tb2 (i := 194) rfl, List.forall_mem_cons.mpr ⟨tb2 (i := 196) rfl, List.forall_mem_cons.mpr ⟨tb0 (i := 26) rfl, List.forall_mem_cons.mpr ⟨tb2 (i := 197) rfl, List.forall_mem_cons.mpr ⟨tb1 (i := 41) rfl, List.forall_mem_cons.mpr ⟨tb2 (i := 198) rfl, List.forall_mem_cons.mpr ⟨tb2 (i := 200) rfl, List.forall_mem_cons.mpr ⟨tb0 (i := 27) rfl, List.forall_mem_cons.mpr ⟨tb2 (i := 201) rfl, List.forall_mem_cons.mpr ⟨tb2 (i := 202) rfl, List.forall_mem_cons.mpr ⟨tb2 (i := 204) rfl, List.forall_mem_cons.mpr ⟨tb0 (i := 28) rfl, List.forall_mem_cons.mpr ⟨tb2 (i := 205) rfl, List.forall_mem_cons.mpr ⟨tb2 (i := 103) rfl, List.forall_mem_cons.mpr ⟨tb2 (i := 104) rfl, List.forall_mem_cons.mpr ⟨tb2 (i := 105) rfl, List.forall_mem_cons.mpr ⟨tb2 (i := 106) rfl, List.forall_mem_cons.mpr ⟨tb2 (i := 209) rfl, List.forall_mem_cons.mpr ⟨tb2 (i := 210) rfl, List.forall_mem_cons.mpr ⟨tb2 (i := 211) rfl, List.forall_mem_cons.mpr ⟨tb2 (i := 212) rfl, List.forall_mem_cons.mpr ⟨tb3 (i := 5) rfl, fun _ h => absurd h List.not_mem_nil⟩⟩⟩⟩⟩⟩⟩⟩⟩⟩⟩⟩⟩⟩⟩⟩⟩⟩⟩⟩⟩⟩⟩⟩
theorem go_14 : wsL_law0_r14.all goodWord = true := by decide +kernel
theorem gi_15 : ∀ w ∈ wsL_law0_r15, w ∈ lw_tbl := List.forall_mem_cons.mpr ⟨tb3 (i := 6) rfl, List.forall_mem_cons.mpr ⟨tb3 (i := 7) rfl, List.forall_mem_cons.mpr ⟨tb3 (i := 8) rfl, List.forall_mem_cons.mpr ⟨tb3 (i := 9) rfl, List.forall_mem_cons.mpr ⟨tb3 (i := 11) rfl, List.forall_mem_cons.mpr ⟨tb0 (i := 32) rfl, List.forall_mem_cons.mpr ⟨tb3 (i := 12) rfl, List.forall_mem_cons.mpr ⟨tb3 (i := 13) rfl, List.forall_mem_cons.mpr ⟨tb3 (i := 15) rfl, List.forall_mem_cons.mpr ⟨tb0 (i := 33) rfl, List.forall_mem_cons.mpr ⟨tb3 (i := 16) rfl, List.forall_mem_cons.mpr ⟨tb3 (i := 17) rfl, List.forall_mem_cons.mpr ⟨tb3 (i := 19) rfl, List.forall_mem_cons.mpr ⟨tb0 (i := 34) rfl, List.forall_mem_cons.mpr ⟨tb3 (i := 20) rfl, List.forall_mem_cons.mpr ⟨tb3 (i := 21) rfl, List.forall_mem_cons.mpr ⟨tb3 (i := 23) rfl, List.forall_mem_cons.mpr ⟨tb0 (i := 35) rfl, List.forall_mem_cons.mpr ⟨tb3 (i := 24) rfl, List.forall_mem_cons.mpr ⟨tb2 (i := 217) rfl, List.forall_mem_cons.mpr ⟨tb2 (i := 218) rfl, List.forall_mem_cons.mpr ⟨tb2 (i := 219) rfl, List.forall_mem_cons.mpr ⟨tb2 (i := 220) rfl, List.forall_mem_cons.mpr ⟨tb2 (i := 222) rfl, fun _ h => absurd h List.not_mem_nil⟩⟩⟩⟩⟩⟩⟩⟩⟩⟩⟩⟩⟩⟩⟩⟩⟩⟩⟩⟩⟩⟩⟩⟩
theorem go_15 : wsL_law0_r15.all goodWord = true := by decide +kernel
theorem gi_16 : ∀ w ∈ wsL_law0_r16, w ∈ lw_tbl := List.forall_mem_cons.mpr ⟨tb2 (i := 224) rfl, List.forall_mem_cons.mpr ⟨tb0 (i := 30) rfl, List.forall_mem_cons.mpr ⟨tb2 (i := 225) rfl, List.forall_mem_cons.mpr ⟨tb2 (i := 226) rfl, List.forall_mem_cons.mpr ⟨tb2 (i := 227) rfl, List.forall_mem_cons.mpr ⟨tb2 (i := 228) rfl, List.forall_mem_cons.mpr ⟨tb2 (i := 81) rfl, List.forall_mem_cons.mpr ⟨tb2 (i := 82) rfl, List.forall_mem_cons.mpr ⟨tb2 (i := 83) rfl, List.forall_mem_cons.mpr ⟨tb2 (i := 84) rfl, List.forall_mem_cons.mpr ⟨tb3 (i := 132) rfl, List.forall_mem_cons.mpr ⟨tb3 (i := 133) rfl, List.forall_mem_cons.mpr ⟨tb3 (i := 134) rfl, List.forall_mem_cons.mpr ⟨tb3 (i := 41) rfl, List.forall_mem_cons.mpr ⟨tb3 (i := 42) rfl, List.forall_mem_cons.mpr ⟨tb3 (i := 43) rfl, List.forall_mem_cons.mpr ⟨tb3 (i := 44) rfl, List.forall_mem_cons.mpr ⟨tb3 (i := 45) rfl, List.forall_mem_cons.mpr ⟨tb3 (i := 46) rfl, List.forall_mem_cons.mpr ⟨tb3 (i := 47) rfl, List.forall_mem_cons.mpr ⟨tb3 (i := 48) rfl, List.forall_mem_cons.mpr ⟨tb3 (i := 49) rfl, List.forall_mem_cons.mpr ⟨tb3 (i := 50) rfl, List.forall_mem_cons.mpr ⟨tb3 (i := 51) rfl, fun _ h => absurd h List.not_mem_nil⟩⟩⟩⟩⟩⟩⟩⟩⟩⟩⟩⟩⟩⟩⟩⟩⟩⟩⟩⟩⟩⟩⟩⟩
theorem go_16 : wsL_law0_r16.all goodWord = true := by decide +kernel
theorem gi_17 : ∀ w ∈ wsL_law0_r17, w ∈ lw_tbl := List.forall_mem_cons.mpr ⟨tb3 (i := 59) rfl, List.forall_mem_cons.mpr ⟨tb3 (i := 60) rfl, List.forall_mem_cons.mpr ⟨tb3 (i := 61) rfl, List.forall_mem_cons.mpr ⟨tb3 (i := 26) rfl, List.forall_mem_cons.mpr ⟨tb3 (i := 27) rfl, List.forall_mem_cons.mpr ⟨tb3 (i := 28) rfl, List.forall_mem_cons.mpr ⟨tb3 (i := 62) rfl, List.forall_mem_cons.mpr ⟨tb3 (i := 63) rfl, List.forall_mem_cons.mpr ⟨tb3 (i := 64) rfl, List.forall_mem_cons.mpr ⟨tb3 (i := 65) rfl, List.forall_mem_cons.mpr ⟨tb3 (i := 66) rfl, List.forall_mem_cons.mpr ⟨tb3 (i := 67) rfl, List.forall_mem_cons.mpr ⟨tb3 (i := 68) rfl, List.forall_mem_cons.mpr ⟨tb3 (i := 69) rfl, List.forall_mem_cons.mpr ⟨tb3 (i := 70) rfl, List.forall_mem_cons.mpr ⟨tb3 (i := 72) rfl, List.forall_mem_cons.mpr ⟨tb0 (i := 39) rfl, List.forall_mem_cons.mpr ⟨tb3 (i := 73) rfl, List.forall_mem_cons.mpr ⟨tb3 (i := 77) rfl, List.forall_mem_cons.mpr ⟨tb3 (i := 34) rfl, List.forall_mem_cons.mpr ⟨tb3 (i := 35) rfl, List.forall_mem_cons.mpr ⟨tb3 (i := 36) rfl, List.forall_mem_cons.mpr ⟨tb3 (i := 37) rfl, List.forall_mem_cons.mpr ⟨tb3 (i := 39) rfl, fun _ h => absurd h List.not_mem_nil⟩⟩⟩⟩⟩⟩⟩⟩⟩⟩⟩⟩⟩⟩⟩⟩⟩⟩⟩⟩⟩⟩⟩⟩
theorem go_17 : wsL_law0_r17.all goodWord = true := by decide +kernel
theorem gi_18 : ∀ w ∈ wsL_law0_r18, w ∈ lw_tbl := List.forall_mem_cons.mpr ⟨tb0 (i := 37) rfl, List.forall_mem_cons.mpr ⟨tb3 (i := 40) rfl, List.forall_mem_cons.mpr ⟨tb3 (i := 78) rfl, List.forall_mem_cons.mpr ⟨tb3 (i := 79) rfl, List.forall_mem_cons.mpr ⟨tb3 (i := 80) rfl, List.forall_mem_cons.mpr ⟨tb3 (i := 81) rfl, List.forall_mem_cons.mpr ⟨tb3 (i := 25) rfl, List.forall_mem_cons.mpr ⟨tb3 (i := 33) rfl, fun _ h => absurd h List.not_mem_nil⟩⟩⟩⟩⟩⟩⟩⟩
theorem go_18 : wsL_law0_r18.all goodWord = true := by decide +kernel
theorem gi_X3 : ∀ w ∈ wsX30, w ∈ lw_tbl := List.forall_mem_cons.mpr ⟨tb1 (i := 153) rfl, List.forall_mem_cons.mpr ⟨tb1 (i := 155) rfl, List.forall_mem_cons.mpr ⟨tb1 (i := 157) rfl, List.forall_mem_cons.mpr ⟨tb1 (i := 159) rfl, List.forall_mem_cons.mpr ⟨tb1 (i := 161) rfl, List.forall_mem_cons.mpr ⟨tb1 (i := 163) rfl, List.forall_mem_cons.mpr ⟨tb1 (i := 165) rfl, List.forall_mem_cons.mpr ⟨tb1 (i := 167) rfl, List.forall_mem_cons.mpr ⟨tb1 (i := 169) rfl, List.forall_mem_cons.mpr ⟨tb1 (i := 171) rfl, List.forall_mem_cons.mpr ⟨tb1 (i := 173) rfl, List.forall_mem_cons.mpr ⟨tb1 (i := 175) rfl, List.forall_mem_cons.mpr ⟨tb1 (i := 177) rfl, List.forall_mem_cons.mpr ⟨tb1 (i := 179) rfl, List.forall_mem_cons.mpr ⟨tb1 (i := 181) rfl, fun _ h => absurd h List.not_mem_nil⟩⟩⟩⟩⟩⟩⟩⟩⟩⟩⟩⟩⟩⟩⟩
theorem go_X3 : wsX30.all goodWord = true := by decide +kernel
theorem gi_X1 : ∀ w ∈ wsX10, w ∈ lw_tbl := List.forall_mem_cons.mpr ⟨tb1 (i := 50) rfl, List.forall_mem_cons.mpr ⟨tb1 (i := 52) rfl, List.forall_mem_cons.mpr ⟨tb1 (i := 54) rfl, List.forall_mem_cons.mpr ⟨tb1 (i := 56) rfl, List.forall_mem_cons.mpr ⟨tb1 (i := 58) rfl, List.forall_mem_cons.mpr ⟨tb1 (i := 60) rfl, List.forall_mem_cons.mpr ⟨tb1 (i := 62) rfl, List.forall_mem_cons.mpr ⟨tb1 (i := 64) rfl, List.forall_mem_cons.mpr ⟨tb1 (i := 66) rfl, fun _ h => absurd h List.not_mem_nil⟩⟩⟩⟩⟩⟩⟩⟩⟩
theorem go_X1 : wsX10.all goodWord = true := by decide +kernel
theorem gi_X2 : ∀ w ∈ wsX20, w ∈ lw_tbl := List.forall_mem_cons.mpr ⟨tb1 (i := 85) rfl, List.forall_mem_cons.mpr ⟨tb1 (i := 87) rfl, List.forall_mem_cons.mpr ⟨tb1 (i := 89) rfl, List.forall_mem_cons.mpr ⟨tb1 (i := 91) rfl, List.forall_mem_cons.mpr ⟨tb1 (i := 93) rfl, fun _ h => absurd h List.not_mem_nil⟩⟩⟩⟩⟩
theorem go_X2 : wsX20.all goodWord = true := by decide +kernel
theorem gi_X0 : ∀ w ∈ wsX00, w ∈ lw_tbl := List.forall_mem_cons.mpr ⟨tb1 (i := 119) rfl, List.forall_mem_cons.mpr ⟨tb1 (i := 121) rfl, List.forall_mem_cons.mpr ⟨tb1 (i := 123) rfl, List.forall_mem_cons.mpr ⟨tb1 (i := 125) rfl, List.forall_mem_cons.mpr ⟨tb1 (i := 127) rfl, List.forall_mem_cons.mpr ⟨tb1 (i := 129) rfl, List.forall_mem_cons.mpr ⟨tb1 (i := 131) rfl, List.forall_mem_cons.mpr ⟨tb1 (i := 133) rfl, List.forall_mem_cons.mpr ⟨tb1 (i := 135) rfl, fun _ h => absurd h List.not_mem_nil⟩⟩⟩⟩⟩⟩⟩⟩⟩
theorem go_X0 : wsX00.all goodWord = true := by decide +kernel
theorem gi_all : ∀ w ∈ wsL_law0, w ∈ lw_tbl := by
  intro w h
  unfold wsL_law0 at h
  simp only [List.mem_append, List.not_mem_nil, or_false] at h
  rcases h with ((((h | h | h | h | h | h | h | h | h | h | h | h | h | h | h | h | h | h) | h) | h) | h) | h
  · exact gi_1 w h
  · exact gi_2 w h
  · exact gi_3 w h
  · exact gi_4 w h
  · exact gi_5 w h
  · exact gi_6 w h
  · exact gi_7 w h
  · exact gi_8 w h
  · exact gi_9 w h
  · exact gi_10 w h
  · exact gi_11 w h
  · exact gi_12 w h
  · exact gi_13 w h
  · exact gi_14 w h
  · exact gi_15 w h
  · exact gi_16 w h
  · exact gi_17 w h
  · exact gi_18 w h
  · exact gi_X3 w h
  · exact gi_X1 w h
  · exact gi_X2 w h
  · exact gi_X0 w h
theorem go_all : ∀ w ∈ wsL_law0, goodWord w = true := by
  intro w h
  unfold wsL_law0 at h
  simp only [List.mem_append, List.not_mem_nil, or_false] at h
  rcases h with ((((h | h | h | h | h | h | h | h | h | h | h | h | h | h | h | h | h | h) | h) | h) | h) | h
  · exact List.all_eq_true.mp go_1 w h
  · exact List.all_eq_true.mp go_2 w h
  · exact List.all_eq_true.mp go_3 w h
  · exact List.all_eq_true.mp go_4 w h
  · exact List.all_eq_true.mp go_5 w h
  · exact List.all_eq_true.mp go_6 w h
  · exact List.all_eq_true.mp go_7 w h
  · exact List.all_eq_true.mp go_8 w h
  · exact List.all_eq_true.mp go_9 w h
  · exact List.all_eq_true.mp go_10 w h
  · exact List.all_eq_true.mp go_11 w h
  · exact List.all_eq_true.mp go_12 w h
  · exact List.all_eq_true.mp go_13 w h
  · exact List.all_eq_true.mp go_14 w h
  · exact List.all_eq_true.mp go_15 w h
  · exact List.all_eq_true.mp go_16 w h
  · exact List.all_eq_true.mp go_17 w h
  · exact List.all_eq_true.mp go_18 w h
  · exact List.all_eq_true.mp go_X3 w h
  · exact List.all_eq_true.mp go_X1 w h
  · exact List.all_eq_true.mp go_X2 w h
  · exact List.all_eq_true.mp go_X0 w h
abbrev vwCl : List vw_C := [(RX0, TX0, 9), (RX1, TX1, 9), (RX2, TX2, 5), (RX3, TX3, 15)]
