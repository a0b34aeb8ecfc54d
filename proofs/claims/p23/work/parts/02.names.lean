def RX0 : String := "Fixityhall$DigitalObject"
def TX0 : u_T := fun k => match k with
  | 0 => ("Fixityhall$DigitalObject", "wanted", "I", true)
  | 1 => ("Fixityhall$DigitalObject", "first", "LFixityhall$Version;", true)
  | _ => ("Fixityhall$DigitalObject", "versions", "Ljava/util/ArrayList;", true)
def tyX0 : Nat → FieldType := fun k => match k with
  | 0 => .int
  | 1 => .object "Fixityhall$Version"
  | _ => .object "java/util/ArrayList"
theorem nmX0 : ∀ a, a < 3 → ∀ b, b < 3 → a ≠ b → (TX0 a).2.1 ≠ (TX0 b).2.1 := by decide +kernel
theorem tyX0_ok : ∀ k, k < 3 → parseFieldDescriptor (TX0 k).2.2.1 = some (tyX0 k) := by decide +kernel
abbrev cX0_init : ByteArray := prog_2_method_1_code
def yX0_init : MethodName := ⟨RX0, "<init>", "(ILFixityhall$Version;)V"⟩
abbrev cX0_isFull : ByteArray := prog_2_method_2_code
def yX0_isFull : MethodName := ⟨RX0, "isFull", "()Z"⟩
abbrev cX0_add : ByteArray := prog_2_method_3_code
def yX0_add : MethodName := ⟨RX0, "add", "(LFixityhall$Version;)I"⟩
abbrev cX0_find : ByteArray := prog_2_method_4_code
def yX0_find : MethodName := ⟨RX0, "find", "(I)LFixityhall$Version;"⟩
abbrev cX0_latest : ByteArray := prog_2_method_5_code
def yX0_latest : MethodName := ⟨RX0, "latest", "()LFixityhall$Version;"⟩
abbrev cX0_versionSet : ByteArray := prog_2_method_6_code
def yX0_versionSet : MethodName := ⟨RX0, "versionSet", "()I"⟩
abbrev cX0_countThere : ByteArray := prog_2_method_7_code
def yX0_countThere : MethodName := ⟨RX0, "countThere", "()I"⟩
def RX1 : String := "Fixityhall$Formats"
def TX1 : u_T := fun k => match k with
  | 0 => ("Fixityhall$Formats", "risks", "[I", true)
  | 1 => ("Fixityhall$Formats", "costs", "[[I", true)
  | 2 => ("Fixityhall$Formats", "reached", "[I", true)
  | _ => ("Fixityhall$Formats", "count", "I", false)
def tyX1 : Nat → FieldType := fun k => match k with
  | 0 => .array .int
  | 1 => .array (.array .int)
  | 2 => .array .int
  | _ => .int
theorem nmX1 : ∀ a, a < 4 → ∀ b, b < 4 → a ≠ b → (TX1 a).2.1 ≠ (TX1 b).2.1 := by decide +kernel
theorem tyX1_ok : ∀ k, k < 4 → parseFieldDescriptor (TX1 k).2.2.1 = some (tyX1 k) := by decide +kernel
abbrev cX1_init : ByteArray := prog_3_method_1_code
def yX1_init : MethodName := ⟨RX1, "<init>", "()V"⟩
abbrev cX1_lossOf : ByteArray := prog_3_method_2_code
def yX1_lossOf : MethodName := ⟨RX1, "lossOf", "(I)I"⟩
abbrev cX1_has : ByteArray := prog_3_method_3_code
def yX1_has : MethodName := ⟨RX1, "has", "(I)Z"⟩
abbrev cX1_isFull : ByteArray := prog_3_method_4_code
def yX1_isFull : MethodName := ⟨RX1, "isFull", "()Z"⟩
abbrev cX1_add : ByteArray := prog_3_method_5_code
def yX1_add : MethodName := ⟨RX1, "add", "(I)I"⟩
abbrev cX1_riskOf : ByteArray := prog_3_method_6_code
def yX1_riskOf : MethodName := ⟨RX1, "riskOf", "(I)I"⟩
abbrev cX1_exchangeRisk : ByteArray := prog_3_method_7_code
def yX1_exchangeRisk : MethodName := ⟨RX1, "exchangeRisk", "(II)I"⟩
abbrev cX1_setConversion : ByteArray := prog_3_method_8_code
def yX1_setConversion : MethodName := ⟨RX1, "setConversion", "(III)V"⟩
abbrev cX1_bestCost : ByteArray := prog_3_method_9_code
def yX1_bestCost : MethodName := ⟨RX1, "bestCost", "(II)I"⟩
abbrev cX1_lengthenWays : ByteArray := prog_3_method_10_code
def yX1_lengthenWays : MethodName := ⟨RX1, "lengthenWays", "()V"⟩
abbrev cX1_reach : ByteArray := prog_3_method_11_code
def yX1_reach : MethodName := ⟨RX1, "reach", "(II)V"⟩
def RX2 : String := "Fixityhall$Store"
def TX2 : u_T := fun k => match k with
  | 0 => ("Fixityhall$Store", "units", "Ljava/util/ArrayList;", true)
  | 1 => ("Fixityhall$Store", "isClosed", "[Z", true)
  | 2 => ("Fixityhall$Store", "loads", "[I", true)
  | _ => ("Fixityhall$Store", "lastAudited", "I", false)
def tyX2 : Nat → FieldType := fun k => match k with
  | 0 => .object "java/util/ArrayList"
  | 1 => .array .boolean
  | 2 => .array .int
  | _ => .int
theorem nmX2 : ∀ a, a < 4 → ∀ b, b < 4 → a ≠ b → (TX2 a).2.1 ≠ (TX2 b).2.1 := by decide +kernel
theorem tyX2_ok : ∀ k, k < 4 → parseFieldDescriptor (TX2 k).2.2.1 = some (tyX2 k) := by decide +kernel
abbrev cX2_init : ByteArray := prog_4_method_1_code
def yX2_init : MethodName := ⟨RX2, "<init>", "()V"⟩
abbrev cX2_find : ByteArray := prog_4_method_2_code
def yX2_find : MethodName := ⟨RX2, "find", "(I)LFixityhall$Unit;"⟩
abbrev cX2_obtain : ByteArray := prog_4_method_3_code
def yX2_obtain : MethodName := ⟨RX2, "obtain", "(ZII)LFixityhall$Unit;"⟩
abbrev cX2_findAlike : ByteArray := prog_4_method_4_code
def yX2_findAlike : MethodName := ⟨RX2, "findAlike", "(ZI)LFixityhall$Unit;"⟩
abbrev cX2_placeGoodCopies : ByteArray := prog_4_method_5_code
def yX2_placeGoodCopies : MethodName := ⟨RX2, "placeGoodCopies", "(LFixityhall$Unit;)I"⟩
abbrev cX2_placeCopies : ByteArray := prog_4_method_6_code
def yX2_placeCopies : MethodName := ⟨RX2, "placeCopies", "(LFixityhall$Unit;I)I"⟩
abbrev cX2_freestSite : ByteArray := prog_4_method_7_code
def yX2_freestSite : MethodName := ⟨RX2, "freestSite", "(LFixityhall$Unit;)I"⟩
abbrev cX2_release : ByteArray := prog_4_method_8_code
def yX2_release : MethodName := ⟨RX2, "release", "(LFixityhall$Version;)I"⟩
abbrev cX2_dropAllOf : ByteArray := prog_4_method_9_code
def yX2_dropAllOf : MethodName := ⟨RX2, "dropAllOf", "(LFixityhall$Unit;)V"⟩
abbrev cX2_closeOrOpen : ByteArray := prog_4_method_10_code
def yX2_closeOrOpen : MethodName := ⟨RX2, "closeOrOpen", "(I)I"⟩
abbrev cX2_dropCopy : ByteArray := prog_4_method_11_code
def yX2_dropCopy : MethodName := ⟨RX2, "dropCopy", "(LFixityhall$Unit;I)Z"⟩
abbrev cX2_countUnits : ByteArray := prog_4_method_12_code
def yX2_countUnits : MethodName := ⟨RX2, "countUnits", "()I"⟩
abbrev cX2_hasCopies : ByteArray := prog_4_method_13_code
def yX2_hasCopies : MethodName := ⟨RX2, "hasCopies", "()Z"⟩
abbrev cX2_auditNext : ByteArray := prog_4_method_14_code
def yX2_auditNext : MethodName := ⟨RX2, "auditNext", "()Z"⟩
abbrev cX2_placeAllLacking : ByteArray := prog_4_method_15_code
def yX2_placeAllLacking : MethodName := ⟨RX2, "placeAllLacking", "()I"⟩
abbrev cX2_countLacking : ByteArray := prog_4_method_16_code
def yX2_countLacking : MethodName := ⟨RX2, "countLacking", "()I"⟩
def RX3 : String := "Fixityhall$Unit"
def TX3 : u_T := fun k => match k with
  | 0 => ("Fixityhall$Unit", "number", "I", true)
  | 1 => ("Fixityhall$Unit", "isDifference", "Z", true)
  | 2 => ("Fixityhall$Unit", "value", "I", true)
  | 3 => ("Fixityhall$Unit", "digest", "I", true)
  | 4 => ("Fixityhall$Unit", "isPlaced", "[Z", true)
  | 5 => ("Fixityhall$Unit", "copies", "[I", true)
  | 6 => ("Fixityhall$Unit", "wanted", "I", false)
  | _ => ("Fixityhall$Unit", "needs", "I", false)
def tyX3 : Nat → FieldType := fun k => match k with
  | 0 => .int
  | 1 => .boolean
  | 2 => .int
  | 3 => .int
  | 4 => .array .boolean
  | 5 => .array .int
  | 6 => .int
  | _ => .int
theorem nmX3 : ∀ a, a < 8 → ∀ b, b < 8 → a ≠ b → (TX3 a).2.1 ≠ (TX3 b).2.1 := by decide +kernel
theorem tyX3_ok : ∀ k, k < 8 → parseFieldDescriptor (TX3 k).2.2.1 = some (tyX3 k) := by decide +kernel
abbrev cX3_init : ByteArray := prog_5_method_1_code
def yX3_init : MethodName := ⟨RX3, "<init>", "(IZI)V"⟩
abbrev cX3_isNeeded : ByteArray := prog_5_method_2_code
def yX3_isNeeded : MethodName := ⟨RX3, "isNeeded", "()Z"⟩
abbrev cX3_isAlike : ByteArray := prog_5_method_3_code
def yX3_isAlike : MethodName := ⟨RX3, "isAlike", "(ZI)Z"⟩
abbrev cX3_hasCopyAt : ByteArray := prog_5_method_4_code
def yX3_hasCopyAt : MethodName := ⟨RX3, "hasCopyAt", "(I)Z"⟩
abbrev cX3_isSoundAt : ByteArray := prog_5_method_5_code
def yX3_isSoundAt : MethodName := ⟨RX3, "isSoundAt", "(I)Z"⟩
abbrev cX3_changeAt : ByteArray := prog_5_method_6_code
def yX3_changeAt : MethodName := ⟨RX3, "changeAt", "(II)V"⟩
abbrev cX3_placeAt : ByteArray := prog_5_method_7_code
def yX3_placeAt : MethodName := ⟨RX3, "placeAt", "(II)V"⟩
abbrev cX3_dropAt : ByteArray := prog_5_method_8_code
def yX3_dropAt : MethodName := ⟨RX3, "dropAt", "(I)V"⟩
abbrev cX3_siteSet : ByteArray := prog_5_method_9_code
def yX3_siteSet : MethodName := ⟨RX3, "siteSet", "()I"⟩
abbrev cX3_countLacking : ByteArray := prog_5_method_10_code
def yX3_countLacking : MethodName := ⟨RX3, "countLacking", "()I"⟩
abbrev cX3_countSound : ByteArray := prog_5_method_11_code
def yX3_countSound : MethodName := ⟨RX3, "countSound", "()I"⟩
abbrev cX3_goodSite : ByteArray := prog_5_method_12_code
def yX3_goodSite : MethodName := ⟨RX3, "goodSite", "()I"⟩
abbrev cX3_goodValue : ByteArray := prog_5_method_13_code
def yX3_goodValue : MethodName := ⟨RX3, "goodValue", "()I"⟩
abbrev cX3_heldAt : ByteArray := prog_5_method_14_code
def yX3_heldAt : MethodName := ⟨RX3, "heldAt", "(I)I"⟩
abbrev cX3_countOf : ByteArray := prog_5_method_15_code
def yX3_countOf : MethodName := ⟨RX3, "countOf", "(I)I"⟩
abbrev cX3_repairAt : ByteArray := prog_5_method_16_code
def yX3_repairAt : MethodName := ⟨RX3, "repairAt", "(I)Z"⟩
def RX4 : String := "Fixityhall$Version"
def TX4 : u_T := fun k => match k with
  | 0 => ("Fixityhall$Version", "unit", "LFixityhall$Unit;", true)
  | 1 => ("Fixityhall$Version", "base", "LFixityhall$Version;", true)
  | 2 => ("Fixityhall$Version", "format", "I", true)
  | 3 => ("Fixityhall$Version", "content", "I", true)
  | _ => ("Fixityhall$Version", "isThere", "Z", false)
def tyX4 : Nat → FieldType := fun k => match k with
  | 0 => .object "Fixityhall$Unit"
  | 1 => .object "Fixityhall$Version"
  | 2 => .int
  | 3 => .int
  | _ => .boolean
theorem nmX4 : ∀ a, a < 5 → ∀ b, b < 5 → a ≠ b → (TX4 a).2.1 ≠ (TX4 b).2.1 := by decide +kernel
theorem tyX4_ok : ∀ k, k < 5 → parseFieldDescriptor (TX4 k).2.2.1 = some (tyX4 k) := by decide +kernel
abbrev cX4_init : ByteArray := prog_6_method_1_code
def yX4_init : MethodName := ⟨RX4, "<init>", "(LFixityhall$Unit;LFixityhall$Version;II)V"⟩
abbrev cX4_claimUnits : ByteArray := prog_6_method_2_code
def yX4_claimUnits : MethodName := ⟨RX4, "claimUnits", "()V"⟩
abbrev cX4_isReadable : ByteArray := prog_6_method_3_code
def yX4_isReadable : MethodName := ⟨RX4, "isReadable", "()Z"⟩
abbrev cX4_sumOfGoodValues : ByteArray := prog_6_method_4_code
def yX4_sumOfGoodValues : MethodName := ⟨RX4, "sumOfGoodValues", "()I"⟩
def RX5 : String := "Fixityhall"
def TX5 : u_T := fun k => match k with
  | 0 => ("Fixityhall", "formats", "LFixityhall$Formats;", true)
  | 1 => ("Fixityhall", "store", "LFixityhall$Store;", true)
  | _ => ("Fixityhall", "objects", "Ljava/util/ArrayList;", true)
def tyX5 : Nat → FieldType := fun k => match k with
  | 0 => .object "Fixityhall$Formats"
  | 1 => .object "Fixityhall$Store"
  | _ => .object "java/util/ArrayList"
theorem nmX5 : ∀ a, a < 3 → ∀ b, b < 3 → a ≠ b → (TX5 a).2.1 ≠ (TX5 b).2.1 := by decide +kernel
theorem tyX5_ok : ∀ k, k < 3 → parseFieldDescriptor (TX5 k).2.2.1 = some (tyX5 k) := by decide +kernel
abbrev cX5_init : ByteArray := prog_1_method_1_code
def yX5_init : MethodName := ⟨RX5, "<init>", "()V"⟩
abbrev cX5_addFormat : ByteArray := prog_1_method_2_code
def yX5_addFormat : MethodName := ⟨RX5, "addFormat", "(I)I"⟩
abbrev cX5_setRisk : ByteArray := prog_1_method_3_code
def yX5_setRisk : MethodName := ⟨RX5, "setRisk", "(II)I"⟩
abbrev cX5_addConversion : ByteArray := prog_1_method_4_code
def yX5_addConversion : MethodName := ⟨RX5, "addConversion", "(III)I"⟩
abbrev cX5_bestWay : ByteArray := prog_1_method_5_code
def yX5_bestWay : MethodName := ⟨RX5, "bestWay", "(II)I"⟩
abbrev cX5_deposit : ByteArray := prog_1_method_6_code
def yX5_deposit : MethodName := ⟨RX5, "deposit", "(III)I"⟩
abbrev cX5_revise : ByteArray := prog_1_method_7_code
def yX5_revise : MethodName := ⟨RX5, "revise", "(IIZ)I"⟩
abbrev cX5_convert : ByteArray := prog_1_method_8_code
def yX5_convert : MethodName := ⟨RX5, "convert", "(II)I"⟩
abbrev cX5_purge : ByteArray := prog_1_method_9_code
def yX5_purge : MethodName := ⟨RX5, "purge", "(II)I"⟩
abbrev cX5_versions : ByteArray := prog_1_method_10_code
def yX5_versions : MethodName := ⟨RX5, "versions", "(I)I"⟩
abbrev cX5_unitOf : ByteArray := prog_1_method_11_code
def yX5_unitOf : MethodName := ⟨RX5, "unitOf", "(II)I"⟩
abbrev cX5_read : ByteArray := prog_1_method_12_code
def yX5_read : MethodName := ⟨RX5, "read", "(II)I"⟩
abbrev cX5_atRisk : ByteArray := prog_1_method_13_code
def yX5_atRisk : MethodName := ⟨RX5, "atRisk", "(I)I"⟩
abbrev cX5_units : ByteArray := prog_1_method_14_code
def yX5_units : MethodName := ⟨RX5, "units", "()I"⟩
abbrev cX5_sites : ByteArray := prog_1_method_15_code
def yX5_sites : MethodName := ⟨RX5, "sites", "(I)I"⟩
abbrev cX5_sound : ByteArray := prog_1_method_16_code
def yX5_sound : MethodName := ⟨RX5, "sound", "(I)I"⟩
abbrev cX5_damage : ByteArray := prog_1_method_17_code
def yX5_damage : MethodName := ⟨RX5, "damage", "(III)Z"⟩
abbrev cX5_toggleSite : ByteArray := prog_1_method_18_code
def yX5_toggleSite : MethodName := ⟨RX5, "toggleSite", "(I)I"⟩
abbrev cX5_audit : ByteArray := prog_1_method_19_code
def yX5_audit : MethodName := ⟨RX5, "audit", "(I)I"⟩
abbrev cX5_replicate : ByteArray := prog_1_method_20_code
def yX5_replicate : MethodName := ⟨RX5, "replicate", "()I"⟩
abbrev cX5_lacking : ByteArray := prog_1_method_21_code
def yX5_lacking : MethodName := ⟨RX5, "lacking", "()I"⟩
abbrev cX5_isWithin : ByteArray := prog_1_method_22_code
def yX5_isWithin : MethodName := ⟨RX5, "isWithin", "(III)Z"⟩
abbrev cX5_requireRisk : ByteArray := prog_1_method_23_code
def yX5_requireRisk : MethodName := ⟨RX5, "requireRisk", "(I)V"⟩
abbrev cX5_requireContent : ByteArray := prog_1_method_24_code
def yX5_requireContent : MethodName := ⟨RX5, "requireContent", "(I)V"⟩
abbrev cX5_requireSite : ByteArray := prog_1_method_25_code
def yX5_requireSite : MethodName := ⟨RX5, "requireSite", "(I)V"⟩
abbrev cX5_requireFormat : ByteArray := prog_1_method_26_code
def yX5_requireFormat : MethodName := ⟨RX5, "requireFormat", "(I)V"⟩
abbrev cX5_requireRoomForVersion : ByteArray := prog_1_method_27_code
def yX5_requireRoomForVersion : MethodName := ⟨RX5, "requireRoomForVersion", "(LFixityhall$DigitalObject;)V"⟩
abbrev cX5_requireReadable : ByteArray := prog_1_method_28_code
def yX5_requireReadable : MethodName := ⟨RX5, "requireReadable", "(LFixityhall$Version;)V"⟩
abbrev cX5_objectAt : ByteArray := prog_1_method_29_code
def yX5_objectAt : MethodName := ⟨RX5, "objectAt", "(I)LFixityhall$DigitalObject;"⟩
abbrev cX5_versionAt : ByteArray := prog_1_method_30_code
def yX5_versionAt : MethodName := ⟨RX5, "versionAt", "(LFixityhall$DigitalObject;I)LFixityhall$Version;"⟩
abbrev cX5_unitAt : ByteArray := prog_1_method_31_code
def yX5_unitAt : MethodName := ⟨RX5, "unitAt", "(I)LFixityhall$Unit;"⟩
abbrev cX5_makeVersion : ByteArray := prog_1_method_32_code
def yX5_makeVersion : MethodName := ⟨RX5, "makeVersion", "(LFixityhall$Version;III)LFixityhall$Version;"⟩
abbrev cX5_convertedContent : ByteArray := prog_1_method_33_code
def yX5_convertedContent : MethodName := ⟨RX5, "convertedContent", "(II)I"⟩
def RX6 : String := "FixityhallModel"
def TX6 : u_T := fun k => match k with
  | _ => ("", "", "", false)
def tyX6 : Nat → FieldType := fun k => match k with
  | _ => .int
theorem nmX6 : ∀ a, a < 0 → ∀ b, b < 0 → a ≠ b → (TX6 a).2.1 ≠ (TX6 b).2.1 := by decide +kernel
theorem tyX6_ok : ∀ k, k < 0 → parseFieldDescriptor (TX6 k).2.2.1 = some (tyX6 k) := by decide +kernel
def RJx145de : String := "java/io/Serializable"
def TJx145de : u_T := fun k => match k with
  | _ => ("", "", "", false)
def tyJx145de : Nat → FieldType := fun k => match k with
  | _ => .int
theorem nmJx145de : ∀ a, a < 0 → ∀ b, b < 0 → a ≠ b → (TJx145de a).2.1 ≠ (TJx145de b).2.1 := by decide +kernel
theorem tyJx145de_ok : ∀ k, k < 0 → parseFieldDescriptor (TJx145de k).2.2.1 = some (tyJx145de k) := by decide +kernel
def RJx8e188 : String := "java/lang/Cloneable"
def TJx8e188 : u_T := fun k => match k with
  | _ => ("", "", "", false)
def tyJx8e188 : Nat → FieldType := fun k => match k with
  | _ => .int
theorem nmJx8e188 : ∀ a, a < 0 → ∀ b, b < 0 → a ≠ b → (TJx8e188 a).2.1 ≠ (TJx8e188 b).2.1 := by decide +kernel
theorem tyJx8e188_ok : ∀ k, k < 0 → parseFieldDescriptor (TJx8e188 k).2.2.1 = some (tyJx8e188 k) := by decide +kernel
def RJ6 : String := "java/lang/Integer"
def TJ6 : u_T := fun k => match k with
  | _ => ("", "", "", false)
def tyJ6 : Nat → FieldType := fun k => match k with
  | _ => .int
theorem nmJ6 : ∀ a, a < 0 → ∀ b, b < 0 → a ≠ b → (TJ6 a).2.1 ≠ (TJ6 b).2.1 := by decide +kernel
theorem tyJ6_ok : ∀ k, k < 0 → parseFieldDescriptor (TJ6 k).2.2.1 = some (tyJ6 k) := by decide +kernel
abbrev cJ6_bitCount_0f7a4 : ByteArray := prog_15_method_49_code
def yJ6_bitCount_0f7a4 : MethodName := ⟨RJ6, "bitCount", "(I)I"⟩
def RJxab1ab : String := "java/lang/Iterable"
def TJxab1ab : u_T := fun k => match k with
  | _ => ("", "", "", false)
def tyJxab1ab : Nat → FieldType := fun k => match k with
  | _ => .int
theorem nmJxab1ab : ∀ a, a < 0 → ∀ b, b < 0 → a ≠ b → (TJxab1ab a).2.1 ≠ (TJxab1ab b).2.1 := by decide +kernel
theorem tyJxab1ab_ok : ∀ k, k < 0 → parseFieldDescriptor (TJxab1ab k).2.2.1 = some (tyJxab1ab k) := by decide +kernel
def RJ9 : String := "java/lang/Math"
def TJ9 : u_T := fun k => match k with
  | _ => ("", "", "", false)
def tyJ9 : Nat → FieldType := fun k => match k with
  | _ => .int
theorem nmJ9 : ∀ a, a < 0 → ∀ b, b < 0 → a ≠ b → (TJ9 a).2.1 ≠ (TJ9 b).2.1 := by decide +kernel
theorem tyJ9_ok : ∀ k, k < 0 → parseFieldDescriptor (TJ9 k).2.2.1 = some (tyJ9 k) := by decide +kernel
abbrev cJ9_floorMod_7cf53 : ByteArray := prog_17_method_50_code
def yJ9_floorMod_7cf53 : MethodName := ⟨RJ9, "floorMod", "(II)I"⟩
abbrev cJ9_max_7cf53 : ByteArray := prog_17_method_65_code
def yJ9_max_7cf53 : MethodName := ⟨RJ9, "max", "(II)I"⟩
abbrev cJ9_min_7cf53 : ByteArray := prog_17_method_69_code
def yJ9_min_7cf53 : MethodName := ⟨RJ9, "min", "(II)I"⟩
def RJ0 : String := "java/lang/String"
def TJ0 : u_T := fun k => match k with
  | _ => ("", "", "", false)
def tyJ0 : Nat → FieldType := fun k => match k with
  | _ => .int
theorem nmJ0 : ∀ a, a < 0 → ∀ b, b < 0 → a ≠ b → (TJ0 a).2.1 ≠ (TJ0 b).2.1 := by decide +kernel
theorem tyJ0_ok : ∀ k, k < 0 → parseFieldDescriptor (TJ0 k).2.2.1 = some (tyJ0 k) := by decide +kernel
def RJ10 : String := "java/lang/System"
def TJ10 : u_T := fun k => match k with
  | _ => ("", "", "", false)
def tyJ10 : Nat → FieldType := fun k => match k with
  | _ => .int
theorem nmJ10 : ∀ a, a < 0 → ∀ b, b < 0 → a ≠ b → (TJ10 a).2.1 ≠ (TJ10 b).2.1 := by decide +kernel
theorem tyJ10_ok : ∀ k, k < 0 → parseFieldDescriptor (TJ10 k).2.2.1 = some (tyJ10 k) := by decide +kernel
def RJxa1e45 : String := "java/util/AbstractCollection"
def TJxa1e45 : u_T := fun k => match k with
  | _ => ("", "", "", false)
def tyJxa1e45 : Nat → FieldType := fun k => match k with
  | _ => .int
theorem nmJxa1e45 : ∀ a, a < 0 → ∀ b, b < 0 → a ≠ b → (TJxa1e45 a).2.1 ≠ (TJxa1e45 b).2.1 := by decide +kernel
theorem tyJxa1e45_ok : ∀ k, k < 0 → parseFieldDescriptor (TJxa1e45 k).2.2.1 = some (tyJxa1e45 k) := by decide +kernel
abbrev cJxa1e45_init_da8c8 : ByteArray := prog_22_method_1_code
def yJxa1e45_init_da8c8 : MethodName := ⟨RJxa1e45, "<init>", "()V"⟩
def RJxc12de : String := "java/util/AbstractList"
def TJxc12de : u_T := fun k => match k with
  | _ => ("", "", "", false)
def tyJxc12de : Nat → FieldType := fun k => match k with
  | _ => .int
theorem nmJxc12de : ∀ a, a < 0 → ∀ b, b < 0 → a ≠ b → (TJxc12de a).2.1 ≠ (TJxc12de b).2.1 := by decide +kernel
theorem tyJxc12de_ok : ∀ k, k < 0 → parseFieldDescriptor (TJxc12de k).2.2.1 = some (tyJxc12de k) := by decide +kernel
abbrev cJxc12de_init_da8c8 : ByteArray := prog_23_method_1_code
def yJxc12de_init_da8c8 : MethodName := ⟨RJxc12de, "<init>", "()V"⟩
def RJx4a65c : String := "java/util/ArrayList"
def TJx4a65c : u_T := fun k => match k with
  | 0 => ("java/util/AbstractList", "modCount", "I", false)
  | 1 => ("java/util/ArrayList", "elementData", "[Ljava/lang/Object;", false)
  | _ => ("java/util/ArrayList", "size", "I", false)
def tyJx4a65c : Nat → FieldType := fun k => match k with
  | 0 => .int
  | 1 => .array (.object "java/lang/Object")
  | _ => .int
theorem nmJx4a65c : ∀ a, a < 3 → ∀ b, b < 3 → a ≠ b → (TJx4a65c a).2.1 ≠ (TJx4a65c b).2.1 := by decide +kernel
theorem tyJx4a65c_ok : ∀ k, k < 3 → parseFieldDescriptor (TJx4a65c k).2.2.1 = some (tyJx4a65c k) := by decide +kernel
abbrev cJx4a65c_init_da8c8 : ByteArray := prog_24_method_2_code
def yJx4a65c_init_da8c8 : MethodName := ⟨RJx4a65c, "<init>", "()V"⟩
abbrev cJx4a65c_grow_92f84 : ByteArray := prog_24_method_6_code
def yJx4a65c_grow_92f84 : MethodName := ⟨RJx4a65c, "grow", "(I)[Ljava/lang/Object;"⟩
abbrev cJx4a65c_grow_d5877 : ByteArray := prog_24_method_7_code
def yJx4a65c_grow_d5877 : MethodName := ⟨RJx4a65c, "grow", "()[Ljava/lang/Object;"⟩
abbrev cJx4a65c_size_8abf5 : ByteArray := prog_24_method_8_code
def yJx4a65c_size_8abf5 : MethodName := ⟨RJx4a65c, "size", "()I"⟩
abbrev cJx4a65c_elementData_915e3 : ByteArray := prog_24_method_18_code
def yJx4a65c_elementData_915e3 : MethodName := ⟨RJx4a65c, "elementData", "(I)Ljava/lang/Object;"⟩
abbrev cJx4a65c_get_915e3 : ByteArray := prog_24_method_20_code
def yJx4a65c_get_915e3 : MethodName := ⟨RJx4a65c, "get", "(I)Ljava/lang/Object;"⟩
abbrev cJx4a65c_add_72be8 : ByteArray := prog_24_method_24_code
def yJx4a65c_add_72be8 : MethodName := ⟨RJx4a65c, "add", "(Ljava/lang/Object;[Ljava/lang/Object;I)V"⟩
abbrev cJx4a65c_add_9ea2d : ByteArray := prog_24_method_25_code
def yJx4a65c_add_9ea2d : MethodName := ⟨RJx4a65c, "add", "(Ljava/lang/Object;)Z"⟩
def RJ7 : String := "java/util/Arrays"
def TJ7 : u_T := fun k => match k with
  | _ => ("", "", "", false)
def tyJ7 : Nat → FieldType := fun k => match k with
  | _ => .int
theorem nmJ7 : ∀ a, a < 0 → ∀ b, b < 0 → a ≠ b → (TJ7 a).2.1 ≠ (TJ7 b).2.1 := by decide +kernel
theorem tyJ7_ok : ∀ k, k < 0 → parseFieldDescriptor (TJ7 k).2.2.1 = some (tyJ7 k) := by decide +kernel
abbrev cJ7_copyOf_1904c : ByteArray := prog_25_method_119_code
def yJ7_copyOf_1904c : MethodName := ⟨RJ7, "copyOf", "([Ljava/lang/Object;I)[Ljava/lang/Object;"⟩
abbrev cJ7_copyOf_6403c : ByteArray := prog_25_method_120_code
def yJ7_copyOf_6403c : MethodName := ⟨RJ7, "copyOf", "([Ljava/lang/Object;ILjava/lang/Class;)[Ljava/lang/Object;"⟩
def RJx5ef63 : String := "java/util/Collection"
def TJx5ef63 : u_T := fun k => match k with
  | _ => ("", "", "", false)
def tyJx5ef63 : Nat → FieldType := fun k => match k with
  | _ => .int
theorem nmJx5ef63 : ∀ a, a < 0 → ∀ b, b < 0 → a ≠ b → (TJx5ef63 a).2.1 ≠ (TJx5ef63 b).2.1 := by decide +kernel
theorem tyJx5ef63_ok : ∀ k, k < 0 → parseFieldDescriptor (TJx5ef63 k).2.2.1 = some (tyJx5ef63 k) := by decide +kernel
def RJxbd725 : String := "java/util/List"
def TJxbd725 : u_T := fun k => match k with
  | _ => ("", "", "", false)
def tyJxbd725 : Nat → FieldType := fun k => match k with
  | _ => .int
theorem nmJxbd725 : ∀ a, a < 0 → ∀ b, b < 0 → a ≠ b → (TJxbd725 a).2.1 ≠ (TJxbd725 b).2.1 := by decide +kernel
theorem tyJxbd725_ok : ∀ k, k < 0 → parseFieldDescriptor (TJxbd725 k).2.2.1 = some (tyJxbd725 k) := by decide +kernel
def RJ15 : String := "java/util/Objects"
def TJ15 : u_T := fun k => match k with
  | _ => ("", "", "", false)
def tyJ15 : Nat → FieldType := fun k => match k with
  | _ => .int
theorem nmJ15 : ∀ a, a < 0 → ∀ b, b < 0 → a ≠ b → (TJ15 a).2.1 ≠ (TJ15 b).2.1 := by decide +kernel
theorem tyJ15_ok : ∀ k, k < 0 → parseFieldDescriptor (TJ15 k).2.2.1 = some (tyJ15 k) := by decide +kernel
abbrev cJ15_checkIndex_7cf53 : ByteArray := prog_28_method_17_code
def yJ15_checkIndex_7cf53 : MethodName := ⟨RJ15, "checkIndex", "(II)I"⟩
def RJxf0a74 : String := "java/util/RandomAccess"
def TJxf0a74 : u_T := fun k => match k with
  | _ => ("", "", "", false)
def tyJxf0a74 : Nat → FieldType := fun k => match k with
  | _ => .int
theorem nmJxf0a74 : ∀ a, a < 0 → ∀ b, b < 0 → a ≠ b → (TJxf0a74 a).2.1 ≠ (TJxf0a74 b).2.1 := by decide +kernel
theorem tyJxf0a74_ok : ∀ k, k < 0 → parseFieldDescriptor (TJxf0a74 k).2.2.1 = some (tyJxf0a74 k) := by decide +kernel
def RJxa66e6 : String := "java/util/SequencedCollection"
def TJxa66e6 : u_T := fun k => match k with
  | _ => ("", "", "", false)
def tyJxa66e6 : Nat → FieldType := fun k => match k with
  | _ => .int
theorem nmJxa66e6 : ∀ a, a < 0 → ∀ b, b < 0 → a ≠ b → (TJxa66e6 a).2.1 ≠ (TJxa66e6 b).2.1 := by decide +kernel
theorem tyJxa66e6_ok : ∀ k, k < 0 → parseFieldDescriptor (TJxa66e6 k).2.2.1 = some (tyJxa66e6 k) := by decide +kernel
def RJ8 : String := "jdk/internal/util/ArraysSupport"
def TJ8 : u_T := fun k => match k with
  | _ => ("", "", "", false)
def tyJ8 : Nat → FieldType := fun k => match k with
  | _ => .int
theorem nmJ8 : ∀ a, a < 0 → ∀ b, b < 0 → a ≠ b → (TJ8 a).2.1 ≠ (TJ8 b).2.1 := by decide +kernel
theorem tyJ8_ok : ∀ k, k < 0 → parseFieldDescriptor (TJ8 k).2.2.1 = some (tyJ8 k) := by decide +kernel
abbrev cJ8_newLength_cabcc : ByteArray := prog_31_method_27_code
def yJ8_newLength_cabcc : MethodName := ⟨RJ8, "newLength", "(III)I"⟩
abbrev cJ8_hugeLength_7cf53 : ByteArray := prog_31_method_28_code
def yJ8_hugeLength_7cf53 : MethodName := ⟨RJ8, "hugeLength", "(II)I"⟩
def RJ3 : String := "jdk/internal/util/Preconditions"
def TJ3 : u_T := fun k => match k with
  | _ => ("", "", "", false)
def tyJ3 : Nat → FieldType := fun k => match k with
  | _ => .int
theorem nmJ3 : ∀ a, a < 0 → ∀ b, b < 0 → a ≠ b → (TJ3 a).2.1 ≠ (TJ3 b).2.1 := by decide +kernel
theorem tyJ3_ok : ∀ k, k < 0 → parseFieldDescriptor (TJ3 k).2.2.1 = some (tyJ3 k) := by decide +kernel
abbrev cJ3_checkIndex_8e157 : ByteArray := prog_32_method_11_code
def yJ3_checkIndex_8e157 : MethodName := ⟨RJ3, "checkIndex", "(IILjava/util/function/BiFunction;)I"⟩
def RL : String := "FixityhallLaw"
abbrev cL_part : ByteArray := method_2_code
def yL_part : MethodName := ⟨RL, "part", "([III)I"⟩
abbrev cL_formats : ByteArray := method_3_code
def yL_formats : MethodName := ⟨RL, "formats", "(LFixityhall;IIII)I"⟩
abbrev cL_versions : ByteArray := method_4_code
def yL_versions : MethodName := ⟨RL, "versions", "(LFixityhall;IIII)I"⟩
abbrev cL_reads : ByteArray := method_5_code
def yL_reads : MethodName := ⟨RL, "reads", "(LFixityhall;II)I"⟩
abbrev cL_copies : ByteArray := method_6_code
def yL_copies : MethodName := ⟨RL, "copies", "(LFixityhall;IIII)I"⟩
abbrev cL_bits : ByteArray := method_7_code
def yL_bits : MethodName := ⟨RL, "bits", "(I)I"⟩
abbrev cL_areUnits : ByteArray := method_8_code
def yL_areUnits : MethodName := ⟨RL, "areUnits", "(LFixityhall;[I)Z"⟩
abbrev cL_areObjects : ByteArray := method_9_code
def yL_areObjects : MethodName := ⟨RL, "areObjects", "(LFixityhall;[I[I[I[I)Z"⟩
abbrev cL_areWays : ByteArray := method_10_code
def yL_areWays : MethodName := ⟨RL, "areWays", "(LFixityhall;[I[I[I)Z"⟩
abbrev cL_latest : ByteArray := method_11_code
def yL_latest : MethodName := ⟨RL, "latest", "(I)I"⟩
abbrev cL_isFormat : ByteArray := method_12_code
def yL_isFormat : MethodName := ⟨RL, "isFormat", "(LFixityhall;[I[IIIII)Z"⟩
abbrev cL_isAdded : ByteArray := method_13_code
def yL_isAdded : MethodName := ⟨RL, "isAdded", "(LFixityhall;[I[I[I[IIIII)Z"⟩
abbrev cL_isPurged : ByteArray := method_14_code
def yL_isPurged : MethodName := ⟨RL, "isPurged", "(LFixityhall;[I[I[I[III)Z"⟩
abbrev cL_isCopy : ByteArray := method_15_code
def yL_isCopy : MethodName := ⟨RL, "isCopy", "(LFixityhall;[IIIII)Z"⟩
abbrev cL_isDone : ByteArray := method_16_code
def yL_isDone : MethodName := ⟨RL, "isDone", "(LFixityhall;[II[I[I[I[I[I)Z"⟩
abbrev cL_law : ByteArray := code
def yL_law : MethodName := ⟨RL, "law", "([I)Z"⟩
abbrev vwCl : List vw_C := [(RJx4a65c, TJx4a65c, 3), (RX0, TX0, 3), (RX1, TX1, 4), (RX2, TX2, 4), (RX3, TX3, 8), (RX4, TX4, 5), (RX5, TX5, 3)]
